theorem serves_st (μ : Sg) : ∃ S' : Sg, (S' = (F_X10_chosen μ).2 ∨ S' = s2 (F_X10_chosen μ).2 25 10 ((1 : Int32) - (F_X10_chosen μ).2 25 10)) ∧ (F_X10_serves μ).1 = (F_X10_chosen μ).1 ∧
    (F_X10_serves μ).2 = s2 (s2 (F_X10_accesses S' (F_X10_place S' (S' 25 ((110 : Int32) + (F_X10_chosen μ).1).toNatClampNeg))) 25 ((350 : Int32) + (F_X10_chosen μ).1).toNatClampNeg (1 : Int32)) 25 ((430 : Int32) + (F_X10_chosen μ).1).toNatClampNeg (s2 (F_X10_accesses S' (F_X10_place S' (S' 25 ((110 : Int32) + (F_X10_chosen μ).1).toNatClampNeg))) 25 ((350 : Int32) + (F_X10_chosen μ).1).toNatClampNeg (1 : Int32) 25 8) := by
  unfold F_X10_serves
  split
  · split
    · exact ⟨_, Or.inr rfl, rfl, rfl⟩
    · exact ⟨_, Or.inl rfl, rfl, rfl⟩
  · exact ⟨_, Or.inl rfl, rfl, rfl⟩
theorem serves_ok {μ : Sg} (hM : MOKg (μ 25)) (hp : pnd (μ 25) (F_X10_chosen μ).1) : MOKg ((F_X10_serves μ).2 25) ∧ (F_X10_serves μ).2 25 12 = μ 25 12 ∧ ∀ m : Nat, m ≤ 80 → μ 25 12 = nI m → pcnt ((F_X10_serves μ).2 25) m + 1 = pcnt (μ 25) m := by
  obtain ⟨S', hS, -, e2⟩ := serves_st μ
  obtain ⟨mm, j, hm, em, hj, ej, h0⟩ := hp
  have hC : MOKg ((F_X10_chosen μ).2 25) := by rw [chosen_25 hM]; exact hM
  have hS' : MOKg (S' 25) := by
    rcases hS with e | e
    · rw [e]; exact hC
    · rw [e]; exact hC.put10
  have hsame : ∀ i, i ≠ 10 → S' 25 i = μ 25 i := by
    intro i hi
    rcases hS with e | e
    · rw [e, chosen_25 hM]
    · rw [e, s2_n hi, chosen_25 hM]
  have hr : rq (F_X10_chosen μ).1 := ⟨j, by omega, ej⟩
  have hpl := place_plc hS'.1 (rq_blk hS' hr)
  rw [e2, show ((350 : Int32) + (F_X10_chosen μ).1).toNatClampNeg = 350 + j by rw [ej]; exact tnA (c := 350) (by omega), show ((430 : Int32) + (F_X10_chosen μ).1).toNatClampNeg = 430 + j by rw [ej]; exact tnA (c := 430) (by omega)]
  refine ⟨((hS'.acc hpl).put (by omega)).put (by omega), ?_, ?_⟩
  · obtain ⟨p, hp, ep⟩ := hpl
    rw [s2_n (by omega), s2_n (by omega), ep, acc_fr hp (by omega) (by omega) (by omega) (by omega)]
    exact hsame 12 (by omega)
  · intro m hm80 emm
    have hmm : m = mm := by
      rw [em, nI_eq (by omega) (by omega)] at emm; exact emm.symm
    subst hmm
    refine pcnt_clear h0 ?_ m hj (fun x hx hx2 => ?_)
    · rw [s2_n (by omega), s2_e]; decide
    · obtain ⟨p, hp, ep⟩ := hpl
      rw [s2_n (by omega), s2_n (by omega), ep, acc_fr hp (by omega) (by omega) (by omega) (by omega)]
      exact hsame _ (by omega)
theorem sf_step {μ : Sg} {n : Nat} (hM : MOKg (μ 25)) (hc : ∃ m : Nat, m ≤ 80 ∧ μ 25 12 = nI m ∧ pcnt (μ 25) m < n + 1) (h : ¬ F_X10_pending μ ≤ 0) : MOKg ((F_X10_serves μ).2 25) ∧ ∃ m : Nat, m ≤ 80 ∧ (F_X10_serves μ).2 25 12 = nI m ∧ pcnt ((F_X10_serves μ).2 25) m < n := by
  have hp := chosen_pnd hM (fun e => h (by rw [e]; decide))
  obtain ⟨a, b, d⟩ := serves_ok hM hp
  obtain ⟨m, h80, em, hm⟩ := hc
  refine ⟨a, m, h80, by rw [b]; exact em, ?_⟩
  have := d m h80 em
  omega
theorem sf_rq {μ : Sg} (hM : MOKg (μ 25)) (h : ¬ F_X10_pending μ ≤ 0) : rq (F_X10_chosen μ).1 := (chosen_pnd hM (fun e => h (by rw [e]; decide))).rq
def L_X10_serveFor_52 (μ : Sg) (tk : Int32) : Nat → Int32 → Int32 → Sg → Int32 × Sg
  | 0, _, _, _ => (0, μ)
  | n + 1, en, x, μ1 => (if (F_X10_pending μ1) ≤ 0 then (x, μ1) else (if en ≤ (μ1 25 8) then (x, μ1) else L_X10_serveFor_52 μ tk n en (x + (1 : Int32)) (F_X10_serves μ1).2))
def F_X10_serveFor (μ : Sg) (tk : Int32) : Int32 × Sg := (if (F_X10_in tk (1 : Int32) (9999 : Int32)) = 0 then ((F_X10_fails (s2 μ 24 1 (0 : Int32)) (1 : Int32)).1, (F_X10_fails (s2 μ 24 1 (0 : Int32)) (1 : Int32)).2) else (if (μ 25 8) ≤ (100000 : Int32) then L_X10_serveFor_52 μ tk 81 ((μ 25 8) + tk) (0 : Int32) (s2 μ 24 1 (0 : Int32)) else ((F_X10_fails (s2 μ 24 1 (0 : Int32)) (2 : Int32)).1, (F_X10_fails (s2 μ 24 1 (0 : Int32)) (2 : Int32)).2)))
abbrev rm_X10_serveFor : Room := { frames := 74, cells := 0, slots := 0, locals := 2891 }
set_option maxRecDepth 100000 in
set_option maxHeartbeats 4000000 in
theorem m_X10_serveFor (l : Launch) (G : GG) (E : EE) (σ μ : Sg) (Y : va_W) (tk : Int32) (hM : MOKg (μ 25)) : KK l G yX10_serveFor cX10_serveFor 4 (some .int) rm_X10_serveFor [.ref (E.1 24), .int tk] (Wd G E σ μ Y) (some (.int (F_X10_serveFor μ tk).1)) (Wd G E σ (F_X10_serveFor μ tk).2 Y) := by
  refine KE.of (by decide) (Nat.le_of_ble_eq_true rfl) ?_
  intro zp ze zs zm za zb zt zc zA C _
  generalize hQ : MQ zb _ za zs _ _ zA = Q
  have loop_52 : ∀ (n : Nat) (en : Int32) (x : Int32) (μ1 : Sg), (MOKg (μ1 25) ∧ ∃ m : Nat, m ≤ 80 ∧ μ1 25 12 = nI m ∧ pcnt (μ1 25) m < n) → F_X10_serveFor μ tk = L_X10_serveFor_52 μ tk n en x μ1 → V zp l ze rm_X10_serveFor zs zm za zb zt zc 4 G zA 0 0 Q 52 [(0, .ref (E.1 24)), (1, .int tk), (2, .int en), (3, .int x)] [] (Wd G E σ μ1 Y) := by
    intro n
    induction n with
    | zero =>
      intro en x μ1 hI hL
      exact False.elim (by obtain ⟨_, m, _, _, h⟩ := hI; omega)
    | succ n ih =>
      intro en x μ1 hI hL
      obtain ⟨hM1, hc⟩ := hI
      refine v_aload_n C 0 rfl dX10_serveFor_52 ?_
      refine v_cV1 (rest := []) C mv_RX10_103 (m_X10_pending l G E σ μ1 Y hM1.2.1) 24 g_24 rfl rfl rfl rfl (Nat.le_of_ble_eq_true rfl) ⟨Nat.le_of_ble_eq_true rfl, Nat.le_of_ble_eq_true rfl⟩ ⟨rfl, rfl⟩ ⟨Nat.zero_le _, Nat.zero_le _⟩ dX10_serveFor_53 ?_
      refine v_if_le (tgt := 81) C (by decide) dX10_serveFor_56 (fun h1 => ?_) (fun h1 => ?_)
      · refine v_iload_n C 3 rfl dX10_serveFor_81 ?_
        have e1 : F_X10_serveFor μ tk = (x, μ1) := by rw [hL, L_X10_serveFor_52, if_pos h1]
        exact v_Q hQ (v_iret C () trivial (by rw [e1]) (by rw [e1]) (Nat.zero_le _) (Nat.zero_le _) dX10_serveFor_82)
      · refine v_aload_n C 0 rfl dX10_serveFor_59 ?_
        refine v_get (v := .ref (E.1 25)) C fl_RX10_7 24 g_24 rfl dX10_serveFor_60 ?_
        refine v_bipush (v := (8 : Int32)) C (by decide) dX10_serveFor_63 ?_
        refine v_iald (v := μ1 25 8) C 25 g_25 vi_8_1700 (rdl tn_8 rfl) dX10_serveFor_65 ?_
        refine v_iload_n C 2 rfl dX10_serveFor_66 ?_
        refine v_icmp_ge (tgt := 81) C (by decide) dX10_serveFor_67 (fun h2 => ?_) (fun h2 => ?_)
        · refine v_iload_n C 3 rfl dX10_serveFor_81 ?_
          have e1 : F_X10_serveFor μ tk = (x, μ1) := by rw [hL, L_X10_serveFor_52, if_neg h1, if_pos h2]
          exact v_Q hQ (v_iret C () trivial (by rw [e1]) (by rw [e1]) (Nat.zero_le _) (Nat.zero_le _) dX10_serveFor_82)
        · refine v_aload_n C 0 rfl dX10_serveFor_70 ?_
          refine v_cV1 (rest := []) C mv_RX10_186 (m_X10_serves l G E σ μ1 Y hM1 (sf_rq hM1 h1)) 24 g_24 rfl rfl rfl rfl (Nat.le_of_ble_eq_true rfl) ⟨Nat.le_of_ble_eq_true rfl, Nat.le_of_ble_eq_true rfl⟩ ⟨rfl, rfl⟩ ⟨Nat.zero_le _, Nat.zero_le _⟩ dX10_serveFor_71 ?_
          refine v_pop C rfl dX10_serveFor_74 ?_
          refine v_iinc (v := x + (1 : Int32)) (lv' := [(3, .int (x + (1 : Int32))), (0, .ref (E.1 24)), (1, .int tk), (2, .int en)]) C 3 rfl rfl (Nat.le_of_ble_eq_true rfl) rfl dX10_serveFor_75 ?_
          refine v_goto (tgt := 52) C (by decide) dX10_serveFor_78 ?_
          refine v_lv [1, 2, 3, 0] rfl ?_
          exact ih en (x + (1 : Int32)) (F_X10_serves μ1).2 (sf_step hM1 hc h1) (by rw [hL, L_X10_serveFor_52, if_neg h1, if_neg h2])
  show V zp l ze rm_X10_serveFor zs zm za zb zt zc 4 G zA 0 0 Q 0 [(0, .ref (E.1 24)), (1, .int tk)] [] (Wd G E σ μ Y)
  refine v_aload_n C 0 rfl dX10_serveFor_0 ?_
  refine v_iconst (v := (0 : Int32)) C (by decide) dX10_serveFor_1 ?_
  refine v_put C fp_RX10_39 24 g_24 rfl rfl (Nat.le_of_ble_eq_true rfl) (p_24_3 _) dX10_serveFor_2 ?_
  refine v_iload_n C 1 rfl dX10_serveFor_5 ?_
  refine v_iconst (v := (1 : Int32)) C (by decide) dX10_serveFor_6 ?_
  refine v_sipush (v := (9999 : Int32)) C (by decide) dX10_serveFor_7 ?_
  refine v_cS1 (rest := []) C ms_RX10_42 (m_X10_in l G E σ (s2 μ 24 1 (0 : Int32)) Y tk (1 : Int32) (9999 : Int32)) rfl rfl (Nat.le_of_ble_eq_true rfl) ⟨Nat.le_of_ble_eq_true rfl, Nat.le_of_ble_eq_true rfl⟩ ⟨rfl, rfl⟩ ⟨Nat.zero_le _, Nat.zero_le _⟩ dX10_serveFor_10 ?_
  refine v_if_ne (tgt := 22) C (by decide) dX10_serveFor_13 (fun h3 => ?_) (fun h3 => ?_)
  · refine v_aload_n C 0 rfl dX10_serveFor_22 ?_
    refine v_get (v := .ref (E.1 25)) C fl_RX10_7 24 g_24 rfl dX10_serveFor_23 ?_
    refine v_bipush (v := (8 : Int32)) C (by decide) dX10_serveFor_26 ?_
    refine v_iald (v := μ 25 8) C 25 g_25 vi_8_1700 (rdl tn_8 rfl) dX10_serveFor_28 ?_
    refine v_ldc (v := (100000 : Int32)) C w_1351 dX10_serveFor_29 ?_
    refine v_icmp_le (tgt := 40) C (by decide) dX10_serveFor_31 (fun h4 => ?_) (fun h4 => ?_)
    · refine v_aload_n C 0 rfl dX10_serveFor_40 ?_
      refine v_get (v := .ref (E.1 25)) C fl_RX10_7 24 g_24 rfl dX10_serveFor_41 ?_
      refine v_bipush (v := (8 : Int32)) C (by decide) dX10_serveFor_44 ?_
      refine v_iald (v := μ 25 8) C 25 g_25 vi_8_1700 (rdl tn_8 rfl) dX10_serveFor_46 ?_
      refine v_iload_n C 1 rfl dX10_serveFor_47 ?_
      refine v_iadd C dX10_serveFor_48 ?_
      refine v_istore_n (lv' := [(2, .int ((μ 25 8) + tk)), (0, .ref (E.1 24)), (1, .int tk)]) C (Nat.le_of_ble_eq_true rfl) rfl dX10_serveFor_49 ?_
      refine v_iconst (v := (0 : Int32)) C (by decide) dX10_serveFor_50 ?_
      refine v_istore_n (lv' := [(3, .int (0 : Int32)), (2, .int ((μ 25 8) + tk)), (0, .ref (E.1 24)), (1, .int tk)]) C (Nat.le_of_ble_eq_true rfl) rfl dX10_serveFor_51 ?_
      refine v_lv [2, 3, 1, 0] rfl ?_
      exact loop_52 81 ((μ 25 8) + tk) (0 : Int32) (s2 μ 24 1 (0 : Int32)) (⟨hM, by obtain ⟨m, hm, em⟩ := hM.2.1; exact ⟨m, hm, em, by have := pcnt_le (μ 25) m; show pcnt (μ 25) m < 81; omega⟩⟩) (by rw [F_X10_serveFor, if_neg h3, if_pos h4])
    · refine v_aload_n C 0 rfl dX10_serveFor_34 ?_
      refine v_iconst (v := (2 : Int32)) C (by decide) dX10_serveFor_35 ?_
      refine v_cV1 (rest := []) C mv_RX10_78 (m_X10_fails l G E σ (s2 μ 24 1 (0 : Int32)) Y (2 : Int32)) 24 g_24 rfl rfl rfl rfl (Nat.le_of_ble_eq_true rfl) ⟨Nat.le_of_ble_eq_true rfl, Nat.le_of_ble_eq_true rfl⟩ ⟨rfl, rfl⟩ ⟨Nat.zero_le _, Nat.zero_le _⟩ dX10_serveFor_36 ?_
      have e1 : F_X10_serveFor μ tk = ((F_X10_fails (s2 μ 24 1 (0 : Int32)) (2 : Int32)).1, (F_X10_fails (s2 μ 24 1 (0 : Int32)) (2 : Int32)).2) := by rw [F_X10_serveFor, if_neg h3, if_neg h4]
      exact v_Q hQ (v_iret C () trivial (by rw [e1]) (by rw [e1]) (Nat.zero_le _) (Nat.zero_le _) dX10_serveFor_39)
  · refine v_aload_n C 0 rfl dX10_serveFor_16 ?_
    refine v_iconst (v := (1 : Int32)) C (by decide) dX10_serveFor_17 ?_
    refine v_cV1 (rest := []) C mv_RX10_78 (m_X10_fails l G E σ (s2 μ 24 1 (0 : Int32)) Y (1 : Int32)) 24 g_24 rfl rfl rfl rfl (Nat.le_of_ble_eq_true rfl) ⟨Nat.le_of_ble_eq_true rfl, Nat.le_of_ble_eq_true rfl⟩ ⟨rfl, rfl⟩ ⟨Nat.zero_le _, Nat.zero_le _⟩ dX10_serveFor_18 ?_
    have e1 : F_X10_serveFor μ tk = ((F_X10_fails (s2 μ 24 1 (0 : Int32)) (1 : Int32)).1, (F_X10_fails (s2 μ 24 1 (0 : Int32)) (1 : Int32)).2) := by rw [F_X10_serveFor, if_pos h3]
    exact v_Q hQ (v_iret C () trivial (by rw [e1]) (by rw [e1]) (Nat.zero_le _) (Nat.zero_le _) dX10_serveFor_21)
def F_X10_bestFinish (μ : Sg) : Int32 × Sg := (if (F_X10_pending (s2 μ 24 1 (0 : Int32))) ≤ (6 : Int32) then ((F_X10_searches (s2 μ 24 1 (0 : Int32)) (0 : Int32) (0 : Int32) (6 : Int32)) 24 8, (F_X10_searches (s2 μ 24 1 (0 : Int32)) (0 : Int32) (0 : Int32) (6 : Int32))) else ((F_X10_fails (s2 μ 24 1 (0 : Int32)) (1 : Int32)).1, (F_X10_fails (s2 μ 24 1 (0 : Int32)) (1 : Int32)).2))
abbrev rm_X10_bestFinish : Room := { frames := 72, cells := 0, slots := 0, locals := 2850 }
set_option maxRecDepth 100000 in
set_option maxHeartbeats 4000000 in
theorem m_X10_bestFinish (l : Launch) (G : GG) (E : EE) (σ μ : Sg) (Y : va_W) (hM : MOKg (μ 25)) : KK l G yX10_bestFinish cX10_bestFinish 1 (some .int) rm_X10_bestFinish [.ref (E.1 24)] (Wd G E σ μ Y) (some (.int (F_X10_bestFinish μ).1)) (Wd G E σ (F_X10_bestFinish μ).2 Y) := by
  refine KE.of (by decide) (Nat.le_of_ble_eq_true rfl) ?_
  intro zp ze zs zm za zb zt zc zA C _
  generalize hQ : MQ zb _ za zs _ _ zA = Q
  show V zp l ze rm_X10_bestFinish zs zm za zb zt zc 1 G zA 0 0 Q 0 [(0, .ref (E.1 24))] [] (Wd G E σ μ Y)
  refine v_aload_n C 0 rfl dX10_bestFinish_0 ?_
  refine v_iconst (v := (0 : Int32)) C (by decide) dX10_bestFinish_1 ?_
  refine v_put C fp_RX10_39 24 g_24 rfl rfl (Nat.le_of_ble_eq_true rfl) (p_24_3 _) dX10_bestFinish_2 ?_
  refine v_aload_n C 0 rfl dX10_bestFinish_5 ?_
  refine v_cV1 (rest := []) C mv_RX10_103 (m_X10_pending l G E σ (s2 μ 24 1 (0 : Int32)) Y hM.2.1) 24 g_24 rfl rfl rfl rfl (Nat.le_of_ble_eq_true rfl) ⟨Nat.le_of_ble_eq_true rfl, Nat.le_of_ble_eq_true rfl⟩ ⟨rfl, rfl⟩ ⟨Nat.zero_le _, Nat.zero_le _⟩ dX10_bestFinish_6 ?_
  refine v_bipush (v := (6 : Int32)) C (by decide) dX10_bestFinish_9 ?_
  refine v_icmp_le (tgt := 20) C (by decide) dX10_bestFinish_11 (fun h1 => ?_) (fun h1 => ?_)
  · refine v_aload_n C 0 rfl dX10_bestFinish_20 ?_
    refine v_iconst (v := (0 : Int32)) C (by decide) dX10_bestFinish_21 ?_
    refine v_iconst (v := (0 : Int32)) C (by decide) dX10_bestFinish_22 ?_
    refine v_bipush (v := (6 : Int32)) C (by decide) dX10_bestFinish_23 ?_
    refine v_cV0 (rest := []) C mv_RX10_175 (m_X10_searches l G E σ (s2 μ 24 1 (0 : Int32)) Y (0 : Int32) (0 : Int32) (6 : Int32) hM (Or.inl rfl) (⟨6, by omega, rfl⟩)) 24 g_24 rfl rfl rfl rfl (Nat.le_of_ble_eq_true rfl) ⟨Nat.le_of_ble_eq_true rfl, Nat.le_of_ble_eq_true rfl⟩ ⟨rfl, rfl⟩ ⟨Nat.zero_le _, Nat.zero_le _⟩ dX10_bestFinish_25 ?_
    refine v_aload_n C 0 rfl dX10_bestFinish_28 ?_
    refine v_get (v := .int ((F_X10_searches (s2 μ 24 1 (0 : Int32)) (0 : Int32) (0 : Int32) (6 : Int32)) 24 8)) C fl_RX10_161 24 g_24 rfl dX10_bestFinish_29 ?_
    have e1 : F_X10_bestFinish μ = ((F_X10_searches (s2 μ 24 1 (0 : Int32)) (0 : Int32) (0 : Int32) (6 : Int32)) 24 8, (F_X10_searches (s2 μ 24 1 (0 : Int32)) (0 : Int32) (0 : Int32) (6 : Int32))) := by rw [F_X10_bestFinish, if_pos h1]
    exact v_Q hQ (v_iret C () trivial (by rw [e1]) (by rw [e1]) (Nat.zero_le _) (Nat.zero_le _) dX10_bestFinish_32)
  · refine v_aload_n C 0 rfl dX10_bestFinish_14 ?_
    refine v_iconst (v := (1 : Int32)) C (by decide) dX10_bestFinish_15 ?_
    refine v_cV1 (rest := []) C mv_RX10_78 (m_X10_fails l G E σ (s2 μ 24 1 (0 : Int32)) Y (1 : Int32)) 24 g_24 rfl rfl rfl rfl (Nat.le_of_ble_eq_true rfl) ⟨Nat.le_of_ble_eq_true rfl, Nat.le_of_ble_eq_true rfl⟩ ⟨rfl, rfl⟩ ⟨Nat.zero_le _, Nat.zero_le _⟩ dX10_bestFinish_16 ?_
    have e1 : F_X10_bestFinish μ = ((F_X10_fails (s2 μ 24 1 (0 : Int32)) (1 : Int32)).1, (F_X10_fails (s2 μ 24 1 (0 : Int32)) (1 : Int32)).2) := by rw [F_X10_bestFinish, if_neg h1]
    exact v_Q hQ (v_iret C () trivial (by rw [e1]) (by rw [e1]) (Nat.zero_le _) (Nat.zero_le _) dX10_bestFinish_19)
theorem fews_eq {μ : Sg} {wd mi : Int32} (hM : MOKg (μ 25)) : ∃ f : Nat, f ≤ 6 ∧ F_X10_searches μ wd mi 6 24 7 = nI f := by
  obtain ⟨mm, hm, em⟩ := hM.2.1
  obtain ⟨-, fm, -, hF, -⟩ := searches_spec (μ := μ) (wd := wd) (mi := mi) (mo := 6) (m6 := 6) hm em (by omega) rfl
  exact ⟨_, hF.1, hF.2.1⟩
theorem br_in {μ : Sg} {wd mi po : Int32} (hM : MOKg (μ 25)) (h : ¬ F_X10_in po 0 (F_X10_searches μ wd mi 6 24 7 - 1) = 0) : vp_in po 12 := by
  obtain ⟨f, hf, ef⟩ := fews_eq (wd := wd) (mi := mi) hM
  obtain ⟨a, b⟩ := in_of h
  rw [ef] at b
  rcases Nat.eq_zero_or_pos f with q | q
  · exfalso; subst q
    exact absurd (Int32.le_trans a b) (by decide)
  · have e1 : nI f - (1 : Int32) = nI (f - 1) := by
      have := nI_pred (f - 1)
      rwa [show f - 1 + 1 = f by omega] at this
    rw [e1] at b
    obtain ⟨j, hj, ej⟩ := nI_rng (N := f - 1) (by omega) ⟨a, b⟩
    exact vi_x ej (by omega) (by decide)
def F_X10_bestRequest (μ : Sg) (po : Int32) : Int32 × Sg := (if (F_X10_pending (s2 μ 24 1 (0 : Int32))) ≤ (6 : Int32) then (if (F_X10_in po (0 : Int32) (((F_X10_searches (s2 μ 24 1 (0 : Int32)) (0 : Int32) (0 : Int32) (6 : Int32)) 24 7) - (1 : Int32))) = 0 then ((F_X10_fails (F_X10_searches (s2 μ 24 1 (0 : Int32)) (0 : Int32) (0 : Int32) (6 : Int32)) (2 : Int32)).1, (F_X10_fails (F_X10_searches (s2 μ 24 1 (0 : Int32)) (0 : Int32) (0 : Int32) (6 : Int32)) (2 : Int32)).2) else ((F_X10_searches (s2 μ 24 1 (0 : Int32)) (0 : Int32) (0 : Int32) (6 : Int32)) 31 (po).toNatClampNeg, (F_X10_searches (s2 μ 24 1 (0 : Int32)) (0 : Int32) (0 : Int32) (6 : Int32)))) else ((F_X10_fails (s2 μ 24 1 (0 : Int32)) (1 : Int32)).1, (F_X10_fails (s2 μ 24 1 (0 : Int32)) (1 : Int32)).2))
abbrev rm_X10_bestRequest : Room := { frames := 72, cells := 0, slots := 0, locals := 2850 }
set_option maxRecDepth 100000 in
set_option maxHeartbeats 4000000 in
theorem m_X10_bestRequest (l : Launch) (G : GG) (E : EE) (σ μ : Sg) (Y : va_W) (po : Int32) (hM : MOKg (μ 25)) : KK l G yX10_bestRequest cX10_bestRequest 2 (some .int) rm_X10_bestRequest [.ref (E.1 24), .int po] (Wd G E σ μ Y) (some (.int (F_X10_bestRequest μ po).1)) (Wd G E σ (F_X10_bestRequest μ po).2 Y) := by
  refine KE.of (by decide) (Nat.le_of_ble_eq_true rfl) ?_
  intro zp ze zs zm za zb zt zc zA C _
  generalize hQ : MQ zb _ za zs _ _ zA = Q
  show V zp l ze rm_X10_bestRequest zs zm za zb zt zc 2 G zA 0 0 Q 0 [(0, .ref (E.1 24)), (1, .int po)] [] (Wd G E σ μ Y)
  refine v_aload_n C 0 rfl dX10_bestRequest_0 ?_
  refine v_iconst (v := (0 : Int32)) C (by decide) dX10_bestRequest_1 ?_
  refine v_put C fp_RX10_39 24 g_24 rfl rfl (Nat.le_of_ble_eq_true rfl) (p_24_3 _) dX10_bestRequest_2 ?_
  refine v_aload_n C 0 rfl dX10_bestRequest_5 ?_
  refine v_cV1 (rest := []) C mv_RX10_103 (m_X10_pending l G E σ (s2 μ 24 1 (0 : Int32)) Y hM.2.1) 24 g_24 rfl rfl rfl rfl (Nat.le_of_ble_eq_true rfl) ⟨Nat.le_of_ble_eq_true rfl, Nat.le_of_ble_eq_true rfl⟩ ⟨rfl, rfl⟩ ⟨Nat.zero_le _, Nat.zero_le _⟩ dX10_bestRequest_6 ?_
  refine v_bipush (v := (6 : Int32)) C (by decide) dX10_bestRequest_9 ?_
  refine v_icmp_le (tgt := 20) C (by decide) dX10_bestRequest_11 (fun h1 => ?_) (fun h1 => ?_)
  · refine v_aload_n C 0 rfl dX10_bestRequest_20 ?_
    refine v_iconst (v := (0 : Int32)) C (by decide) dX10_bestRequest_21 ?_
    refine v_iconst (v := (0 : Int32)) C (by decide) dX10_bestRequest_22 ?_
    refine v_bipush (v := (6 : Int32)) C (by decide) dX10_bestRequest_23 ?_
    refine v_cV0 (rest := []) C mv_RX10_175 (m_X10_searches l G E σ (s2 μ 24 1 (0 : Int32)) Y (0 : Int32) (0 : Int32) (6 : Int32) hM (Or.inl rfl) (⟨6, by omega, rfl⟩)) 24 g_24 rfl rfl rfl rfl (Nat.le_of_ble_eq_true rfl) ⟨Nat.le_of_ble_eq_true rfl, Nat.le_of_ble_eq_true rfl⟩ ⟨rfl, rfl⟩ ⟨Nat.zero_le _, Nat.zero_le _⟩ dX10_bestRequest_25 ?_
    refine v_iload_n C 1 rfl dX10_bestRequest_28 ?_
    refine v_iconst (v := (0 : Int32)) C (by decide) dX10_bestRequest_29 ?_
    refine v_aload_n C 0 rfl dX10_bestRequest_30 ?_
    refine v_get (v := .int ((F_X10_searches (s2 μ 24 1 (0 : Int32)) (0 : Int32) (0 : Int32) (6 : Int32)) 24 7)) C fl_RX10_158 24 g_24 rfl dX10_bestRequest_31 ?_
    refine v_iconst (v := (1 : Int32)) C (by decide) dX10_bestRequest_34 ?_
    refine v_isub C dX10_bestRequest_35 ?_
    refine v_cS1 (rest := []) C ms_RX10_42 (m_X10_in l G E σ (F_X10_searches (s2 μ 24 1 (0 : Int32)) (0 : Int32) (0 : Int32) (6 : Int32)) Y po (0 : Int32) (((F_X10_searches (s2 μ 24 1 (0 : Int32)) (0 : Int32) (0 : Int32) (6 : Int32)) 24 7) - (1 : Int32))) rfl rfl (Nat.le_of_ble_eq_true rfl) ⟨Nat.le_of_ble_eq_true rfl, Nat.le_of_ble_eq_true rfl⟩ ⟨rfl, rfl⟩ ⟨Nat.zero_le _, Nat.zero_le _⟩ dX10_bestRequest_36 ?_
    refine v_if_eq (tgt := 51) C (by decide) dX10_bestRequest_39 (fun h2 => ?_) (fun h2 => ?_)
    · refine v_aload_n C 0 rfl dX10_bestRequest_51 ?_
      refine v_iconst (v := (2 : Int32)) C (by decide) dX10_bestRequest_52 ?_
      refine v_cV1 (rest := []) C mv_RX10_78 (m_X10_fails l G E σ (F_X10_searches (s2 μ 24 1 (0 : Int32)) (0 : Int32) (0 : Int32) (6 : Int32)) Y (2 : Int32)) 24 g_24 rfl rfl rfl rfl (Nat.le_of_ble_eq_true rfl) ⟨Nat.le_of_ble_eq_true rfl, Nat.le_of_ble_eq_true rfl⟩ ⟨rfl, rfl⟩ ⟨Nat.zero_le _, Nat.zero_le _⟩ dX10_bestRequest_53 ?_
      have e1 : F_X10_bestRequest μ po = ((F_X10_fails (F_X10_searches (s2 μ 24 1 (0 : Int32)) (0 : Int32) (0 : Int32) (6 : Int32)) (2 : Int32)).1, (F_X10_fails (F_X10_searches (s2 μ 24 1 (0 : Int32)) (0 : Int32) (0 : Int32) (6 : Int32)) (2 : Int32)).2) := by rw [F_X10_bestRequest, if_pos h1, if_pos h2]
      exact v_Q hQ (v_iret C () trivial (by rw [e1]) (by rw [e1]) (Nat.zero_le _) (Nat.zero_le _) dX10_bestRequest_56)
    · refine v_aload_n C 0 rfl dX10_bestRequest_42 ?_
      refine v_get (v := .ref (E.1 31)) C fl_RX10_32 24 g_24 rfl dX10_bestRequest_43 ?_
      refine v_iload_n C 1 rfl dX10_bestRequest_46 ?_
      refine v_iald (v := (F_X10_searches (s2 μ 24 1 (0 : Int32)) (0 : Int32) (0 : Int32) (6 : Int32)) 31 (po).toNatClampNeg) C 31 g_31 (br_in (μ := s2 μ 24 1 0) hM h2) rfl dX10_bestRequest_47 ?_
      refine v_goto (tgt := 56) C (by decide) dX10_bestRequest_48 ?_
      have e1 : F_X10_bestRequest μ po = ((F_X10_searches (s2 μ 24 1 (0 : Int32)) (0 : Int32) (0 : Int32) (6 : Int32)) 31 (po).toNatClampNeg, (F_X10_searches (s2 μ 24 1 (0 : Int32)) (0 : Int32) (0 : Int32) (6 : Int32))) := by rw [F_X10_bestRequest, if_pos h1, if_neg h2]
      exact v_Q hQ (v_iret C () trivial (by rw [e1]) (by rw [e1]) (Nat.zero_le _) (Nat.zero_le _) dX10_bestRequest_56)
  · refine v_aload_n C 0 rfl dX10_bestRequest_14 ?_
    refine v_iconst (v := (1 : Int32)) C (by decide) dX10_bestRequest_15 ?_
    refine v_cV1 (rest := []) C mv_RX10_78 (m_X10_fails l G E σ (s2 μ 24 1 (0 : Int32)) Y (1 : Int32)) 24 g_24 rfl rfl rfl rfl (Nat.le_of_ble_eq_true rfl) ⟨Nat.le_of_ble_eq_true rfl, Nat.le_of_ble_eq_true rfl⟩ ⟨rfl, rfl⟩ ⟨Nat.zero_le _, Nat.zero_le _⟩ dX10_bestRequest_16 ?_
    have e1 : F_X10_bestRequest μ po = ((F_X10_fails (s2 μ 24 1 (0 : Int32)) (1 : Int32)).1, (F_X10_fails (s2 μ 24 1 (0 : Int32)) (1 : Int32)).2) := by rw [F_X10_bestRequest, if_neg h1]
    exact v_Q hQ (v_iret C () trivial (by rw [e1]) (by rw [e1]) (Nat.zero_le _) (Nat.zero_le _) dX10_bestRequest_19)
def F_X10_canMeetDeadlines (μ : Sg) : Int32 × Sg := (if (F_X10_pending (s2 μ 24 1 (0 : Int32))) ≤ (6 : Int32) then (if ((F_X10_searches (s2 μ 24 1 (0 : Int32)) (0 : Int32) (1 : Int32) (6 : Int32)) 24 8) < 0 then ((0 : Int32), (F_X10_searches (s2 μ 24 1 (0 : Int32)) (0 : Int32) (1 : Int32) (6 : Int32))) else ((1 : Int32), (F_X10_searches (s2 μ 24 1 (0 : Int32)) (0 : Int32) (1 : Int32) (6 : Int32)))) else ((0 : Int32), (s2 (s2 μ 24 1 (0 : Int32)) 24 1 (1 : Int32))))
theorem z01_X10_canMeetDeadlines (μ : Sg) : (F_X10_canMeetDeadlines μ).1 = 0 ∨ (F_X10_canMeetDeadlines μ).1 = 1 := by
  unfold F_X10_canMeetDeadlines; (repeat' split) <;> first | exact Or.inl rfl | exact Or.inr rfl
abbrev rm_X10_canMeetDeadlines : Room := { frames := 72, cells := 0, slots := 0, locals := 2850 }
set_option maxRecDepth 100000 in
set_option maxHeartbeats 4000000 in
theorem m_X10_canMeetDeadlines (l : Launch) (G : GG) (E : EE) (σ μ : Sg) (Y : va_W) (hM : MOKg (μ 25)) : KK l G yX10_canMeetDeadlines cX10_canMeetDeadlines 1 (some .boolean) rm_X10_canMeetDeadlines [.ref (E.1 24)] (Wd G E σ μ Y) (some (.int (F_X10_canMeetDeadlines μ).1)) (Wd G E σ (F_X10_canMeetDeadlines μ).2 Y) := by
  refine KE.of (by decide) (Nat.le_of_ble_eq_true rfl) ?_
  intro zp ze zs zm za zb zt zc zA C _
  generalize hQ : MQ zb _ za zs _ _ zA = Q
  show V zp l ze rm_X10_canMeetDeadlines zs zm za zb zt zc 1 G zA 0 0 Q 0 [(0, .ref (E.1 24))] [] (Wd G E σ μ Y)
  refine v_aload_n C 0 rfl dX10_canMeetDeadlines_0 ?_
  refine v_iconst (v := (0 : Int32)) C (by decide) dX10_canMeetDeadlines_1 ?_
  refine v_put C fp_RX10_39 24 g_24 rfl rfl (Nat.le_of_ble_eq_true rfl) (p_24_3 _) dX10_canMeetDeadlines_2 ?_
  refine v_aload_n C 0 rfl dX10_canMeetDeadlines_5 ?_
  refine v_cV1 (rest := []) C mv_RX10_103 (m_X10_pending l G E σ (s2 μ 24 1 (0 : Int32)) Y hM.2.1) 24 g_24 rfl rfl rfl rfl (Nat.le_of_ble_eq_true rfl) ⟨Nat.le_of_ble_eq_true rfl, Nat.le_of_ble_eq_true rfl⟩ ⟨rfl, rfl⟩ ⟨Nat.zero_le _, Nat.zero_le _⟩ dX10_canMeetDeadlines_6 ?_
  refine v_bipush (v := (6 : Int32)) C (by decide) dX10_canMeetDeadlines_9 ?_
  refine v_icmp_le (tgt := 21) C (by decide) dX10_canMeetDeadlines_11 (fun h1 => ?_) (fun h1 => ?_)
  · refine v_aload_n C 0 rfl dX10_canMeetDeadlines_21 ?_
    refine v_iconst (v := (0 : Int32)) C (by decide) dX10_canMeetDeadlines_22 ?_
    refine v_iconst (v := (1 : Int32)) C (by decide) dX10_canMeetDeadlines_23 ?_
    refine v_bipush (v := (6 : Int32)) C (by decide) dX10_canMeetDeadlines_24 ?_
    refine v_cV0 (rest := []) C mv_RX10_175 (m_X10_searches l G E σ (s2 μ 24 1 (0 : Int32)) Y (0 : Int32) (1 : Int32) (6 : Int32) hM (Or.inr rfl) (⟨6, by omega, rfl⟩)) 24 g_24 rfl rfl rfl rfl (Nat.le_of_ble_eq_true rfl) ⟨Nat.le_of_ble_eq_true rfl, Nat.le_of_ble_eq_true rfl⟩ ⟨rfl, rfl⟩ ⟨Nat.zero_le _, Nat.zero_le _⟩ dX10_canMeetDeadlines_26 ?_
    refine v_aload_n C 0 rfl dX10_canMeetDeadlines_29 ?_
    refine v_get (v := .int ((F_X10_searches (s2 μ 24 1 (0 : Int32)) (0 : Int32) (1 : Int32) (6 : Int32)) 24 8)) C fl_RX10_161 24 g_24 rfl dX10_canMeetDeadlines_30 ?_
    refine v_if_lt (tgt := 40) C (by decide) dX10_canMeetDeadlines_33 (fun h2 => ?_) (fun h2 => ?_)
    · refine v_iconst (v := (0 : Int32)) C (by decide) dX10_canMeetDeadlines_40 ?_
      have e1 : F_X10_canMeetDeadlines μ = ((0 : Int32), (F_X10_searches (s2 μ 24 1 (0 : Int32)) (0 : Int32) (1 : Int32) (6 : Int32))) := by rw [F_X10_canMeetDeadlines, if_pos h1, if_pos h2]
      exact v_Q hQ (v_zret C rfl () trivial (by rw [e1]) (by rw [e1]) (Nat.zero_le _) (Nat.zero_le _) dX10_canMeetDeadlines_41)
    · refine v_iconst (v := (1 : Int32)) C (by decide) dX10_canMeetDeadlines_36 ?_
      refine v_goto (tgt := 41) C (by decide) dX10_canMeetDeadlines_37 ?_
      have e1 : F_X10_canMeetDeadlines μ = ((1 : Int32), (F_X10_searches (s2 μ 24 1 (0 : Int32)) (0 : Int32) (1 : Int32) (6 : Int32))) := by rw [F_X10_canMeetDeadlines, if_pos h1, if_neg h2]
      exact v_Q hQ (v_zret C rfl () trivial (by rw [e1]) (by rw [e1]) (Nat.zero_le _) (Nat.zero_le _) dX10_canMeetDeadlines_41)
  · refine v_aload_n C 0 rfl dX10_canMeetDeadlines_14 ?_
    refine v_iconst (v := (1 : Int32)) C (by decide) dX10_canMeetDeadlines_15 ?_
    refine v_put C fp_RX10_39 24 g_24 rfl rfl (Nat.le_of_ble_eq_true rfl) (p_24_3 _) dX10_canMeetDeadlines_16 ?_
    refine v_iconst (v := (0 : Int32)) C (by decide) dX10_canMeetDeadlines_19 ?_
    have e1 : F_X10_canMeetDeadlines μ = ((0 : Int32), (s2 (s2 μ 24 1 (0 : Int32)) 24 1 (1 : Int32))) := by rw [F_X10_canMeetDeadlines, if_neg h1]
    exact v_Q hQ (v_zret C rfl () trivial (by rw [e1]) (by rw [e1]) (Nat.zero_le _) (Nat.zero_le _) dX10_canMeetDeadlines_20)
