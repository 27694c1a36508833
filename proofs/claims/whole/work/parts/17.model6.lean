theorem fbz {v : Int32} (h : v = 0 ∨ v = 1) : fits .boolean (.int v) = true := by rcases h with rfl | rfl <;> rfl
theorem few_push {μ : Sg} {f : Nat} {x : Int32} (h : FEW μ f) (hf : f < 6) (hx : rq x) : FEW (s2 (s2 (s2 μ 29 (μ 24 7).toNatClampNeg x) 32 (μ 24 7).toNatClampNeg (0 : Int32)) 24 7 ((μ 24 7) + (1 : Int32))) (f + 1) := by
  have e : (μ 24 7).toNatClampNeg = f := by rw [h.2.1, nI_clamp (by omega)]
  rw [e]
  refine ⟨by omega, ?_, fun i hi => ?_⟩
  · rw [s2_e, h.2.1]; exact nI_1 f
  · show rq (s2 μ 29 f x 29 i)
    by_cases q : i = f
    · subst q; rw [s2_e]; exact hx
    · rw [s2_n q]; exact h.2.2 i (by omega)
def L_X10_searches_8 (μ : Sg) (wd : Int32) (mi : Int32) (mo : Int32) : Nat → Int32 → Sg → Sg
  | 0, _, _ => μ
  | n + 1, x, μ1 => (if (μ1 25 12) ≤ x then (F_X10_goes (s2 (s2 μ1 24 9 mi) 24 8 (-1 : Int32)) (0 : Int32) (μ1 25 8) (μ1 25 9)) else (if mo ≤ (μ1 24 7) then (F_X10_goes (s2 (s2 μ1 24 9 mi) 24 8 (-1 : Int32)) (0 : Int32) (μ1 25 8) (μ1 25 9)) else (if (F_X10_isPending μ1 x) = 0 then L_X10_searches_8 μ wd mi mo n (x + (1 : Int32)) μ1 else (if wd = 0 then L_X10_searches_8 μ wd mi mo n (x + (1 : Int32)) (s2 (s2 (s2 μ1 29 (μ1 24 7).toNatClampNeg x) 32 (μ1 24 7).toNatClampNeg (0 : Int32)) 24 7 ((μ1 24 7) + (1 : Int32))) else (if (μ1 25 ((270 : Int32) + x).toNatClampNeg) < 0 then L_X10_searches_8 μ wd mi mo n (x + (1 : Int32)) μ1 else L_X10_searches_8 μ wd mi mo n (x + (1 : Int32)) (s2 (s2 (s2 μ1 29 (μ1 24 7).toNatClampNeg x) 32 (μ1 24 7).toNatClampNeg (0 : Int32)) 24 7 ((μ1 24 7) + (1 : Int32))))))))
def F_X10_searches (μ : Sg) (wd : Int32) (mi : Int32) (mo : Int32) : Sg := L_X10_searches_8 μ wd mi mo 81 (0 : Int32) (s2 μ 24 7 (0 : Int32))
abbrev rm_X10_searches : Room := { frames := 71, cells := 0, slots := 0, locals := 2826 }
set_option maxRecDepth 100000 in
set_option maxHeartbeats 4000000 in
theorem m_X10_searches (l : Launch) (G : GG) (E : EE) (σ μ : Sg) (Y : va_W) (wd : Int32) (mi : Int32) (mo : Int32) (hM : MOKg (μ 25)) (hmi : mi = 0 ∨ mi = 1) (hmo : ∃ m : Nat, m ≤ 6 ∧ mo = nI m) : KK l G yX10_searches cX10_searches 5 none rm_X10_searches [.ref (E.1 24), .int wd, .int mi, .int mo] (Wd G E σ μ Y) none (Wd G E σ (F_X10_searches μ wd mi mo) Y) := by
  refine KE.of (by decide) (Nat.le_of_ble_eq_true rfl) ?_
  intro zp ze zs zm za zb zt zc zA C _
  generalize hQ : MQ zb _ za zs _ _ zA = Q
  have loop_8 : ∀ (n : Nat) (x : Int32) (μ1 : Sg), ((∃ j : Nat, x = nI j ∧ j ≤ 80 ∧ j + n = 81) ∧ μ1 25 = μ 25 ∧ ∃ f, FEW μ1 f) → F_X10_searches μ wd mi mo = L_X10_searches_8 μ wd mi mo n x μ1 → V zp l ze rm_X10_searches zs zm za zb zt zc 5 G zA 0 0 Q 8 [(0, .ref (E.1 24)), (1, .int wd), (2, .int mi), (3, .int mo), (4, .int x)] [] (Wd G E σ μ1 Y) := by
    intro n
    induction n with
    | zero =>
      intro x μ1 hI hL
      exact False.elim (by obtain ⟨⟨j, _, h4, hn⟩, _⟩ := hI; omega)
    | succ n ih =>
      intro x μ1 hI hL
      obtain ⟨⟨j, ej, h4, hn⟩, h25, f, hF⟩ := hI
      obtain ⟨mm, hm, em⟩ := hM.2.1
      obtain ⟨m6, h6, e6⟩ := hmo
      have hM1 : MOKg (μ1 25) := by rw [h25]; exact hM
      have em1 : μ1 25 12 = nI mm := by rw [h25]; exact em
      have hf6 := hF.1
      refine v_iload C 4 rfl dX10_searches_8 ?_
      refine v_aload_n C 0 rfl dX10_searches_10 ?_
      refine v_get (v := .ref (E.1 25)) C fl_RX10_7 24 g_24 rfl dX10_searches_11 ?_
      refine v_bipush (v := (12 : Int32)) C (by decide) dX10_searches_14 ?_
      refine v_iald (v := μ1 25 12) C 25 g_25 vi_12_1700 (rdl tn_12 rfl) dX10_searches_16 ?_
      refine v_icmp_ge (tgt := 92) C (by decide) dX10_searches_17 (fun h1 => ?_) (fun h1 => ?_)
      · refine v_aload_n C 0 rfl dX10_searches_92 ?_
        refine v_iload_n C 2 rfl dX10_searches_93 ?_
        refine v_put C fp_RX10_164 24 g_24 (nbz hmi) (fbz hmi) (Nat.le_of_ble_eq_true rfl) (p_24_17 _) dX10_searches_94 ?_
        refine v_aload_n C 0 rfl dX10_searches_97 ?_
        refine v_iconst (v := (-1 : Int32)) C (by decide) dX10_searches_98 ?_
        refine v_put C fp_RX10_161 24 g_24 rfl rfl (Nat.le_of_ble_eq_true rfl) (p_24_16 _) dX10_searches_99 ?_
        refine v_aload_n C 0 rfl dX10_searches_102 ?_
        refine v_iconst (v := (0 : Int32)) C (by decide) dX10_searches_103 ?_
        refine v_aload_n C 0 rfl dX10_searches_104 ?_
        refine v_get (v := .ref (E.1 25)) C fl_RX10_7 24 g_24 rfl dX10_searches_105 ?_
        refine v_bipush (v := (8 : Int32)) C (by decide) dX10_searches_108 ?_
        refine v_iald (v := μ1 25 8) C 25 g_25 vi_8_1700 (rdl tn_8 rfl) dX10_searches_110 ?_
        refine v_aload_n C 0 rfl dX10_searches_111 ?_
        refine v_get (v := .ref (E.1 25)) C fl_RX10_7 24 g_24 rfl dX10_searches_112 ?_
        refine v_bipush (v := (9 : Int32)) C (by decide) dX10_searches_115 ?_
        refine v_iald (v := μ1 25 9) C 25 g_25 vi_9_1700 (rdl tn_9 rfl) dX10_searches_117 ?_
        refine v_cV0 (rest := []) C mv_RX10_168 (m_X10_goes l G E σ (s2 (s2 μ1 24 9 mi) 24 8 (-1 : Int32)) Y (0 : Int32) (μ1 25 8) (μ1 25 9) (⟨hM1, hM1.2.2.1, f, 0, ⟨hF.1, hF.2.1, hF.2.2⟩, by omega, rfl, by omega⟩)) 24 g_24 rfl rfl rfl rfl (Nat.le_of_ble_eq_true rfl) ⟨Nat.le_of_ble_eq_true rfl, Nat.le_of_ble_eq_true rfl⟩ ⟨rfl, rfl⟩ ⟨Nat.zero_le _, Nat.zero_le _⟩ dX10_searches_118 ?_
        have e1 : F_X10_searches μ wd mi mo = (F_X10_goes (s2 (s2 μ1 24 9 mi) 24 8 (-1 : Int32)) (0 : Int32) (μ1 25 8) (μ1 25 9)) := by rw [hL, L_X10_searches_8, if_pos h1]
        exact v_Q hQ (v_vret C () trivial rfl (by rw [e1]) (Nat.zero_le _) (Nat.zero_le _) dX10_searches_121)
      · refine v_aload_n C 0 rfl dX10_searches_20 ?_
        refine v_get (v := .int (μ1 24 7)) C fl_RX10_158 24 g_24 rfl dX10_searches_21 ?_
        refine v_iload_n C 3 rfl dX10_searches_24 ?_
        refine v_icmp_ge (tgt := 92) C (by decide) dX10_searches_25 (fun h2 => ?_) (fun h2 => ?_)
        · refine v_aload_n C 0 rfl dX10_searches_92 ?_
          refine v_iload_n C 2 rfl dX10_searches_93 ?_
          refine v_put C fp_RX10_164 24 g_24 (nbz hmi) (fbz hmi) (Nat.le_of_ble_eq_true rfl) (p_24_17 _) dX10_searches_94 ?_
          refine v_aload_n C 0 rfl dX10_searches_97 ?_
          refine v_iconst (v := (-1 : Int32)) C (by decide) dX10_searches_98 ?_
          refine v_put C fp_RX10_161 24 g_24 rfl rfl (Nat.le_of_ble_eq_true rfl) (p_24_16 _) dX10_searches_99 ?_
          refine v_aload_n C 0 rfl dX10_searches_102 ?_
          refine v_iconst (v := (0 : Int32)) C (by decide) dX10_searches_103 ?_
          refine v_aload_n C 0 rfl dX10_searches_104 ?_
          refine v_get (v := .ref (E.1 25)) C fl_RX10_7 24 g_24 rfl dX10_searches_105 ?_
          refine v_bipush (v := (8 : Int32)) C (by decide) dX10_searches_108 ?_
          refine v_iald (v := μ1 25 8) C 25 g_25 vi_8_1700 (rdl tn_8 rfl) dX10_searches_110 ?_
          refine v_aload_n C 0 rfl dX10_searches_111 ?_
          refine v_get (v := .ref (E.1 25)) C fl_RX10_7 24 g_24 rfl dX10_searches_112 ?_
          refine v_bipush (v := (9 : Int32)) C (by decide) dX10_searches_115 ?_
          refine v_iald (v := μ1 25 9) C 25 g_25 vi_9_1700 (rdl tn_9 rfl) dX10_searches_117 ?_
          refine v_cV0 (rest := []) C mv_RX10_168 (m_X10_goes l G E σ (s2 (s2 μ1 24 9 mi) 24 8 (-1 : Int32)) Y (0 : Int32) (μ1 25 8) (μ1 25 9) (⟨hM1, hM1.2.2.1, f, 0, ⟨hF.1, hF.2.1, hF.2.2⟩, by omega, rfl, by omega⟩)) 24 g_24 rfl rfl rfl rfl (Nat.le_of_ble_eq_true rfl) ⟨Nat.le_of_ble_eq_true rfl, Nat.le_of_ble_eq_true rfl⟩ ⟨rfl, rfl⟩ ⟨Nat.zero_le _, Nat.zero_le _⟩ dX10_searches_118 ?_
          have e1 : F_X10_searches μ wd mi mo = (F_X10_goes (s2 (s2 μ1 24 9 mi) 24 8 (-1 : Int32)) (0 : Int32) (μ1 25 8) (μ1 25 9)) := by rw [hL, L_X10_searches_8, if_neg h1, if_pos h2]
          exact v_Q hQ (v_vret C () trivial rfl (by rw [e1]) (Nat.zero_le _) (Nat.zero_le _) dX10_searches_121)
        · refine v_aload_n C 0 rfl dX10_searches_28 ?_
          refine v_iload C 4 rfl dX10_searches_29 ?_
          refine v_cV1 (rest := []) C mv_RX10_100 (m_X10_isPending l G E σ μ1 Y x (by have q := gt_of_nle em1 ej (by omega) (by omega) h1; exact ⟨j, by omega, ej⟩)) 24 g_24 rfl rfl rfl rfl (Nat.le_of_ble_eq_true rfl) ⟨Nat.le_of_ble_eq_true rfl, Nat.le_of_ble_eq_true rfl⟩ ⟨rfl, rfl⟩ ⟨Nat.zero_le _, Nat.zero_le _⟩ dX10_searches_31 ?_
          refine v_if_eq (tgt := 86) C (by decide) dX10_searches_34 (fun h3 => ?_) (fun h3 => ?_)
          · refine v_iinc (v := x + (1 : Int32)) (lv' := [(4, .int (x + (1 : Int32))), (0, .ref (E.1 24)), (1, .int wd), (2, .int mi), (3, .int mo)]) C 4 rfl rfl (Nat.le_of_ble_eq_true rfl) rfl dX10_searches_86 ?_
            refine v_goto (tgt := 8) C (by decide) dX10_searches_89 ?_
            refine v_lv [1, 2, 3, 4, 0] rfl ?_
            exact ih (x + (1 : Int32)) μ1 (by have q := gt_of_nle em1 ej (by omega) (by omega) h1; have q2 := gt_of_nle e6 hF.2.1 (by omega) (by omega) h2; refine ⟨⟨j + 1, by rw [ej]; exact nI_1 j, by omega, by omega⟩, h25, ?_⟩; first | exact ⟨f, hF⟩ | exact ⟨f + 1, few_push hF (by omega) ⟨j, by omega, ej⟩⟩) (by rw [hL, L_X10_searches_8, if_neg h1, if_neg h2, if_pos h3])
          · refine v_iload_n C 1 rfl dX10_searches_37 ?_
            refine v_if_eq (tgt := 55) C (by decide) dX10_searches_38 (fun h4 => ?_) (fun h4 => ?_)
            · refine v_aload_n C 0 rfl dX10_searches_55 ?_
              refine v_get (v := .ref (E.1 29)) C fl_RX10_26 24 g_24 rfl dX10_searches_56 ?_
              refine v_aload_n C 0 rfl dX10_searches_59 ?_
              refine v_get (v := .int (μ1 24 7)) C fl_RX10_158 24 g_24 rfl dX10_searches_60 ?_
              refine v_iload C 4 rfl dX10_searches_63 ?_
              refine v_iast (ws' := Wd G E σ (s2 μ1 29 (μ1 24 7).toNatClampNeg x) Y) C 29 g_29 (by have q2 := gt_of_nle e6 hF.2.1 (by omega) (by omega) h2; exact vi_x hF.2.1 (by omega) (by decide)) (p_29 _ _) dX10_searches_65 ?_
              refine v_aload_n C 0 rfl dX10_searches_66 ?_
              refine v_get (v := .ref (E.1 32)) C fl_RX10_35 24 g_24 rfl dX10_searches_67 ?_
              refine v_aload_n C 0 rfl dX10_searches_70 ?_
              refine v_get (v := .int (μ1 24 7)) C fl_RX10_158 24 g_24 rfl dX10_searches_71 ?_
              refine v_iconst (v := (0 : Int32)) C (by decide) dX10_searches_74 ?_
              refine v_zast (ws' := Wd G E σ (s2 (s2 μ1 29 (μ1 24 7).toNatClampNeg x) 32 (μ1 24 7).toNatClampNeg (0 : Int32)) Y) C 32 g_32 (by have q2 := gt_of_nle e6 hF.2.1 (by omega) (by omega) h2; exact vi_x hF.2.1 (by omega) (by decide)) rfl (p_32 _ _) dX10_searches_75 ?_
              refine v_aload_n C 0 rfl dX10_searches_76 ?_
              refine v_dup C rfl dX10_searches_77 ?_
              refine v_get (v := .int (μ1 24 7)) C fl_RX10_158 24 g_24 rfl dX10_searches_78 ?_
              refine v_iconst (v := (1 : Int32)) C (by decide) dX10_searches_81 ?_
              refine v_iadd C dX10_searches_82 ?_
              refine v_put C fp_RX10_158 24 g_24 rfl rfl (Nat.le_of_ble_eq_true rfl) (p_24_15 _) dX10_searches_83 ?_
              refine v_iinc (v := x + (1 : Int32)) (lv' := [(4, .int (x + (1 : Int32))), (0, .ref (E.1 24)), (1, .int wd), (2, .int mi), (3, .int mo)]) C 4 rfl rfl (Nat.le_of_ble_eq_true rfl) rfl dX10_searches_86 ?_
              refine v_goto (tgt := 8) C (by decide) dX10_searches_89 ?_
              refine v_lv [1, 2, 3, 4, 0] rfl ?_
              exact ih (x + (1 : Int32)) (s2 (s2 (s2 μ1 29 (μ1 24 7).toNatClampNeg x) 32 (μ1 24 7).toNatClampNeg (0 : Int32)) 24 7 ((μ1 24 7) + (1 : Int32))) (by have q := gt_of_nle em1 ej (by omega) (by omega) h1; have q2 := gt_of_nle e6 hF.2.1 (by omega) (by omega) h2; refine ⟨⟨j + 1, by rw [ej]; exact nI_1 j, by omega, by omega⟩, h25, ?_⟩; first | exact ⟨f, hF⟩ | exact ⟨f + 1, few_push hF (by omega) ⟨j, by omega, ej⟩⟩) (by rw [hL, L_X10_searches_8, if_neg h1, if_neg h2, if_neg h3, if_pos h4])
            · refine v_aload_n C 0 rfl dX10_searches_41 ?_
              refine v_get (v := .ref (E.1 25)) C fl_RX10_7 24 g_24 rfl dX10_searches_42 ?_
              refine v_sipush (v := (270 : Int32)) C (by decide) dX10_searches_45 ?_
              refine v_iload C 4 rfl dX10_searches_48 ?_
              refine v_iadd C dX10_searches_50 ?_
              refine v_iald (v := μ1 25 ((270 : Int32) + x).toNatClampNeg) C 25 g_25 (by have q := gt_of_nle em1 ej (by omega) (by omega) h1; exact vi_add 270 ej (by omega) (by decide)) rfl dX10_searches_51 ?_
              refine v_if_lt (tgt := 86) C (by decide) dX10_searches_52 (fun h5 => ?_) (fun h5 => ?_)
              · refine v_iinc (v := x + (1 : Int32)) (lv' := [(4, .int (x + (1 : Int32))), (0, .ref (E.1 24)), (1, .int wd), (2, .int mi), (3, .int mo)]) C 4 rfl rfl (Nat.le_of_ble_eq_true rfl) rfl dX10_searches_86 ?_
                refine v_goto (tgt := 8) C (by decide) dX10_searches_89 ?_
                refine v_lv [1, 2, 3, 4, 0] rfl ?_
                exact ih (x + (1 : Int32)) μ1 (by have q := gt_of_nle em1 ej (by omega) (by omega) h1; have q2 := gt_of_nle e6 hF.2.1 (by omega) (by omega) h2; refine ⟨⟨j + 1, by rw [ej]; exact nI_1 j, by omega, by omega⟩, h25, ?_⟩; first | exact ⟨f, hF⟩ | exact ⟨f + 1, few_push hF (by omega) ⟨j, by omega, ej⟩⟩) (by rw [hL, L_X10_searches_8, if_neg h1, if_neg h2, if_neg h3, if_neg h4, if_pos h5])
              · refine v_aload_n C 0 rfl dX10_searches_55 ?_
                refine v_get (v := .ref (E.1 29)) C fl_RX10_26 24 g_24 rfl dX10_searches_56 ?_
                refine v_aload_n C 0 rfl dX10_searches_59 ?_
                refine v_get (v := .int (μ1 24 7)) C fl_RX10_158 24 g_24 rfl dX10_searches_60 ?_
                refine v_iload C 4 rfl dX10_searches_63 ?_
                refine v_iast (ws' := Wd G E σ (s2 μ1 29 (μ1 24 7).toNatClampNeg x) Y) C 29 g_29 (by have q2 := gt_of_nle e6 hF.2.1 (by omega) (by omega) h2; exact vi_x hF.2.1 (by omega) (by decide)) (p_29 _ _) dX10_searches_65 ?_
                refine v_aload_n C 0 rfl dX10_searches_66 ?_
                refine v_get (v := .ref (E.1 32)) C fl_RX10_35 24 g_24 rfl dX10_searches_67 ?_
                refine v_aload_n C 0 rfl dX10_searches_70 ?_
                refine v_get (v := .int (μ1 24 7)) C fl_RX10_158 24 g_24 rfl dX10_searches_71 ?_
                refine v_iconst (v := (0 : Int32)) C (by decide) dX10_searches_74 ?_
                refine v_zast (ws' := Wd G E σ (s2 (s2 μ1 29 (μ1 24 7).toNatClampNeg x) 32 (μ1 24 7).toNatClampNeg (0 : Int32)) Y) C 32 g_32 (by have q2 := gt_of_nle e6 hF.2.1 (by omega) (by omega) h2; exact vi_x hF.2.1 (by omega) (by decide)) rfl (p_32 _ _) dX10_searches_75 ?_
                refine v_aload_n C 0 rfl dX10_searches_76 ?_
                refine v_dup C rfl dX10_searches_77 ?_
                refine v_get (v := .int (μ1 24 7)) C fl_RX10_158 24 g_24 rfl dX10_searches_78 ?_
                refine v_iconst (v := (1 : Int32)) C (by decide) dX10_searches_81 ?_
                refine v_iadd C dX10_searches_82 ?_
                refine v_put C fp_RX10_158 24 g_24 rfl rfl (Nat.le_of_ble_eq_true rfl) (p_24_15 _) dX10_searches_83 ?_
                refine v_iinc (v := x + (1 : Int32)) (lv' := [(4, .int (x + (1 : Int32))), (0, .ref (E.1 24)), (1, .int wd), (2, .int mi), (3, .int mo)]) C 4 rfl rfl (Nat.le_of_ble_eq_true rfl) rfl dX10_searches_86 ?_
                refine v_goto (tgt := 8) C (by decide) dX10_searches_89 ?_
                refine v_lv [1, 2, 3, 4, 0] rfl ?_
                exact ih (x + (1 : Int32)) (s2 (s2 (s2 μ1 29 (μ1 24 7).toNatClampNeg x) 32 (μ1 24 7).toNatClampNeg (0 : Int32)) 24 7 ((μ1 24 7) + (1 : Int32))) (by have q := gt_of_nle em1 ej (by omega) (by omega) h1; have q2 := gt_of_nle e6 hF.2.1 (by omega) (by omega) h2; refine ⟨⟨j + 1, by rw [ej]; exact nI_1 j, by omega, by omega⟩, h25, ?_⟩; first | exact ⟨f, hF⟩ | exact ⟨f + 1, few_push hF (by omega) ⟨j, by omega, ej⟩⟩) (by rw [hL, L_X10_searches_8, if_neg h1, if_neg h2, if_neg h3, if_neg h4, if_neg h5])
  show V zp l ze rm_X10_searches zs zm za zb zt zc 5 G zA 0 0 Q 0 [(0, .ref (E.1 24)), (1, .int wd), (2, .int mi), (3, .int mo)] [] (Wd G E σ μ Y)
  refine v_aload_n C 0 rfl dX10_searches_0 ?_
  refine v_iconst (v := (0 : Int32)) C (by decide) dX10_searches_1 ?_
  refine v_put C fp_RX10_158 24 g_24 rfl rfl (Nat.le_of_ble_eq_true rfl) (p_24_15 _) dX10_searches_2 ?_
  refine v_iconst (v := (0 : Int32)) C (by decide) dX10_searches_5 ?_
  refine v_istore (lv' := [(4, .int (0 : Int32)), (0, .ref (E.1 24)), (1, .int wd), (2, .int mi), (3, .int mo)]) C (Nat.le_of_ble_eq_true rfl) rfl dX10_searches_6 ?_
  refine v_lv [1, 2, 3, 4, 0] rfl ?_
  exact loop_8 81 (0 : Int32) (s2 μ 24 7 (0 : Int32)) (⟨⟨0, rfl, by omega, by omega⟩, rfl, 0, by omega, rfl, fun i hi => by omega⟩) (by rw [F_X10_searches])
