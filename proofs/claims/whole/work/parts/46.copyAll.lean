theorem cpCNT {E : EE} {σ : Sg} {j K : Nat} (hO : CNT E σ) (hjK : j ≤ K) (h : σ 5 0 ≤ nI j ∨ (80 : Int32) ≤ nI j) (hj : j ≤ 80 := by omega) : ∃ n : Nat, n ≤ 80 ∧ n ≤ K ∧ σ 5 0 = nI n := by
  obtain ⟨n, h80, -, en⟩ := hO
  refine ⟨n, h80, ?_, en⟩
  rcases h with h | h
  · have := le_of_le en (y := nI j) rfl (by omega) (by omega) h; omega
  · have := le_of_le (x := 80) (a := 80) rfl (y := nI j) rfl (by omega) (by omega) h; omega
def L_X6_copyFromR (τ : Sg) : Nat → Nat → Sg → Sg
  | 0, _, σ1 => σ1
  | n + 1, j, σ1 => if τ 5 0 ≤ nI j then (s2 (s2 σ1 5 0 (τ 5 0)) 5 1 (τ 5 1)) else if (80 : Int32) ≤ nI j then (s2 (s2 σ1 5 0 (τ 5 0)) 5 1 (τ 5 1)) else L_X6_copyFromR τ n (j + 1) (F_rowR σ1 τ j)
def F_X6_copyFromR (σ τ : Sg) : Sg := L_X6_copyFromR τ 81 0 σ
abbrev rm_X6_copyFromR : Room := { frames := 6, cells := 81, slots := 486, locals := 200 }
set_option maxRecDepth 100000 in
set_option maxHeartbeats 2000000 in
theorem m_X6_copyFromR (l : Launch) (G : GG) (E F : EE) (σ μ τ : Sg) (hO : CNT F τ) : KE (S := (Nat → Nat) × Nat) l G yX6_copyFrom cX6_copyFrom 5 none rm_X6_copyFromR [.ref (E.1 5), .ref (F.1 5)] (Wd G E σ μ (YS G F τ)) (fun _ => none) (fun p => Wd G (EK E p.1 p.2) (F_X6_copyFromR σ τ) μ (YS G F τ)) (fun p => E.2.2.1 ≤ p.2 ∧ ∃ n : Nat, n ≤ 80 ∧ n ≤ p.2 ∧ τ 5 0 = nI n) := by
  refine KE.of (by decide) (Nat.le_of_ble_eq_true rfl) ?_
  intro zp ze zs zm za zb zt zc zA C _
  generalize hQ : MQ zb _ za zs _ _ zA = Q
  have loop : ∀ (n j : Nat) (σ1 : Sg) (u : Nat → Nat) (K c s : Nat), j + n = 81 → j ≤ 80 → j ≤ K → E.2.2.1 ≤ K → c + n ≤ 81 → s + 6 * n ≤ 486 → F_X6_copyFromR σ τ = L_X6_copyFromR τ n j σ1 → V zp l ze rm_X6_copyFromR zs zm za zb zt zc 5 G zA c s Q 2 [(0, .ref (E.1 5)), (1, .ref (F.1 5)), (2, .int (nI j))] [] (Wd G (EK E u K) σ1 μ (YS G F τ)) := by
    intro n
    induction n with
    | zero => intro j σ1 u K c s h1 h2 _ _ _ _ _; omega
    | succ n ih =>
      intro j σ1 u K c s hjn hj80 hjK hKK hcc hss hL
      refine v_iload_n C 2 rfl dX6_copyFrom_2 ?_
      refine v_aload_n C 1 rfl dX6_copyFrom_3 ?_
      refine v_get (v := .int (τ 5 0)) C fl_RX6_17 (35 + (EK E u K).2.2.1 + 4) (gY rfl) rfl dX6_copyFrom_4 ?_
      refine v_icmp_ge (tgt := 51) C (by decide) dX6_copyFrom_7 (fun h1 => ?_) (fun h1 => ?_)
      · skip
        refine v_aload_n C 0 rfl dX6_copyFrom_51 ?_
        refine v_aload_n C 1 rfl dX6_copyFrom_52 ?_
        refine v_get (v := .int (τ 5 0)) C fl_RX6_17 (35 + (EK E u K).2.2.1 + 4) (gY rfl) rfl dX6_copyFrom_53 ?_
        refine v_put (ws' := (Wd G (EK E u K) (s2 σ1 5 0 (τ 5 0)) μ (YS G F τ))) C fp_RX6_17 5 g_5 rfl rfl (Nat.le_of_ble_eq_true rfl) (p_5_0 _) dX6_copyFrom_56 ?_
        refine v_aload_n C 0 rfl dX6_copyFrom_59 ?_
        refine v_aload_n C 1 rfl dX6_copyFrom_60 ?_
        refine v_get (v := .int (τ 5 1)) C fl_RX6_29 (35 + (EK E u K).2.2.1 + 4) (gY rfl) rfl dX6_copyFrom_61 ?_
        refine v_put (ws' := (Wd G (EK E u K) (s2 (s2 σ1 5 0 (τ 5 0)) 5 1 (τ 5 1)) μ (YS G F τ))) C fp_RX6_29 5 g_5 rfl rfl (Nat.le_of_ble_eq_true rfl) (p_5_1 _) dX6_copyFrom_64 ?_
        exact v_Q hQ (v_vret C (u, K) ⟨hKK, cpCNT hO hjK (Or.inl h1)⟩ rfl (by rw [hL, L_X6_copyFromR, if_pos h1]) (by show c ≤ 81; omega) (by show s ≤ 486; omega) dX6_copyFrom_67)
      refine v_iload_n C 2 rfl dX6_copyFrom_10 ?_
      refine v_bipush (v := (80 : Int32)) C (by decide) dX6_copyFrom_11 ?_
      refine v_icmp_ge (tgt := 51) C (by decide) dX6_copyFrom_13 (fun h2 => ?_) (fun h2 => ?_)
      · skip
        refine v_aload_n C 0 rfl dX6_copyFrom_51 ?_
        refine v_aload_n C 1 rfl dX6_copyFrom_52 ?_
        refine v_get (v := .int (τ 5 0)) C fl_RX6_17 (35 + (EK E u K).2.2.1 + 4) (gY rfl) rfl dX6_copyFrom_53 ?_
        refine v_put (ws' := (Wd G (EK E u K) (s2 σ1 5 0 (τ 5 0)) μ (YS G F τ))) C fp_RX6_17 5 g_5 rfl rfl (Nat.le_of_ble_eq_true rfl) (p_5_0 _) dX6_copyFrom_56 ?_
        refine v_aload_n C 0 rfl dX6_copyFrom_59 ?_
        refine v_aload_n C 1 rfl dX6_copyFrom_60 ?_
        refine v_get (v := .int (τ 5 1)) C fl_RX6_29 (35 + (EK E u K).2.2.1 + 4) (gY rfl) rfl dX6_copyFrom_61 ?_
        refine v_put (ws' := (Wd G (EK E u K) (s2 (s2 σ1 5 0 (τ 5 0)) 5 1 (τ 5 1)) μ (YS G F τ))) C fp_RX6_29 5 g_5 rfl rfl (Nat.le_of_ble_eq_true rfl) (p_5_1 _) dX6_copyFrom_64 ?_
        exact v_Q hQ (v_vret C (u, K) ⟨hKK, cpCNT hO hjK (Or.inr h2)⟩ rfl (by rw [hL, L_X6_copyFromR, if_neg h1, if_pos h2]) (by show c ≤ 81; omega) (by show s ≤ 486; omega) dX6_copyFrom_67)
      have hj8 : j < 80 := gt_of_nle (a := 80) rfl rfl (by omega) (by omega) h2
      have hjo : j < F.2.2.1 := by
        obtain ⟨m, hm8, hmK, em⟩ := hO
        have := gt_of_nle (a := m) em (y := nI j) rfl (by omega) (by omega) h1
        omega
      refine v_aload_n C 1 rfl dX6_copyFrom_16 ?_
      refine v_get (v := .ref (F.1 6)) C fl_RX6_11 (35 + (EK E u K).2.2.1 + 4) (gY rfl) rfl dX6_copyFrom_17 ?_
      refine v_iload_n C 2 rfl dX6_copyFrom_20 ?_
      refine v_aald (v := .ref (F.2.1 j)) C (35 + (EK E u K).2.2.1 + 5) (gY rfl) (vp_in_nI hj8 (by decide)) (by rw [nIc hj8]; exact rowsF_lt hjo) dX6_copyFrom_21 ?_
      refine v_astore_n (lv' := [(3, .ref (F.2.1 j)), (0, .ref (E.1 5)), (1, .ref (F.1 5)), (2, .int (nI j))]) C (Nat.le_of_ble_eq_true rfl) rfl dX6_copyFrom_22 ?_
      refine v_aload_n C 1 rfl dX6_copyFrom_23 ?_
      refine v_iload_n C 3 rfl dX6_copyFrom_24 ?_
      refine v_callV (rest := []) C mv_RX6_21 (m_X6_rowAt l G (EK E u K) σ1 μ (YS G F τ) j hj8 hjK) 5 g_5 rfl rfl rfl rfl (Nat.le_of_ble_eq_true rfl) ⟨(Nat.le_of_ble_eq_true rfl), (Nat.le_of_ble_eq_true rfl)⟩ ⟨by show c + 1 ≤ 81; omega, by show s + 6 ≤ 486; omega⟩ dX6_copyFrom_25 (fun u2 hu2 => ?_)
      have hlt : j < (EK E u2 (max K (j + 1))).2.2.1 := Nat.lt_of_lt_of_le (Nat.lt_succ_self _) (Nat.le_max_right _ _)
      refine v_astore (lv' := [(4, .ref (u2 j)), (3, .ref (F.2.1 j)), (0, .ref (E.1 5)), (1, .ref (F.1 5)), (2, .int (nI j))]) C (Nat.le_of_ble_eq_true rfl) rfl dX6_copyFrom_28 ?_
      refine v_aload_n C 1 rfl dX6_copyFrom_30 ?_
      refine v_ifnull C dX6_copyFrom_31 ?_
      refine v_aload C 0 rfl dX6_copyFrom_34 ?_
      refine v_ifnull C dX6_copyFrom_36 ?_
      refine v_aload C 0 rfl dX6_copyFrom_39 ?_
      refine v_aload_n C 1 rfl dX6_copyFrom_41 ?_
      refine v_cV0 (rest := []) C mv_RX6_25 (m_rowR l G (EK E u2 (max K (j + 1))) F (zr (EK E u K) σ1 j) μ τ j hlt hjo) (35 + j) (g_row hlt) rfl rfl rfl rfl (Nat.le_of_ble_eq_true rfl) ⟨(Nat.le_of_ble_eq_true rfl), (Nat.le_of_ble_eq_true rfl)⟩ ⟨rfl, rfl⟩ ⟨by show c + 1 ≤ 81; omega, by show s + 6 ≤ 486; omega⟩ dX6_copyFrom_42 ?_
      rw [rowR_zr]
      refine v_iinc (n := 1) (v := nI (j + 1)) (lv' := [(2, .int (nI (j + 1))), (4, .ref (u2 j)), (3, .ref (F.2.1 j)), (0, .ref (E.1 5)), (1, .ref (F.1 5))]) C 4 rfl (nI_1 j) (Nat.le_of_ble_eq_true rfl) rfl dX6_copyFrom_45 ?_
      refine v_goto (tgt := 2) C (by decide) dX6_copyFrom_48 ?_
      refine v_lv [3, 4, 0] rfl ?_
      exact ih (j + 1) (F_rowR σ1 τ j) u2 (max K (j + 1)) (c + 1) (s + 6) (by omega) (by omega) (Nat.le_max_right _ _) (Nat.le_trans hKK (Nat.le_max_left _ _)) (by omega) (by omega) (by rw [hL, L_X6_copyFromR, if_neg h1, if_neg h2])
  show V zp l ze rm_X6_copyFromR zs zm za zb zt zc 5 G zA 0 0 Q 0 [(0, .ref (E.1 5)), (1, .ref (F.1 5))] [] (Wd G E σ μ (YS G F τ))
  refine v_iconst (v := (0 : Int32)) C (by decide) dX6_copyFrom_0 ?_
  refine v_istore_n (lv' := [(2, .int (0 : Int32)), (0, .ref (E.1 5)), (1, .ref (F.1 5))]) C (Nat.le_of_ble_eq_true rfl) rfl dX6_copyFrom_1 ?_
  refine v_lv [1, 2, 0] rfl ?_
  exact loop 81 0 σ E.2.1 E.2.2.1 0 0 rfl (by omega) (Nat.zero_le _) (Nat.le_refl _) (by omega) (by omega) rfl
def L_X6_copyFromS (σ : Sg) : Nat → Nat → Sg → Sg
  | 0, _, τ1 => τ1
  | n + 1, j, τ1 => if σ 5 0 ≤ nI j then (s2 (s2 τ1 5 0 (σ 5 0)) 5 1 (σ 5 1)) else if (80 : Int32) ≤ nI j then (s2 (s2 τ1 5 0 (σ 5 0)) 5 1 (σ 5 1)) else L_X6_copyFromS σ n (j + 1) (F_rowS σ τ1 j)
def F_X6_copyFromS (σ τ : Sg) : Sg := L_X6_copyFromS σ 81 0 τ
abbrev rm_X6_copyFromS : Room := { frames := 6, cells := 81, slots := 486, locals := 200 }
set_option maxRecDepth 100000 in
set_option maxHeartbeats 2000000 in
theorem m_X6_copyFromS (l : Launch) (G : GG) (E F : EE) (σ μ τ : Sg) (hO : CNT E σ) : KE (S := (Nat → Nat) × Nat) l G yX6_copyFrom cX6_copyFrom 5 none rm_X6_copyFromS [.ref (F.1 5), .ref (E.1 5)] (Wd G E σ μ (YS G F τ)) (fun _ => none) (fun p => Wd G E σ μ (YS G (EK F p.1 p.2) (F_X6_copyFromS σ τ))) (fun p => F.2.2.1 ≤ p.2 ∧ ∃ n : Nat, n ≤ 80 ∧ n ≤ p.2 ∧ σ 5 0 = nI n) := by
  refine KE.of (by decide) (Nat.le_of_ble_eq_true rfl) ?_
  intro zp ze zs zm za zb zt zc zA C _
  generalize hQ : MQ zb _ za zs _ _ zA = Q
  have loop : ∀ (n j : Nat) (τ1 : Sg) (u : Nat → Nat) (K c s : Nat), j + n = 81 → j ≤ 80 → j ≤ K → F.2.2.1 ≤ K → c + n ≤ 81 → s + 6 * n ≤ 486 → F_X6_copyFromS σ τ = L_X6_copyFromS σ n j τ1 → V zp l ze rm_X6_copyFromS zs zm za zb zt zc 5 G zA c s Q 2 [(0, .ref (F.1 5)), (1, .ref (E.1 5)), (2, .int (nI j))] [] (Wd G E σ μ (YS G (EK F u K) τ1)) := by
    intro n
    induction n with
    | zero => intro j τ1 u K c s h1 h2 _ _ _ _ _; omega
    | succ n ih =>
      intro j τ1 u K c s hjn hj80 hjK hKK hcc hss hL
      refine v_iload_n C 2 rfl dX6_copyFrom_2 ?_
      refine v_aload_n C 1 rfl dX6_copyFrom_3 ?_
      refine v_get (v := .int (σ 5 0)) C fl_RX6_17 5 g_5 rfl dX6_copyFrom_4 ?_
      refine v_icmp_ge (tgt := 51) C (by decide) dX6_copyFrom_7 (fun h1 => ?_) (fun h1 => ?_)
      · skip
        refine v_aload_n C 0 rfl dX6_copyFrom_51 ?_
        refine v_aload_n C 1 rfl dX6_copyFrom_52 ?_
        refine v_get (v := .int (σ 5 0)) C fl_RX6_17 5 g_5 rfl dX6_copyFrom_53 ?_
        refine v_put (ws' := (Wd G E σ μ (YS G (EK F u K) (s2 τ1 5 0 (σ 5 0))))) C fp_RX6_17 (35 + E.2.2.1 + 4) (gY rfl) rfl rfl (Nat.le_of_ble_eq_true rfl) (pYr rfl) dX6_copyFrom_56 ?_
        refine v_aload_n C 0 rfl dX6_copyFrom_59 ?_
        refine v_aload_n C 1 rfl dX6_copyFrom_60 ?_
        refine v_get (v := .int (σ 5 1)) C fl_RX6_29 5 g_5 rfl dX6_copyFrom_61 ?_
        refine v_put (ws' := (Wd G E σ μ (YS G (EK F u K) (s2 (s2 τ1 5 0 (σ 5 0)) 5 1 (σ 5 1))))) C fp_RX6_29 (35 + E.2.2.1 + 4) (gY rfl) rfl rfl (Nat.le_of_ble_eq_true rfl) (pYr rfl) dX6_copyFrom_64 ?_
        exact v_Q hQ (v_vret C (u, K) ⟨hKK, cpCNT hO hjK (Or.inl h1)⟩ rfl (by rw [hL, L_X6_copyFromS, if_pos h1]) (by show c ≤ 81; omega) (by show s ≤ 486; omega) dX6_copyFrom_67)
      refine v_iload_n C 2 rfl dX6_copyFrom_10 ?_
      refine v_bipush (v := (80 : Int32)) C (by decide) dX6_copyFrom_11 ?_
      refine v_icmp_ge (tgt := 51) C (by decide) dX6_copyFrom_13 (fun h2 => ?_) (fun h2 => ?_)
      · skip
        refine v_aload_n C 0 rfl dX6_copyFrom_51 ?_
        refine v_aload_n C 1 rfl dX6_copyFrom_52 ?_
        refine v_get (v := .int (σ 5 0)) C fl_RX6_17 5 g_5 rfl dX6_copyFrom_53 ?_
        refine v_put (ws' := (Wd G E σ μ (YS G (EK F u K) (s2 τ1 5 0 (σ 5 0))))) C fp_RX6_17 (35 + E.2.2.1 + 4) (gY rfl) rfl rfl (Nat.le_of_ble_eq_true rfl) (pYr rfl) dX6_copyFrom_56 ?_
        refine v_aload_n C 0 rfl dX6_copyFrom_59 ?_
        refine v_aload_n C 1 rfl dX6_copyFrom_60 ?_
        refine v_get (v := .int (σ 5 1)) C fl_RX6_29 5 g_5 rfl dX6_copyFrom_61 ?_
        refine v_put (ws' := (Wd G E σ μ (YS G (EK F u K) (s2 (s2 τ1 5 0 (σ 5 0)) 5 1 (σ 5 1))))) C fp_RX6_29 (35 + E.2.2.1 + 4) (gY rfl) rfl rfl (Nat.le_of_ble_eq_true rfl) (pYr rfl) dX6_copyFrom_64 ?_
        exact v_Q hQ (v_vret C (u, K) ⟨hKK, cpCNT hO hjK (Or.inr h2)⟩ rfl (by rw [hL, L_X6_copyFromS, if_neg h1, if_pos h2]) (by show c ≤ 81; omega) (by show s ≤ 486; omega) dX6_copyFrom_67)
      have hj8 : j < 80 := gt_of_nle (a := 80) rfl rfl (by omega) (by omega) h2
      have hjo : j < E.2.2.1 := by
        obtain ⟨m, hm8, hmK, em⟩ := hO
        have := gt_of_nle (a := m) em (y := nI j) rfl (by omega) (by omega) h1
        omega
      refine v_aload_n C 1 rfl dX6_copyFrom_16 ?_
      refine v_get (v := .ref (E.1 6)) C fl_RX6_11 5 g_5 rfl dX6_copyFrom_17 ?_
      refine v_iload_n C 2 rfl dX6_copyFrom_20 ?_
      refine v_aald (v := .ref (E.2.1 j)) C 6 g_6 (vp_in_nI hj8 (by decide)) (by rw [nIc hj8]; exact rowsF_lt hjo) dX6_copyFrom_21 ?_
      refine v_astore_n (lv' := [(3, .ref (E.2.1 j)), (0, .ref (F.1 5)), (1, .ref (E.1 5)), (2, .int (nI j))]) C (Nat.le_of_ble_eq_true rfl) rfl dX6_copyFrom_22 ?_
      refine v_aload_n C 1 rfl dX6_copyFrom_23 ?_
      refine v_iload_n C 3 rfl dX6_copyFrom_24 ?_
      refine v_callV (rest := []) C mv_RX6_21 (m_rowAtS l G E (EK F u K) σ μ τ1 j hj8 hjK) (35 + E.2.2.1 + 4) (gY rfl) rfl rfl rfl rfl (Nat.le_of_ble_eq_true rfl) ⟨(Nat.le_of_ble_eq_true rfl), (Nat.le_of_ble_eq_true rfl)⟩ ⟨by show c + 1 ≤ 81; omega, by show s + 6 ≤ 486; omega⟩ dX6_copyFrom_25 (fun u2 hu2 => ?_)
      have hlt : j < (EK F u2 (max K (j + 1))).2.2.1 := Nat.lt_of_lt_of_le (Nat.lt_succ_self _) (Nat.le_max_right _ _)
      refine v_astore (lv' := [(4, .ref (u2 j)), (3, .ref (E.2.1 j)), (0, .ref (F.1 5)), (1, .ref (E.1 5)), (2, .int (nI j))]) C (Nat.le_of_ble_eq_true rfl) rfl dX6_copyFrom_28 ?_
      refine v_aload_n C 1 rfl dX6_copyFrom_30 ?_
      refine v_ifnull C dX6_copyFrom_31 ?_
      refine v_aload C 0 rfl dX6_copyFrom_34 ?_
      refine v_ifnull C dX6_copyFrom_36 ?_
      refine v_aload C 0 rfl dX6_copyFrom_39 ?_
      refine v_aload_n C 1 rfl dX6_copyFrom_41 ?_
      refine v_cV0 (rest := []) C mv_RX6_25 (m_rowS l G E (EK F u2 (max K (j + 1))) σ μ (zr (EK F u K) τ1 j) j hjo hlt) (35 + E.2.2.1 + (9 + j)) (gY (gy_row (F := (EK F u2 (max K (j + 1)))) hlt)) rfl rfl rfl rfl (Nat.le_of_ble_eq_true rfl) ⟨(Nat.le_of_ble_eq_true rfl), (Nat.le_of_ble_eq_true rfl)⟩ ⟨rfl, rfl⟩ ⟨by show c + 1 ≤ 81; omega, by show s + 6 ≤ 486; omega⟩ dX6_copyFrom_42 ?_
      rw [rowS_zr]
      refine v_iinc (n := 1) (v := nI (j + 1)) (lv' := [(2, .int (nI (j + 1))), (4, .ref (u2 j)), (3, .ref (E.2.1 j)), (0, .ref (F.1 5)), (1, .ref (E.1 5))]) C 4 rfl (nI_1 j) (Nat.le_of_ble_eq_true rfl) rfl dX6_copyFrom_45 ?_
      refine v_goto (tgt := 2) C (by decide) dX6_copyFrom_48 ?_
      refine v_lv [3, 4, 0] rfl ?_
      exact ih (j + 1) (F_rowS σ τ1 j) u2 (max K (j + 1)) (c + 1) (s + 6) (by omega) (by omega) (Nat.le_max_right _ _) (Nat.le_trans hKK (Nat.le_max_left _ _)) (by omega) (by omega) (by rw [hL, L_X6_copyFromS, if_neg h1, if_neg h2])
  show V zp l ze rm_X6_copyFromS zs zm za zb zt zc 5 G zA 0 0 Q 0 [(0, .ref (F.1 5)), (1, .ref (E.1 5))] [] (Wd G E σ μ (YS G F τ))
  refine v_iconst (v := (0 : Int32)) C (by decide) dX6_copyFrom_0 ?_
  refine v_istore_n (lv' := [(2, .int (0 : Int32)), (0, .ref (F.1 5)), (1, .ref (E.1 5))]) C (Nat.le_of_ble_eq_true rfl) rfl dX6_copyFrom_1 ?_
  refine v_lv [1, 2, 0] rfl ?_
  exact loop 81 0 τ F.2.1 F.2.2.1 0 0 rfl (by omega) (Nat.zero_le _) (Nat.le_refl _) (by omega) (by omega) rfl
