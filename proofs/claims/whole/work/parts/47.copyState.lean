def F_X8_copyFromR (σ τ : Sg) : Sg := F_X0_copyFromR (F_X7_copyFromR (F_X6_copyFromR (F_X1_copyFromR σ τ) τ) τ) τ
abbrev rm_X8_copyFromR : Room := { frames := 8, cells := 81, slots := 486, locals := 260 }
set_option maxRecDepth 100000 in
set_option maxHeartbeats 2000000 in
theorem m_X8_copyFromR (l : Launch) (G : GG) (E F : EE) (σ μ τ : Sg) (hO : CNT F τ) (hb7 : τ 7 1 = 0 ∨ τ 7 1 = 1) (hb8 : τ 8 0 = 0 ∨ τ 8 0 = 1) : KE (S := (Nat → Nat) × Nat) l G yX8_copyFrom cX8_copyFrom 2 none rm_X8_copyFromR [.ref (E.1 1), .ref (F.1 1)] (Wd G E σ μ (YS G F τ)) (fun _ => none) (fun p => Wd G (EK E p.1 p.2) (F_X8_copyFromR σ τ) μ (YS G F τ)) (fun p => E.2.2.1 ≤ p.2 ∧ ∃ n : Nat, n ≤ 80 ∧ n ≤ p.2 ∧ τ 5 0 = nI n) := by
  refine KE.of (by decide) (Nat.le_of_ble_eq_true rfl) ?_
  intro zp ze zs zm za zb zt zc zA C _
  generalize hQ : MQ zb _ za zs _ _ zA = Q
  show V zp l ze rm_X8_copyFromR zs zm za zb zt zc 2 G zA 0 0 Q 0 [(0, .ref (E.1 1)), (1, .ref (F.1 1))] [] (Wd G E σ μ (YS G F τ))
  refine v_aload_n C 0 rfl dX8_copyFrom_0 ?_
  refine v_get (v := .ref (E.1 2)) C fl_RX8_12 1 g_1 rfl dX8_copyFrom_1 ?_
  refine v_aload_n C 1 rfl dX8_copyFrom_4 ?_
  refine v_get (v := .ref (F.1 2)) C fl_RX8_12 (35 + E.2.2.1 + 0) (gY rfl) rfl dX8_copyFrom_5 ?_
  refine v_cV0 (rest := []) C mv_RX8_39 (m_X1_copyFromR l G E F σ μ τ) 2 g_2 rfl rfl rfl rfl (Nat.le_of_ble_eq_true rfl) ⟨(Nat.le_of_ble_eq_true rfl), (Nat.le_of_ble_eq_true rfl)⟩ ⟨rfl, rfl⟩ ⟨Nat.zero_le _, Nat.zero_le _⟩ dX8_copyFrom_8 ?_
  refine v_aload_n C 0 rfl dX8_copyFrom_11 ?_
  refine v_get (v := .ref (E.1 5)) C fl_RX8_21 1 g_1 rfl dX8_copyFrom_12 ?_
  refine v_aload_n C 1 rfl dX8_copyFrom_15 ?_
  refine v_get (v := .ref (F.1 5)) C fl_RX8_21 (35 + E.2.2.1 + 0) (gY rfl) rfl dX8_copyFrom_16 ?_
  refine v_callV (rest := []) C mv_RX8_43 (m_X6_copyFromR l G E F (F_X1_copyFromR σ τ) μ τ hO) 5 g_5 rfl rfl rfl rfl (Nat.le_of_ble_eq_true rfl) ⟨(Nat.le_of_ble_eq_true rfl), (Nat.le_of_ble_eq_true rfl)⟩ ⟨(Nat.le_of_ble_eq_true rfl), (Nat.le_of_ble_eq_true rfl)⟩ dX8_copyFrom_19 (fun p hp => ?_)
  refine v_aload_n C 0 rfl dX8_copyFrom_22 ?_
  refine v_get (v := .ref (E.1 7)) C fl_RX8_28 1 g_1 rfl dX8_copyFrom_23 ?_
  refine v_aload_n C 1 rfl dX8_copyFrom_26 ?_
  refine v_get (v := .ref (F.1 7)) C fl_RX8_28 (35 + (EK E p.1 p.2).2.2.1 + 0) (gY rfl) rfl dX8_copyFrom_27 ?_
  refine v_cV0 (rest := []) C mv_RX8_46 (m_X7_copyFromR l G (EK E p.1 p.2) F (F_X6_copyFromR (F_X1_copyFromR σ τ) τ) μ τ hb7) 7 g_7 rfl rfl rfl rfl (Nat.le_of_ble_eq_true rfl) ⟨(Nat.le_of_ble_eq_true rfl), (Nat.le_of_ble_eq_true rfl)⟩ ⟨rfl, rfl⟩ ⟨(Nat.le_of_ble_eq_true rfl), (Nat.le_of_ble_eq_true rfl)⟩ dX8_copyFrom_30 ?_
  refine v_aload_n C 0 rfl dX8_copyFrom_33 ?_
  refine v_get (v := .ref (E.1 8)) C fl_RX8_35 1 g_1 rfl dX8_copyFrom_34 ?_
  refine v_aload_n C 1 rfl dX8_copyFrom_37 ?_
  refine v_get (v := .ref (F.1 8)) C fl_RX8_35 (35 + (EK E p.1 p.2).2.2.1 + 0) (gY rfl) rfl dX8_copyFrom_38 ?_
  refine v_cV0 (rest := []) C mv_RX8_49 (m_X0_copyFromR l G (EK E p.1 p.2) F (F_X7_copyFromR (F_X6_copyFromR (F_X1_copyFromR σ τ) τ) τ) μ τ hb8) 8 g_8 rfl rfl rfl rfl (Nat.le_of_ble_eq_true rfl) ⟨(Nat.le_of_ble_eq_true rfl), (Nat.le_of_ble_eq_true rfl)⟩ ⟨rfl, rfl⟩ ⟨(Nat.le_of_ble_eq_true rfl), (Nat.le_of_ble_eq_true rfl)⟩ dX8_copyFrom_41 ?_
  exact v_Q hQ (v_vret C p hp rfl rfl (Nat.le_of_ble_eq_true rfl) (Nat.le_of_ble_eq_true rfl) dX8_copyFrom_44)
def F_X8_copyFromS (σ τ : Sg) : Sg := F_X0_copyFromS σ (F_X7_copyFromS σ (F_X6_copyFromS σ (F_X1_copyFromS σ τ)))
abbrev rm_X8_copyFromS : Room := { frames := 8, cells := 81, slots := 486, locals := 260 }
set_option maxRecDepth 100000 in
set_option maxHeartbeats 2000000 in
theorem m_X8_copyFromS (l : Launch) (G : GG) (E F : EE) (σ μ τ : Sg) (hO : CNT E σ) (hb7 : σ 7 1 = 0 ∨ σ 7 1 = 1) (hb8 : σ 8 0 = 0 ∨ σ 8 0 = 1) : KE (S := (Nat → Nat) × Nat) l G yX8_copyFrom cX8_copyFrom 2 none rm_X8_copyFromS [.ref (F.1 1), .ref (E.1 1)] (Wd G E σ μ (YS G F τ)) (fun _ => none) (fun p => Wd G E σ μ (YS G (EK F p.1 p.2) (F_X8_copyFromS σ τ))) (fun p => F.2.2.1 ≤ p.2 ∧ ∃ n : Nat, n ≤ 80 ∧ n ≤ p.2 ∧ σ 5 0 = nI n) := by
  refine KE.of (by decide) (Nat.le_of_ble_eq_true rfl) ?_
  intro zp ze zs zm za zb zt zc zA C _
  generalize hQ : MQ zb _ za zs _ _ zA = Q
  show V zp l ze rm_X8_copyFromS zs zm za zb zt zc 2 G zA 0 0 Q 0 [(0, .ref (F.1 1)), (1, .ref (E.1 1))] [] (Wd G E σ μ (YS G F τ))
  refine v_aload_n C 0 rfl dX8_copyFrom_0 ?_
  refine v_get (v := .ref (F.1 2)) C fl_RX8_12 (35 + E.2.2.1 + 0) (gY rfl) rfl dX8_copyFrom_1 ?_
  refine v_aload_n C 1 rfl dX8_copyFrom_4 ?_
  refine v_get (v := .ref (E.1 2)) C fl_RX8_12 1 g_1 rfl dX8_copyFrom_5 ?_
  refine v_cV0 (rest := []) C mv_RX8_39 (m_X1_copyFromS l G E F σ μ τ) (35 + E.2.2.1 + 1) (gY rfl) rfl rfl rfl rfl (Nat.le_of_ble_eq_true rfl) ⟨(Nat.le_of_ble_eq_true rfl), (Nat.le_of_ble_eq_true rfl)⟩ ⟨rfl, rfl⟩ ⟨Nat.zero_le _, Nat.zero_le _⟩ dX8_copyFrom_8 ?_
  refine v_aload_n C 0 rfl dX8_copyFrom_11 ?_
  refine v_get (v := .ref (F.1 5)) C fl_RX8_21 (35 + E.2.2.1 + 0) (gY rfl) rfl dX8_copyFrom_12 ?_
  refine v_aload_n C 1 rfl dX8_copyFrom_15 ?_
  refine v_get (v := .ref (E.1 5)) C fl_RX8_21 1 g_1 rfl dX8_copyFrom_16 ?_
  refine v_callV (rest := []) C mv_RX8_43 (m_X6_copyFromS l G E F σ μ (F_X1_copyFromS σ τ) hO) (35 + E.2.2.1 + 4) (gY rfl) rfl rfl rfl rfl (Nat.le_of_ble_eq_true rfl) ⟨(Nat.le_of_ble_eq_true rfl), (Nat.le_of_ble_eq_true rfl)⟩ ⟨(Nat.le_of_ble_eq_true rfl), (Nat.le_of_ble_eq_true rfl)⟩ dX8_copyFrom_19 (fun p hp => ?_)
  refine v_aload_n C 0 rfl dX8_copyFrom_22 ?_
  refine v_get (v := .ref (F.1 7)) C fl_RX8_28 (35 + E.2.2.1 + 0) (gY rfl) rfl dX8_copyFrom_23 ?_
  refine v_aload_n C 1 rfl dX8_copyFrom_26 ?_
  refine v_get (v := .ref (E.1 7)) C fl_RX8_28 1 g_1 rfl dX8_copyFrom_27 ?_
  refine v_cV0 (rest := []) C mv_RX8_46 (m_X7_copyFromS l G E (EK F p.1 p.2) σ μ (F_X6_copyFromS σ (F_X1_copyFromS σ τ)) hb7) (35 + E.2.2.1 + 6) (gY rfl) rfl rfl rfl rfl (Nat.le_of_ble_eq_true rfl) ⟨(Nat.le_of_ble_eq_true rfl), (Nat.le_of_ble_eq_true rfl)⟩ ⟨rfl, rfl⟩ ⟨(Nat.le_of_ble_eq_true rfl), (Nat.le_of_ble_eq_true rfl)⟩ dX8_copyFrom_30 ?_
  refine v_aload_n C 0 rfl dX8_copyFrom_33 ?_
  refine v_get (v := .ref (F.1 8)) C fl_RX8_35 (35 + E.2.2.1 + 0) (gY rfl) rfl dX8_copyFrom_34 ?_
  refine v_aload_n C 1 rfl dX8_copyFrom_37 ?_
  refine v_get (v := .ref (E.1 8)) C fl_RX8_35 1 g_1 rfl dX8_copyFrom_38 ?_
  refine v_cV0 (rest := []) C mv_RX8_49 (m_X0_copyFromS l G E (EK F p.1 p.2) σ μ (F_X7_copyFromS σ (F_X6_copyFromS σ (F_X1_copyFromS σ τ))) hb8) (35 + E.2.2.1 + 7) (gY rfl) rfl rfl rfl rfl (Nat.le_of_ble_eq_true rfl) ⟨(Nat.le_of_ble_eq_true rfl), (Nat.le_of_ble_eq_true rfl)⟩ ⟨rfl, rfl⟩ ⟨(Nat.le_of_ble_eq_true rfl), (Nat.le_of_ble_eq_true rfl)⟩ dX8_copyFrom_41 ?_
  exact v_Q hQ (v_vret C p hp rfl rfl (Nat.le_of_ble_eq_true rfl) (Nat.le_of_ble_eq_true rfl) dX8_copyFrom_44)
