def F_rowR (σ τ : Sg) (i : Nat) : Sg := (s2 (s2 (s2 (s2 (s2 σ 40 i (τ 40 i)) 41 i (τ 41 i)) 42 i (τ 42 i)) 43 i (τ 43 i)) 44 i (τ 44 i))
set_option maxRecDepth 100000 in
theorem m_rowR (l : Launch) (G : GG) (E F : EE) (σ μ τ : Sg) (i : Nat) (hE : i < E.2.2.1) (hF : i < F.2.2.1) : KK l G yX4_copyFrom cX4_copyFrom 2 none { frames := 0, cells := 0, slots := 0, locals := 0 } [.ref (E.2.1 i), .ref (F.2.1 i)] (Wd G E σ μ (YS G F τ)) none (Wd G E (F_rowR σ τ i) μ (YS G F τ)) := by
  refine KE.of (by decide) (Nat.le_of_ble_eq_true rfl) ?_
  intro zp ze zs zm za zb zt zc zA C _
  generalize hQ : MQ zb _ za zs _ _ zA = Q
  show V zp l ze _ zs zm za zb zt zc 2 G zA 0 0 Q 0 [(0, .ref (E.2.1 i)), (1, .ref (F.2.1 i))] [] (Wd G E σ μ (YS G F τ))
  refine v_aload_n C 0 rfl dX4_copyFrom_0 ?_
  refine v_aload_n C 1 rfl dX4_copyFrom_1 ?_
  refine v_get (v := .int (τ 40 i)) C fl_RX4_15 (35 + E.2.2.1 + (9 + i)) (gY (gy_row hF)) rfl dX4_copyFrom_2 ?_
  refine v_put (ws' := (Wd G E (s2 σ 40 i (τ 40 i)) μ (YS G F τ))) C fp_RX4_15 (35 + i) (g_row hE) rfl rfl (Nat.le_of_ble_eq_true rfl) (p_row_1 hE _) dX4_copyFrom_5 ?_
  refine v_aload_n C 0 rfl dX4_copyFrom_8 ?_
  refine v_aload_n C 1 rfl dX4_copyFrom_9 ?_
  refine v_get (v := .int (τ 41 i)) C fl_RX4_18 (35 + E.2.2.1 + (9 + i)) (gY (gy_row hF)) rfl dX4_copyFrom_10 ?_
  refine v_put (ws' := (Wd G E (s2 (s2 σ 40 i (τ 40 i)) 41 i (τ 41 i)) μ (YS G F τ))) C fp_RX4_18 (35 + i) (g_row hE) rfl rfl (Nat.le_of_ble_eq_true rfl) (p_row_2 hE _) dX4_copyFrom_13 ?_
  refine v_aload_n C 0 rfl dX4_copyFrom_16 ?_
  refine v_aload_n C 1 rfl dX4_copyFrom_17 ?_
  refine v_get (v := .int (τ 42 i)) C fl_RX4_21 (35 + E.2.2.1 + (9 + i)) (gY (gy_row hF)) rfl dX4_copyFrom_18 ?_
  refine v_put (ws' := (Wd G E (s2 (s2 (s2 σ 40 i (τ 40 i)) 41 i (τ 41 i)) 42 i (τ 42 i)) μ (YS G F τ))) C fp_RX4_21 (35 + i) (g_row hE) rfl rfl (Nat.le_of_ble_eq_true rfl) (p_row_3 hE _) dX4_copyFrom_21 ?_
  refine v_aload_n C 0 rfl dX4_copyFrom_24 ?_
  refine v_aload_n C 1 rfl dX4_copyFrom_25 ?_
  refine v_get (v := .int (τ 43 i)) C fl_RX4_24 (35 + E.2.2.1 + (9 + i)) (gY (gy_row hF)) rfl dX4_copyFrom_26 ?_
  refine v_put (ws' := (Wd G E (s2 (s2 (s2 (s2 σ 40 i (τ 40 i)) 41 i (τ 41 i)) 42 i (τ 42 i)) 43 i (τ 43 i)) μ (YS G F τ))) C fp_RX4_24 (35 + i) (g_row hE) rfl rfl (Nat.le_of_ble_eq_true rfl) (p_row_4 hE _) dX4_copyFrom_29 ?_
  refine v_aload_n C 0 rfl dX4_copyFrom_32 ?_
  refine v_aload_n C 1 rfl dX4_copyFrom_33 ?_
  refine v_get (v := .int (τ 44 i)) C fl_RX4_27 (35 + E.2.2.1 + (9 + i)) (gY (gy_row hF)) rfl dX4_copyFrom_34 ?_
  refine v_put (ws' := (Wd G E (s2 (s2 (s2 (s2 (s2 σ 40 i (τ 40 i)) 41 i (τ 41 i)) 42 i (τ 42 i)) 43 i (τ 43 i)) 44 i (τ 44 i)) μ (YS G F τ))) C fp_RX4_27 (35 + i) (g_row hE) rfl rfl (Nat.le_of_ble_eq_true rfl) (p_row_5 hE _) dX4_copyFrom_37 ?_
  exact v_Q hQ (v_vret C () trivial rfl rfl (Nat.zero_le _) (Nat.zero_le _) dX4_copyFrom_40)
def F_rowS (σ τ : Sg) (i : Nat) : Sg := (s2 (s2 (s2 (s2 (s2 τ 40 i (σ 40 i)) 41 i (σ 41 i)) 42 i (σ 42 i)) 43 i (σ 43 i)) 44 i (σ 44 i))
set_option maxRecDepth 100000 in
theorem m_rowS (l : Launch) (G : GG) (E F : EE) (σ μ τ : Sg) (i : Nat) (hE : i < E.2.2.1) (hF : i < F.2.2.1) : KK l G yX4_copyFrom cX4_copyFrom 2 none { frames := 0, cells := 0, slots := 0, locals := 0 } [.ref (F.2.1 i), .ref (E.2.1 i)] (Wd G E σ μ (YS G F τ)) none (Wd G E σ μ (YS G F (F_rowS σ τ i))) := by
  refine KE.of (by decide) (Nat.le_of_ble_eq_true rfl) ?_
  intro zp ze zs zm za zb zt zc zA C _
  generalize hQ : MQ zb _ za zs _ _ zA = Q
  show V zp l ze _ zs zm za zb zt zc 2 G zA 0 0 Q 0 [(0, .ref (F.2.1 i)), (1, .ref (E.2.1 i))] [] (Wd G E σ μ (YS G F τ))
  refine v_aload_n C 0 rfl dX4_copyFrom_0 ?_
  refine v_aload_n C 1 rfl dX4_copyFrom_1 ?_
  refine v_get (v := .int (σ 40 i)) C fl_RX4_15 (35 + i) (g_row hE) rfl dX4_copyFrom_2 ?_
  refine v_put (ws' := (Wd G E σ μ (YS G F (s2 τ 40 i (σ 40 i))))) C fp_RX4_15 (35 + E.2.2.1 + (9 + i)) (gY (gy_row hF)) rfl rfl (Nat.le_of_ble_eq_true rfl) (pYr (py_row_1 hF _)) dX4_copyFrom_5 ?_
  refine v_aload_n C 0 rfl dX4_copyFrom_8 ?_
  refine v_aload_n C 1 rfl dX4_copyFrom_9 ?_
  refine v_get (v := .int (σ 41 i)) C fl_RX4_18 (35 + i) (g_row hE) rfl dX4_copyFrom_10 ?_
  refine v_put (ws' := (Wd G E σ μ (YS G F (s2 (s2 τ 40 i (σ 40 i)) 41 i (σ 41 i))))) C fp_RX4_18 (35 + E.2.2.1 + (9 + i)) (gY (gy_row hF)) rfl rfl (Nat.le_of_ble_eq_true rfl) (pYr (py_row_2 hF _)) dX4_copyFrom_13 ?_
  refine v_aload_n C 0 rfl dX4_copyFrom_16 ?_
  refine v_aload_n C 1 rfl dX4_copyFrom_17 ?_
  refine v_get (v := .int (σ 42 i)) C fl_RX4_21 (35 + i) (g_row hE) rfl dX4_copyFrom_18 ?_
  refine v_put (ws' := (Wd G E σ μ (YS G F (s2 (s2 (s2 τ 40 i (σ 40 i)) 41 i (σ 41 i)) 42 i (σ 42 i))))) C fp_RX4_21 (35 + E.2.2.1 + (9 + i)) (gY (gy_row hF)) rfl rfl (Nat.le_of_ble_eq_true rfl) (pYr (py_row_3 hF _)) dX4_copyFrom_21 ?_
  refine v_aload_n C 0 rfl dX4_copyFrom_24 ?_
  refine v_aload_n C 1 rfl dX4_copyFrom_25 ?_
  refine v_get (v := .int (σ 43 i)) C fl_RX4_24 (35 + i) (g_row hE) rfl dX4_copyFrom_26 ?_
  refine v_put (ws' := (Wd G E σ μ (YS G F (s2 (s2 (s2 (s2 τ 40 i (σ 40 i)) 41 i (σ 41 i)) 42 i (σ 42 i)) 43 i (σ 43 i))))) C fp_RX4_24 (35 + E.2.2.1 + (9 + i)) (gY (gy_row hF)) rfl rfl (Nat.le_of_ble_eq_true rfl) (pYr (py_row_4 hF _)) dX4_copyFrom_29 ?_
  refine v_aload_n C 0 rfl dX4_copyFrom_32 ?_
  refine v_aload_n C 1 rfl dX4_copyFrom_33 ?_
  refine v_get (v := .int (σ 44 i)) C fl_RX4_27 (35 + i) (g_row hE) rfl dX4_copyFrom_34 ?_
  refine v_put (ws' := (Wd G E σ μ (YS G F (s2 (s2 (s2 (s2 (s2 τ 40 i (σ 40 i)) 41 i (σ 41 i)) 42 i (σ 42 i)) 43 i (σ 43 i)) 44 i (σ 44 i))))) C fp_RX4_27 (35 + E.2.2.1 + (9 + i)) (gY (gy_row hF)) rfl rfl (Nat.le_of_ble_eq_true rfl) (pYr (py_row_5 hF _)) dX4_copyFrom_37 ?_
  exact v_Q hQ (v_vret C () trivial rfl rfl (Nat.zero_le _) (Nat.zero_le _) dX4_copyFrom_40)
theorem rowR_zr {E : EE} {σ τ : Sg} {j : Nat} : F_rowR (zr E σ j) τ j = F_rowR σ τ j := by
  unfold F_rowR zr
  split
  · rfl
  · funext c
    by_cases h0 : c = 40
    · subst h0; simp [z5, s2, upd_upd]
    by_cases h1 : c = 41
    · subst h1; simp [z5, s2, upd_upd]
    by_cases h2 : c = 42
    · subst h2; simp [z5, s2, upd_upd]
    by_cases h3 : c = 43
    · subst h3; simp [z5, s2, upd_upd]
    by_cases h4 : c = 44
    · subst h4; simp [z5, s2, upd_upd]
    simp [z5, s2, h0, h1, h2, h3, h4]
theorem rowS_zr {E : EE} {σ τ : Sg} {j : Nat} : F_rowS σ (zr E τ j) j = F_rowS σ τ j := by
  unfold F_rowS zr
  split
  · rfl
  · funext c
    by_cases h0 : c = 40
    · subst h0; simp [z5, s2, upd_upd]
    by_cases h1 : c = 41
    · subst h1; simp [z5, s2, upd_upd]
    by_cases h2 : c = 42
    · subst h2; simp [z5, s2, upd_upd]
    by_cases h3 : c = 43
    · subst h3; simp [z5, s2, upd_upd]
    by_cases h4 : c = 44
    · subst h4; simp [z5, s2, upd_upd]
    simp [z5, s2, h0, h1, h2, h3, h4]
theorem YS_up {G : GG} {F : EE} {τ : Sg} {q : Nat} : (YS G F τ ++ ([(q, .inr (3, [.int (nI F.2.2.1), .int 0, .int 0, .int 0, .int 0, .int 0]))] : va_W)).set 5 (F.1 6, .inl (G.2 2, 80, .inr (.inr (.inr (.inr (va_up (rowsF F) F.2.2.1 (some q))))))) = YS G (EK F (va_u F q) (F.2.2.1 + 1)) (z5 τ F.2.2.1) := by
  have h1 : (fxY G F τ).set 5 (F.1 6, .inl (G.2 2, 80, .inr (.inr (.inr (.inr (va_up (rowsF F) F.2.2.1 (some q))))))) = fxY G (EK F (va_u F q) (F.2.2.1 + 1)) (z5 τ F.2.2.1) := by
    rw [rowsF_up]; rfl
  unfold YS
  rw [List.append_assoc, List.set_append_left _ _ (by show 5 < 9; omega), h1, rowsW_up]
theorem Wd_app {G : GG} {E : EE} {σ μ : Sg} {Y Z : va_W} : Wd G E σ μ Y ++ Z = Wd G E σ μ (Y ++ Z) := by
  unfold Wd
  rw [List.append_assoc, List.append_assoc]
theorem WdY_up {G : GG} {E F : EE} {σ μ τ : Sg} {q : Nat} : (Wd G E σ μ (YS G F τ) ++ ([(q, .inr (3, [.int (nI F.2.2.1), .int 0, .int 0, .int 0, .int 0, .int 0]))] : va_W)).set (35 + E.2.2.1 + 5) (F.1 6, .inl (G.2 2, 80, .inr (.inr (.inr (.inr (va_up (rowsF F) F.2.2.1 (some q))))))) = Wd G E σ μ (YS G (EK F (va_u F q) (F.2.2.1 + 1)) (z5 τ F.2.2.1)) := by
  rw [Wd_app]
  exact pYr YS_up
set_option maxRecDepth 100000 in
set_option maxHeartbeats 1000000 in
theorem m_rowAtS (l : Launch) (G : GG) (E F : EE) (σ μ τ : Sg) (j : Nat) (hj : j < 80) (hjK : j ≤ F.2.2.1) : KE (S := Nat → Nat) l G yX6_rowAt cX6_rowAt 2 (some (.object "DiskArmSimulator$Request")) rm_X6_rowAt [.ref (F.1 5), .int (nI j)] (Wd G E σ μ (YS G F τ)) (fun u => some (.ref (u j))) (fun u => Wd G E σ μ (YS G (EK F u (max F.2.2.1 (j + 1))) (zr F τ j))) (fun u => ∀ i, i < F.2.2.1 → u i = F.2.1 i) := by
  refine KE.of (S := Nat → Nat) (by decide) (Nat.le_of_ble_eq_true rfl) ?_
  intro zp ze zs zm za zb zt zc zA C _
  generalize hQ : MQ zb _ za zs _ _ zA = Q
  show V zp l ze rm_X6_rowAt zs zm za zb zt zc 2 G zA 0 0 Q 0 [(0, .ref (F.1 5)), (1, .int (nI j))] [] (Wd G E σ μ (YS G F τ))
  refine v_iload_n C 1 rfl dX6_rowAt_0 ?_
  refine v_iconst (v := (0 : Int32)) C (by decide) dX6_rowAt_1 ?_
  refine v_bipush (v := (79 : Int32)) C (by decide) dX6_rowAt_2 ?_
  refine v_cN1 (rest := []) C mn_RX6_32 w_378 (m_X9_isWithin l G E σ μ (YS G F τ) (nI j) 0 79) rfl rfl (Nat.le_of_ble_eq_true rfl) ⟨(Nat.le_of_ble_eq_true rfl), (Nat.le_of_ble_eq_true rfl)⟩ ⟨rfl, rfl⟩ ⟨Nat.zero_le _, Nat.zero_le _⟩ dX6_rowAt_4 ?_
  refine v_if_ne (tgt := 12) C (by decide) dX6_rowAt_7 (fun h1 => ?_) (fun h1 => absurd h1 (w79 hj))
  refine v_aload_n C 0 rfl dX6_rowAt_12 ?_
  refine v_get (v := .ref (F.1 6)) C fl_RX6_11 (35 + E.2.2.1 + 4) (gY rfl) rfl dX6_rowAt_13 ?_
  refine v_iload_n C 1 rfl dX6_rowAt_16 ?_
  by_cases hlt : j < F.2.2.1
  · refine v_aald (v := .ref (F.2.1 j)) C (35 + E.2.2.1 + 5) (gY rfl) (vp_in_nI hj (by decide)) (by rw [nIc hj]; exact rowsF_lt hlt) dX6_rowAt_17 ?_
    refine v_ifnonnull (tgt := 35) C (by decide) dX6_rowAt_18 ?_
    refine v_aload_n C 0 rfl dX6_rowAt_35 ?_
    refine v_get (v := .ref (F.1 6)) C fl_RX6_11 (35 + E.2.2.1 + 4) (gY rfl) rfl dX6_rowAt_36 ?_
    refine v_iload_n C 1 rfl dX6_rowAt_39 ?_
    refine v_aald (v := .ref (F.2.1 j)) C (35 + E.2.2.1 + 5) (gY rfl) (vp_in_nI hj (by decide)) (by rw [nIc hj]; exact rowsF_lt hlt) dX6_rowAt_40 ?_
    exact v_Q hQ (v_aret C (Or.inr ⟨_, rfl⟩) F.2.1 (fun _ _ => rfl) rfl (by rw [Nat.max_eq_left (by omega), zr, if_pos hlt]) (Nat.zero_le _) (Nat.zero_le _) dX6_rowAt_41)
  · have ej : j = F.2.2.1 := by omega
    refine v_aald (v := .null) C (35 + E.2.2.1 + 5) (gY rfl) (vp_in_nI hj (by decide)) (by rw [nIc hj]; unfold rowsF; rw [if_neg hlt]; rfl) dX6_rowAt_17 ?_
    refine v_ifnonnullN C dX6_rowAt_18 ?_
    refine v_aload_n C 0 rfl dX6_rowAt_21 ?_
    refine v_get (v := .ref (F.1 6)) C fl_RX6_11 (35 + E.2.2.1 + 4) (gY rfl) rfl dX6_rowAt_22 ?_
    refine v_iload_n C 1 rfl dX6_rowAt_25 ?_
    refine v_new (ci := 3) (fs := [.int 0, .int 0, .int 0, .int 0, .int 0, .int 0]) C tyX4 rfl lay_X4 tyX4_ok w_157 w_380 w_69 df_X4 (Nat.le_of_ble_eq_true rfl) (Nat.le_of_ble_eq_true rfl) dX6_rowAt_26 (fun q => ?_)
    refine v_dup C rfl dX6_rowAt_29 ?_
    refine v_iload_n C 1 rfl dX6_rowAt_30 ?_
    refine v_callI (n := 1) (rest := [.ref q, .int (nI j), .ref (F.1 6)]) C w_381 w_382 w_69 w_383 rfl ⟨by decide +kernel, by decide +kernel, by decide +kernel⟩ (n_X4_init l G (Wd G E σ μ (YS G F τ)) q (nI j)) rfl rfl (Nat.le_of_ble_eq_true rfl) ⟨(Nat.le_of_ble_eq_true rfl), (Nat.le_of_ble_eq_true rfl)⟩ ⟨(Nat.le_of_ble_eq_true rfl), (Nat.le_of_ble_eq_true rfl)⟩ dX6_rowAt_31 (fun u _ => ?_)
    refine v_aast C (35 + E.2.2.1 + 5) ((Wd G E σ μ (YS G F τ)).length + 0) (gL (gY rfl)) (gA 0 rfl) (vp_in_nI hj (by decide)) rfl dX6_rowAt_34 ?_
    rw [nIc hj]
    subst ej
    refine v_eqw WdY_up ?_
    refine v_aload_n C 0 rfl dX6_rowAt_35 ?_
    refine v_get (v := .ref (F.1 6)) C fl_RX6_11 (35 + E.2.2.1 + 4) (gY rfl) rfl dX6_rowAt_36 ?_
    refine v_iload_n C 1 rfl dX6_rowAt_39 ?_
    refine v_aald (v := .ref (va_u F q F.2.2.1)) C (35 + E.2.2.1 + 5) (gY rfl) (vp_in_nI hj (by decide)) (by rw [nIc hj]; exact rowsF_lt (E := EK F (va_u F q) (F.2.2.1 + 1)) (Nat.lt_succ_self _)) dX6_rowAt_40 ?_
    exact v_Q hQ (v_aret C (Or.inr ⟨_, rfl⟩) (va_u F q) (fun i hi => by unfold va_u; rw [if_neg (by omega)]) rfl (by rw [Nat.max_eq_right (by omega), zr, if_neg hlt]) (Nat.le_of_ble_eq_true rfl) (Nat.le_of_ble_eq_true rfl) dX6_rowAt_41)
