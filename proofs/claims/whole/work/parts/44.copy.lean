/-! THE SAVED STATE: its cells behind the requests -/
def fxY (G : GG) (F : EE) (τ : Sg) : va_W := [(F.1 1, .inr (7, [.ref (F.1 2), .ref (F.1 5), .ref (F.1 7), .ref (F.1 8)])), (F.1 2, .inr (1, [.int (τ 2 0), .int (τ 2 1), .int (τ 2 2), .int (τ 2 3), .int (τ 2 4), .int (τ 2 5), .int (τ 2 6), .int (τ 2 7), .int (τ 2 8), .int (τ 2 9), .int (τ 2 10), .ref (F.1 3), .ref (F.1 4)])), (F.1 3, .inl (G.2 0, 4, .inl (τ 3))), (F.1 4, .inl (G.2 0, 576, .inl (τ 4))), (F.1 5, .inr (5, [.int (τ 5 0), .int (τ 5 1), .ref (F.1 6)])), (F.1 6, .inl (G.2 2, 80, .inr (.inr (.inr (.inr (rowsF F)))))), (F.1 7, .inr (6, [.int (τ 7 0), .int (τ 7 1), .int (τ 7 2), .int (τ 7 3)])), (F.1 8, .inr (0, [.int (τ 8 0), .int (τ 8 1), .ref (F.1 9)])), (F.1 9, .inl (G.2 0, 8, .inl (τ 9)))]
def YS (G : GG) (F : EE) (τ : Sg) : va_W := fxY G F τ ++ rowsW F τ
theorem rowsW_len {E : EE} {σ : Sg} : (rowsW E σ).length = E.2.2.1 := by simp [rowsW]
theorem gY {G : GG} {E : EE} {σ μ : Sg} {Y : va_W} {k : Nat} {x : Nat × va_E} (h : Y[k]? = some x) : (Wd G E σ μ Y)[35 + E.2.2.1 + k]? = some x := by
  unfold Wd
  rw [List.getElem?_append_right (by rw [fxW_len]; omega), fxW_len, List.getElem?_append_right (by rw [rowsW_len]; omega), rowsW_len, show 35 + E.2.2.1 + k - 35 - E.2.2.1 = k by omega]
  exact h
theorem pYr {G : GG} {E : EE} {σ μ : Sg} {Y Y' : va_W} {k : Nat} {x : Nat × va_E} (h : Y.set k x = Y') : (Wd G E σ μ Y).set (35 + E.2.2.1 + k) x = Wd G E σ μ Y' := by
  unfold Wd
  rw [List.set_append_right _ _ (by rw [fxW_len]; omega), fxW_len, List.set_append_right _ _ (by rw [rowsW_len]; omega), rowsW_len, show 35 + E.2.2.1 + k - 35 - E.2.2.1 = k by omega, h]
theorem gy_row {G : GG} {F : EE} {τ : Sg} {i : Nat} (h : i < F.2.2.1) : (YS G F τ)[9 + i]? = some (F.2.1 i, .inr (3, rowC τ i)) := by
  have h1 : (rowsW F τ)[i]? = some (F.2.1 i, .inr (3, rowC τ i)) := by
    unfold rowsW
    rw [List.getElem?_map, List.getElem?_range h]; rfl
  unfold YS
  rw [List.getElem?_append_right (by show 9 ≤ 9 + i; omega), show 9 + i - (fxY G F τ).length = i by show 9 + i - 9 = i; omega]
  exact h1
theorem py_row {G : GG} {F : EE} {τ τ' : Sg} {i : Nat} (h : i < F.2.2.1) (fs : List Value) (he : fs = rowC τ' i) (hn : ∀ j, j ≠ i → rowC τ' j = rowC τ j) (hp : fxY G F τ' = fxY G F τ) : (YS G F τ).set (9 + i) (F.2.1 i, .inr (3, fs)) = YS G F τ' := by
  have hs := rows_set (E := F) (σ := τ) h (.inr (3, fs)) (by rw [he]) hn
  unfold YS
  rw [List.set_append_right _ _ (by show 9 ≤ 9 + i; omega), show 9 + i - (fxY G F τ).length = i by show 9 + i - 9 = i; omega, hs, hp]
theorem py_row_1 {G : GG} {F : EE} {τ : Sg} {i : Nat} (h : i < F.2.2.1) (v : Int32) : (YS G F τ).set (9 + i) (F.2.1 i, .inr (3, (rowC τ i).set 1 (.int v))) = YS G F (s2 τ 40 i v) :=
  py_row h _ (by simp [rowC, s2, upd]) (fun j hj => by simp [rowC, s2, upd, hj]) rfl
theorem py_row_2 {G : GG} {F : EE} {τ : Sg} {i : Nat} (h : i < F.2.2.1) (v : Int32) : (YS G F τ).set (9 + i) (F.2.1 i, .inr (3, (rowC τ i).set 2 (.int v))) = YS G F (s2 τ 41 i v) :=
  py_row h _ (by simp [rowC, s2, upd]) (fun j hj => by simp [rowC, s2, upd, hj]) rfl
theorem py_row_3 {G : GG} {F : EE} {τ : Sg} {i : Nat} (h : i < F.2.2.1) (v : Int32) : (YS G F τ).set (9 + i) (F.2.1 i, .inr (3, (rowC τ i).set 3 (.int v))) = YS G F (s2 τ 42 i v) :=
  py_row h _ (by simp [rowC, s2, upd]) (fun j hj => by simp [rowC, s2, upd, hj]) rfl
theorem py_row_4 {G : GG} {F : EE} {τ : Sg} {i : Nat} (h : i < F.2.2.1) (v : Int32) : (YS G F τ).set (9 + i) (F.2.1 i, .inr (3, (rowC τ i).set 4 (.int v))) = YS G F (s2 τ 43 i v) :=
  py_row h _ (by simp [rowC, s2, upd]) (fun j hj => by simp [rowC, s2, upd, hj]) rfl
theorem py_row_5 {G : GG} {F : EE} {τ : Sg} {i : Nat} (h : i < F.2.2.1) (v : Int32) : (YS G F τ).set (9 + i) (F.2.1 i, .inr (3, (rowC τ i).set 5 (.int v))) = YS G F (s2 τ 44 i v) :=
  py_row h _ (by simp [rowC, s2, upd]) (fun j hj => by simp [rowC, s2, upd, hj]) rfl
set_option maxRecDepth 100000 in
theorem m_cpR_3 (l : Launch) (G : GG) (E F : EE) (σ μ τ : Sg) : KK l G yX9_copyNumbers cX9_copyNumbers 2 none rm_X9_copyNumbers [.ref (F.1 3), .ref (E.1 3)] (Wd G E σ μ (YS G F τ)) none (Wd G E (sC σ 3 (va_cpy (τ 3) (σ 3) 0 0 4)) μ (YS G F τ)) := by
  refine KE.of (by decide) (Nat.le_of_ble_eq_true rfl) ?_
  intro zp ze zs zm za zb zt zc zA C _
  generalize hQ : MQ zb _ za zs _ _ zA = Q
  show V zp l ze rm_X9_copyNumbers zs zm za zb zt zc 2 G zA 0 0 Q 0 [(0, .ref (F.1 3)), (1, .ref (E.1 3))] [] (Wd G E σ μ (YS G F τ))
  refine v_aload_n C 0 rfl dX9_copyNumbers_0 ?_
  refine v_iconst (v := (0 : Int32)) C (by decide) dX9_copyNumbers_1 ?_
  refine v_aload_n C 1 rfl dX9_copyNumbers_2 ?_
  refine v_iconst (v := (0 : Int32)) C (by decide) dX9_copyNumbers_3 ?_
  refine v_aload_n C 0 rfl dX9_copyNumbers_4 ?_
  refine v_alen (v := (4 : Int32)) C (35 + E.2.2.1 + 2) 0 (gY rfl) rfl rfl dX9_copyNumbers_5 ?_
  refine v_aload_n C 1 rfl dX9_copyNumbers_6 ?_
  refine v_alen (v := (4 : Int32)) C 3 0 g_3 rfl rfl dX9_copyNumbers_7 ?_
  refine v_mmin C w_363 (Nat.le_of_ble_eq_true rfl) (Nat.le_of_ble_eq_true rfl) (Nat.zero_le _) (Nat.zero_le _) dX9_copyNumbers_8 ?_
  refine v_copyi (ws' := (Wd G E (sC σ 3 (va_cpy (τ 3) (σ 3) 0 0 4)) μ (YS G F τ))) (n := (if (4 : Int32) < 4 then (4 : Int32) else 4)) C w_366 (35 + E.2.2.1 + 2) 3 (gY rfl) g_3 (by decide) (by decide) (by decide) (Nat.le_of_ble_eq_true rfl) (Nat.le_of_ble_eq_true rfl) (by rw [show ((if (4 : Int32) < 4 then (4 : Int32) else 4)).toNatClampNeg = 4 by decide]; rfl) dX9_copyNumbers_11 ?_
  exact v_Q hQ (v_vret C () trivial rfl rfl (Nat.zero_le _) (Nat.zero_le _) dX9_copyNumbers_14)
set_option maxRecDepth 100000 in
theorem m_cpS_3 (l : Launch) (G : GG) (E F : EE) (σ μ τ : Sg) : KK l G yX9_copyNumbers cX9_copyNumbers 2 none rm_X9_copyNumbers [.ref (E.1 3), .ref (F.1 3)] (Wd G E σ μ (YS G F τ)) none (Wd G E σ μ (YS G F (sC τ 3 (va_cpy (σ 3) (τ 3) 0 0 4)))) := by
  refine KE.of (by decide) (Nat.le_of_ble_eq_true rfl) ?_
  intro zp ze zs zm za zb zt zc zA C _
  generalize hQ : MQ zb _ za zs _ _ zA = Q
  show V zp l ze rm_X9_copyNumbers zs zm za zb zt zc 2 G zA 0 0 Q 0 [(0, .ref (E.1 3)), (1, .ref (F.1 3))] [] (Wd G E σ μ (YS G F τ))
  refine v_aload_n C 0 rfl dX9_copyNumbers_0 ?_
  refine v_iconst (v := (0 : Int32)) C (by decide) dX9_copyNumbers_1 ?_
  refine v_aload_n C 1 rfl dX9_copyNumbers_2 ?_
  refine v_iconst (v := (0 : Int32)) C (by decide) dX9_copyNumbers_3 ?_
  refine v_aload_n C 0 rfl dX9_copyNumbers_4 ?_
  refine v_alen (v := (4 : Int32)) C 3 0 g_3 rfl rfl dX9_copyNumbers_5 ?_
  refine v_aload_n C 1 rfl dX9_copyNumbers_6 ?_
  refine v_alen (v := (4 : Int32)) C (35 + E.2.2.1 + 2) 0 (gY rfl) rfl rfl dX9_copyNumbers_7 ?_
  refine v_mmin C w_363 (Nat.le_of_ble_eq_true rfl) (Nat.le_of_ble_eq_true rfl) (Nat.zero_le _) (Nat.zero_le _) dX9_copyNumbers_8 ?_
  refine v_copyi (ws' := (Wd G E σ μ (YS G F (sC τ 3 (va_cpy (σ 3) (τ 3) 0 0 4))))) (n := (if (4 : Int32) < 4 then (4 : Int32) else 4)) C w_366 3 (35 + E.2.2.1 + 2) g_3 (gY rfl) (by decide) (by decide) (by decide) (Nat.le_of_ble_eq_true rfl) (Nat.le_of_ble_eq_true rfl) (by rw [show ((if (4 : Int32) < 4 then (4 : Int32) else 4)).toNatClampNeg = 4 by decide]; exact pYr rfl) dX9_copyNumbers_11 ?_
  exact v_Q hQ (v_vret C () trivial rfl rfl (Nat.zero_le _) (Nat.zero_le _) dX9_copyNumbers_14)
set_option maxRecDepth 100000 in
theorem m_cpR_4 (l : Launch) (G : GG) (E F : EE) (σ μ τ : Sg) : KK l G yX9_copyNumbers cX9_copyNumbers 2 none rm_X9_copyNumbers [.ref (F.1 4), .ref (E.1 4)] (Wd G E σ μ (YS G F τ)) none (Wd G E (sC σ 4 (va_cpy (τ 4) (σ 4) 0 0 576)) μ (YS G F τ)) := by
  refine KE.of (by decide) (Nat.le_of_ble_eq_true rfl) ?_
  intro zp ze zs zm za zb zt zc zA C _
  generalize hQ : MQ zb _ za zs _ _ zA = Q
  show V zp l ze rm_X9_copyNumbers zs zm za zb zt zc 2 G zA 0 0 Q 0 [(0, .ref (F.1 4)), (1, .ref (E.1 4))] [] (Wd G E σ μ (YS G F τ))
  refine v_aload_n C 0 rfl dX9_copyNumbers_0 ?_
  refine v_iconst (v := (0 : Int32)) C (by decide) dX9_copyNumbers_1 ?_
  refine v_aload_n C 1 rfl dX9_copyNumbers_2 ?_
  refine v_iconst (v := (0 : Int32)) C (by decide) dX9_copyNumbers_3 ?_
  refine v_aload_n C 0 rfl dX9_copyNumbers_4 ?_
  refine v_alen (v := (576 : Int32)) C (35 + E.2.2.1 + 3) 0 (gY rfl) rfl rfl dX9_copyNumbers_5 ?_
  refine v_aload_n C 1 rfl dX9_copyNumbers_6 ?_
  refine v_alen (v := (576 : Int32)) C 4 0 g_4 rfl rfl dX9_copyNumbers_7 ?_
  refine v_mmin C w_363 (Nat.le_of_ble_eq_true rfl) (Nat.le_of_ble_eq_true rfl) (Nat.zero_le _) (Nat.zero_le _) dX9_copyNumbers_8 ?_
  refine v_copyi (ws' := (Wd G E (sC σ 4 (va_cpy (τ 4) (σ 4) 0 0 576)) μ (YS G F τ))) (n := (if (576 : Int32) < 576 then (576 : Int32) else 576)) C w_366 (35 + E.2.2.1 + 3) 4 (gY rfl) g_4 (by decide) (by decide) (by decide) (Nat.le_of_ble_eq_true rfl) (Nat.le_of_ble_eq_true rfl) (by rw [show ((if (576 : Int32) < 576 then (576 : Int32) else 576)).toNatClampNeg = 576 by decide]; rfl) dX9_copyNumbers_11 ?_
  exact v_Q hQ (v_vret C () trivial rfl rfl (Nat.zero_le _) (Nat.zero_le _) dX9_copyNumbers_14)
set_option maxRecDepth 100000 in
theorem m_cpS_4 (l : Launch) (G : GG) (E F : EE) (σ μ τ : Sg) : KK l G yX9_copyNumbers cX9_copyNumbers 2 none rm_X9_copyNumbers [.ref (E.1 4), .ref (F.1 4)] (Wd G E σ μ (YS G F τ)) none (Wd G E σ μ (YS G F (sC τ 4 (va_cpy (σ 4) (τ 4) 0 0 576)))) := by
  refine KE.of (by decide) (Nat.le_of_ble_eq_true rfl) ?_
  intro zp ze zs zm za zb zt zc zA C _
  generalize hQ : MQ zb _ za zs _ _ zA = Q
  show V zp l ze rm_X9_copyNumbers zs zm za zb zt zc 2 G zA 0 0 Q 0 [(0, .ref (E.1 4)), (1, .ref (F.1 4))] [] (Wd G E σ μ (YS G F τ))
  refine v_aload_n C 0 rfl dX9_copyNumbers_0 ?_
  refine v_iconst (v := (0 : Int32)) C (by decide) dX9_copyNumbers_1 ?_
  refine v_aload_n C 1 rfl dX9_copyNumbers_2 ?_
  refine v_iconst (v := (0 : Int32)) C (by decide) dX9_copyNumbers_3 ?_
  refine v_aload_n C 0 rfl dX9_copyNumbers_4 ?_
  refine v_alen (v := (576 : Int32)) C 4 0 g_4 rfl rfl dX9_copyNumbers_5 ?_
  refine v_aload_n C 1 rfl dX9_copyNumbers_6 ?_
  refine v_alen (v := (576 : Int32)) C (35 + E.2.2.1 + 3) 0 (gY rfl) rfl rfl dX9_copyNumbers_7 ?_
  refine v_mmin C w_363 (Nat.le_of_ble_eq_true rfl) (Nat.le_of_ble_eq_true rfl) (Nat.zero_le _) (Nat.zero_le _) dX9_copyNumbers_8 ?_
  refine v_copyi (ws' := (Wd G E σ μ (YS G F (sC τ 4 (va_cpy (σ 4) (τ 4) 0 0 576))))) (n := (if (576 : Int32) < 576 then (576 : Int32) else 576)) C w_366 4 (35 + E.2.2.1 + 3) g_4 (gY rfl) (by decide) (by decide) (by decide) (Nat.le_of_ble_eq_true rfl) (Nat.le_of_ble_eq_true rfl) (by rw [show ((if (576 : Int32) < 576 then (576 : Int32) else 576)).toNatClampNeg = 576 by decide]; exact pYr rfl) dX9_copyNumbers_11 ?_
  exact v_Q hQ (v_vret C () trivial rfl rfl (Nat.zero_le _) (Nat.zero_le _) dX9_copyNumbers_14)
set_option maxRecDepth 100000 in
theorem m_cpR_9 (l : Launch) (G : GG) (E F : EE) (σ μ τ : Sg) : KK l G yX9_copyNumbers cX9_copyNumbers 2 none rm_X9_copyNumbers [.ref (F.1 9), .ref (E.1 9)] (Wd G E σ μ (YS G F τ)) none (Wd G E (sC σ 9 (va_cpy (τ 9) (σ 9) 0 0 8)) μ (YS G F τ)) := by
  refine KE.of (by decide) (Nat.le_of_ble_eq_true rfl) ?_
  intro zp ze zs zm za zb zt zc zA C _
  generalize hQ : MQ zb _ za zs _ _ zA = Q
  show V zp l ze rm_X9_copyNumbers zs zm za zb zt zc 2 G zA 0 0 Q 0 [(0, .ref (F.1 9)), (1, .ref (E.1 9))] [] (Wd G E σ μ (YS G F τ))
  refine v_aload_n C 0 rfl dX9_copyNumbers_0 ?_
  refine v_iconst (v := (0 : Int32)) C (by decide) dX9_copyNumbers_1 ?_
  refine v_aload_n C 1 rfl dX9_copyNumbers_2 ?_
  refine v_iconst (v := (0 : Int32)) C (by decide) dX9_copyNumbers_3 ?_
  refine v_aload_n C 0 rfl dX9_copyNumbers_4 ?_
  refine v_alen (v := (8 : Int32)) C (35 + E.2.2.1 + 8) 0 (gY rfl) rfl rfl dX9_copyNumbers_5 ?_
  refine v_aload_n C 1 rfl dX9_copyNumbers_6 ?_
  refine v_alen (v := (8 : Int32)) C 9 0 g_9 rfl rfl dX9_copyNumbers_7 ?_
  refine v_mmin C w_363 (Nat.le_of_ble_eq_true rfl) (Nat.le_of_ble_eq_true rfl) (Nat.zero_le _) (Nat.zero_le _) dX9_copyNumbers_8 ?_
  refine v_copyi (ws' := (Wd G E (sC σ 9 (va_cpy (τ 9) (σ 9) 0 0 8)) μ (YS G F τ))) (n := (if (8 : Int32) < 8 then (8 : Int32) else 8)) C w_366 (35 + E.2.2.1 + 8) 9 (gY rfl) g_9 (by decide) (by decide) (by decide) (Nat.le_of_ble_eq_true rfl) (Nat.le_of_ble_eq_true rfl) (by rw [show ((if (8 : Int32) < 8 then (8 : Int32) else 8)).toNatClampNeg = 8 by decide]; rfl) dX9_copyNumbers_11 ?_
  exact v_Q hQ (v_vret C () trivial rfl rfl (Nat.zero_le _) (Nat.zero_le _) dX9_copyNumbers_14)
set_option maxRecDepth 100000 in
theorem m_cpS_9 (l : Launch) (G : GG) (E F : EE) (σ μ τ : Sg) : KK l G yX9_copyNumbers cX9_copyNumbers 2 none rm_X9_copyNumbers [.ref (E.1 9), .ref (F.1 9)] (Wd G E σ μ (YS G F τ)) none (Wd G E σ μ (YS G F (sC τ 9 (va_cpy (σ 9) (τ 9) 0 0 8)))) := by
  refine KE.of (by decide) (Nat.le_of_ble_eq_true rfl) ?_
  intro zp ze zs zm za zb zt zc zA C _
  generalize hQ : MQ zb _ za zs _ _ zA = Q
  show V zp l ze rm_X9_copyNumbers zs zm za zb zt zc 2 G zA 0 0 Q 0 [(0, .ref (E.1 9)), (1, .ref (F.1 9))] [] (Wd G E σ μ (YS G F τ))
  refine v_aload_n C 0 rfl dX9_copyNumbers_0 ?_
  refine v_iconst (v := (0 : Int32)) C (by decide) dX9_copyNumbers_1 ?_
  refine v_aload_n C 1 rfl dX9_copyNumbers_2 ?_
  refine v_iconst (v := (0 : Int32)) C (by decide) dX9_copyNumbers_3 ?_
  refine v_aload_n C 0 rfl dX9_copyNumbers_4 ?_
  refine v_alen (v := (8 : Int32)) C 9 0 g_9 rfl rfl dX9_copyNumbers_5 ?_
  refine v_aload_n C 1 rfl dX9_copyNumbers_6 ?_
  refine v_alen (v := (8 : Int32)) C (35 + E.2.2.1 + 8) 0 (gY rfl) rfl rfl dX9_copyNumbers_7 ?_
  refine v_mmin C w_363 (Nat.le_of_ble_eq_true rfl) (Nat.le_of_ble_eq_true rfl) (Nat.zero_le _) (Nat.zero_le _) dX9_copyNumbers_8 ?_
  refine v_copyi (ws' := (Wd G E σ μ (YS G F (sC τ 9 (va_cpy (σ 9) (τ 9) 0 0 8))))) (n := (if (8 : Int32) < 8 then (8 : Int32) else 8)) C w_366 9 (35 + E.2.2.1 + 8) g_9 (gY rfl) (by decide) (by decide) (by decide) (Nat.le_of_ble_eq_true rfl) (Nat.le_of_ble_eq_true rfl) (by rw [show ((if (8 : Int32) < 8 then (8 : Int32) else 8)).toNatClampNeg = 8 by decide]; exact pYr rfl) dX9_copyNumbers_11 ?_
  exact v_Q hQ (v_vret C () trivial rfl rfl (Nat.zero_le _) (Nat.zero_le _) dX9_copyNumbers_14)
def F_X1_copyFromR (σ τ : Sg) : Sg := (sC (sC (s2 (s2 (s2 (s2 (s2 (s2 (s2 (s2 (s2 (s2 (s2 σ 2 0 (τ 2 0)) 2 1 (τ 2 1)) 2 2 (τ 2 2)) 2 3 (τ 2 3)) 2 4 (τ 2 4)) 2 5 (τ 2 5)) 2 6 (τ 2 6)) 2 7 (τ 2 7)) 2 8 (τ 2 8)) 2 9 (τ 2 9)) 2 10 (τ 2 10)) 3 (va_cpy (τ 3) ((s2 (s2 (s2 (s2 (s2 (s2 (s2 (s2 (s2 (s2 (s2 σ 2 0 (τ 2 0)) 2 1 (τ 2 1)) 2 2 (τ 2 2)) 2 3 (τ 2 3)) 2 4 (τ 2 4)) 2 5 (τ 2 5)) 2 6 (τ 2 6)) 2 7 (τ 2 7)) 2 8 (τ 2 8)) 2 9 (τ 2 9)) 2 10 (τ 2 10)) 3) 0 0 4)) 4 (va_cpy (τ 4) ((sC (s2 (s2 (s2 (s2 (s2 (s2 (s2 (s2 (s2 (s2 (s2 σ 2 0 (τ 2 0)) 2 1 (τ 2 1)) 2 2 (τ 2 2)) 2 3 (τ 2 3)) 2 4 (τ 2 4)) 2 5 (τ 2 5)) 2 6 (τ 2 6)) 2 7 (τ 2 7)) 2 8 (τ 2 8)) 2 9 (τ 2 9)) 2 10 (τ 2 10)) 3 (va_cpy (τ 3) ((s2 (s2 (s2 (s2 (s2 (s2 (s2 (s2 (s2 (s2 (s2 σ 2 0 (τ 2 0)) 2 1 (τ 2 1)) 2 2 (τ 2 2)) 2 3 (τ 2 3)) 2 4 (τ 2 4)) 2 5 (τ 2 5)) 2 6 (τ 2 6)) 2 7 (τ 2 7)) 2 8 (τ 2 8)) 2 9 (τ 2 9)) 2 10 (τ 2 10)) 3) 0 0 4)) 4) 0 0 576))
abbrev rm_X1_copyFromR : Room := { frames := 2, cells := 0, slots := 0, locals := 100 }
set_option maxRecDepth 100000 in
set_option maxHeartbeats 1000000 in
theorem m_X1_copyFromR (l : Launch) (G : GG) (E F : EE) (σ μ τ : Sg) : KK l G yX1_copyFrom cX1_copyFrom 2 none rm_X1_copyFromR [.ref (E.1 2), .ref (F.1 2)] (Wd G E σ μ (YS G F τ)) none (Wd G E (F_X1_copyFromR σ τ) μ (YS G F τ)) := by
  refine KE.of (by decide) (Nat.le_of_ble_eq_true rfl) ?_
  intro zp ze zs zm za zb zt zc zA C _
  generalize hQ : MQ zb _ za zs _ _ zA = Q
  show V zp l ze rm_X1_copyFromR zs zm za zb zt zc 2 G zA 0 0 Q 0 [(0, .ref (E.1 2)), (1, .ref (F.1 2))] [] (Wd G E σ μ (YS G F τ))
  refine v_aload_n C 0 rfl dX1_copyFrom_0 ?_
  refine v_aload_n C 1 rfl dX1_copyFrom_1 ?_
  refine v_get (v := .int (τ 2 0)) C fl_RX1_9 (35 + E.2.2.1 + 1) (gY rfl) rfl dX1_copyFrom_2 ?_
  refine v_put (ws' := (Wd G E (s2 σ 2 0 (τ 2 0)) μ (YS G F τ))) C fp_RX1_9 2 g_2 rfl rfl (Nat.le_of_ble_eq_true rfl) (p_2_0 _) dX1_copyFrom_5 ?_
  refine v_aload_n C 0 rfl dX1_copyFrom_8 ?_
  refine v_aload_n C 1 rfl dX1_copyFrom_9 ?_
  refine v_get (v := .int (τ 2 1)) C fl_RX1_15 (35 + E.2.2.1 + 1) (gY rfl) rfl dX1_copyFrom_10 ?_
  refine v_put (ws' := (Wd G E (s2 (s2 σ 2 0 (τ 2 0)) 2 1 (τ 2 1)) μ (YS G F τ))) C fp_RX1_15 2 g_2 rfl rfl (Nat.le_of_ble_eq_true rfl) (p_2_1 _) dX1_copyFrom_13 ?_
  refine v_aload_n C 0 rfl dX1_copyFrom_16 ?_
  refine v_aload_n C 1 rfl dX1_copyFrom_17 ?_
  refine v_get (v := .int (τ 2 2)) C fl_RX1_18 (35 + E.2.2.1 + 1) (gY rfl) rfl dX1_copyFrom_18 ?_
  refine v_put (ws' := (Wd G E (s2 (s2 (s2 σ 2 0 (τ 2 0)) 2 1 (τ 2 1)) 2 2 (τ 2 2)) μ (YS G F τ))) C fp_RX1_18 2 g_2 rfl rfl (Nat.le_of_ble_eq_true rfl) (p_2_2 _) dX1_copyFrom_21 ?_
  refine v_aload_n C 0 rfl dX1_copyFrom_24 ?_
  refine v_aload_n C 1 rfl dX1_copyFrom_25 ?_
  refine v_get (v := .int (τ 2 3)) C fl_RX1_28 (35 + E.2.2.1 + 1) (gY rfl) rfl dX1_copyFrom_26 ?_
  refine v_put (ws' := (Wd G E (s2 (s2 (s2 (s2 σ 2 0 (τ 2 0)) 2 1 (τ 2 1)) 2 2 (τ 2 2)) 2 3 (τ 2 3)) μ (YS G F τ))) C fp_RX1_28 2 g_2 rfl rfl (Nat.le_of_ble_eq_true rfl) (p_2_3 _) dX1_copyFrom_29 ?_
  refine v_aload_n C 0 rfl dX1_copyFrom_32 ?_
  refine v_aload_n C 1 rfl dX1_copyFrom_33 ?_
  refine v_get (v := .int (τ 2 4)) C fl_RX1_31 (35 + E.2.2.1 + 1) (gY rfl) rfl dX1_copyFrom_34 ?_
  refine v_put (ws' := (Wd G E (s2 (s2 (s2 (s2 (s2 σ 2 0 (τ 2 0)) 2 1 (τ 2 1)) 2 2 (τ 2 2)) 2 3 (τ 2 3)) 2 4 (τ 2 4)) μ (YS G F τ))) C fp_RX1_31 2 g_2 rfl rfl (Nat.le_of_ble_eq_true rfl) (p_2_4 _) dX1_copyFrom_37 ?_
  refine v_aload_n C 0 rfl dX1_copyFrom_40 ?_
  refine v_aload_n C 1 rfl dX1_copyFrom_41 ?_
  refine v_get (v := .int (τ 2 5)) C fl_RX1_34 (35 + E.2.2.1 + 1) (gY rfl) rfl dX1_copyFrom_42 ?_
  refine v_put (ws' := (Wd G E (s2 (s2 (s2 (s2 (s2 (s2 σ 2 0 (τ 2 0)) 2 1 (τ 2 1)) 2 2 (τ 2 2)) 2 3 (τ 2 3)) 2 4 (τ 2 4)) 2 5 (τ 2 5)) μ (YS G F τ))) C fp_RX1_34 2 g_2 rfl rfl (Nat.le_of_ble_eq_true rfl) (p_2_5 _) dX1_copyFrom_45 ?_
  refine v_aload_n C 0 rfl dX1_copyFrom_48 ?_
  refine v_aload_n C 1 rfl dX1_copyFrom_49 ?_
  refine v_get (v := .int (τ 2 6)) C fl_RX1_37 (35 + E.2.2.1 + 1) (gY rfl) rfl dX1_copyFrom_50 ?_
  refine v_put (ws' := (Wd G E (s2 (s2 (s2 (s2 (s2 (s2 (s2 σ 2 0 (τ 2 0)) 2 1 (τ 2 1)) 2 2 (τ 2 2)) 2 3 (τ 2 3)) 2 4 (τ 2 4)) 2 5 (τ 2 5)) 2 6 (τ 2 6)) μ (YS G F τ))) C fp_RX1_37 2 g_2 rfl rfl (Nat.le_of_ble_eq_true rfl) (p_2_6 _) dX1_copyFrom_53 ?_
  refine v_aload_n C 0 rfl dX1_copyFrom_56 ?_
  refine v_aload_n C 1 rfl dX1_copyFrom_57 ?_
  refine v_get (v := .int (τ 2 7)) C fl_RX1_40 (35 + E.2.2.1 + 1) (gY rfl) rfl dX1_copyFrom_58 ?_
  refine v_put (ws' := (Wd G E (s2 (s2 (s2 (s2 (s2 (s2 (s2 (s2 σ 2 0 (τ 2 0)) 2 1 (τ 2 1)) 2 2 (τ 2 2)) 2 3 (τ 2 3)) 2 4 (τ 2 4)) 2 5 (τ 2 5)) 2 6 (τ 2 6)) 2 7 (τ 2 7)) μ (YS G F τ))) C fp_RX1_40 2 g_2 rfl rfl (Nat.le_of_ble_eq_true rfl) (p_2_7 _) dX1_copyFrom_61 ?_
  refine v_aload_n C 0 rfl dX1_copyFrom_64 ?_
  refine v_aload_n C 1 rfl dX1_copyFrom_65 ?_
  refine v_get (v := .int (τ 2 8)) C fl_RX1_43 (35 + E.2.2.1 + 1) (gY rfl) rfl dX1_copyFrom_66 ?_
  refine v_put (ws' := (Wd G E (s2 (s2 (s2 (s2 (s2 (s2 (s2 (s2 (s2 σ 2 0 (τ 2 0)) 2 1 (τ 2 1)) 2 2 (τ 2 2)) 2 3 (τ 2 3)) 2 4 (τ 2 4)) 2 5 (τ 2 5)) 2 6 (τ 2 6)) 2 7 (τ 2 7)) 2 8 (τ 2 8)) μ (YS G F τ))) C fp_RX1_43 2 g_2 rfl rfl (Nat.le_of_ble_eq_true rfl) (p_2_8 _) dX1_copyFrom_69 ?_
  refine v_aload_n C 0 rfl dX1_copyFrom_72 ?_
  refine v_aload_n C 1 rfl dX1_copyFrom_73 ?_
  refine v_get (v := .int (τ 2 9)) C fl_RX1_46 (35 + E.2.2.1 + 1) (gY rfl) rfl dX1_copyFrom_74 ?_
  refine v_put (ws' := (Wd G E (s2 (s2 (s2 (s2 (s2 (s2 (s2 (s2 (s2 (s2 σ 2 0 (τ 2 0)) 2 1 (τ 2 1)) 2 2 (τ 2 2)) 2 3 (τ 2 3)) 2 4 (τ 2 4)) 2 5 (τ 2 5)) 2 6 (τ 2 6)) 2 7 (τ 2 7)) 2 8 (τ 2 8)) 2 9 (τ 2 9)) μ (YS G F τ))) C fp_RX1_46 2 g_2 rfl rfl (Nat.le_of_ble_eq_true rfl) (p_2_9 _) dX1_copyFrom_77 ?_
  refine v_aload_n C 0 rfl dX1_copyFrom_80 ?_
  refine v_aload_n C 1 rfl dX1_copyFrom_81 ?_
  refine v_get (v := .int (τ 2 10)) C fl_RX1_49 (35 + E.2.2.1 + 1) (gY rfl) rfl dX1_copyFrom_82 ?_
  refine v_put (ws' := (Wd G E (s2 (s2 (s2 (s2 (s2 (s2 (s2 (s2 (s2 (s2 (s2 σ 2 0 (τ 2 0)) 2 1 (τ 2 1)) 2 2 (τ 2 2)) 2 3 (τ 2 3)) 2 4 (τ 2 4)) 2 5 (τ 2 5)) 2 6 (τ 2 6)) 2 7 (τ 2 7)) 2 8 (τ 2 8)) 2 9 (τ 2 9)) 2 10 (τ 2 10)) μ (YS G F τ))) C fp_RX1_49 2 g_2 rfl rfl (Nat.le_of_ble_eq_true rfl) (p_2_10 _) dX1_copyFrom_85 ?_
  refine v_aload_n C 1 rfl dX1_copyFrom_88 ?_
  refine v_get (v := .ref (F.1 3)) C fl_RX1_21 (35 + E.2.2.1 + 1) (gY rfl) rfl dX1_copyFrom_89 ?_
  refine v_aload_n C 0 rfl dX1_copyFrom_92 ?_
  refine v_get (v := .ref (E.1 3)) C fl_RX1_21 2 g_2 rfl dX1_copyFrom_93 ?_
  refine v_cN0 (rest := []) C mn_RX1_52 w_361 (m_cpR_3 l G E F (s2 (s2 (s2 (s2 (s2 (s2 (s2 (s2 (s2 (s2 (s2 σ 2 0 (τ 2 0)) 2 1 (τ 2 1)) 2 2 (τ 2 2)) 2 3 (τ 2 3)) 2 4 (τ 2 4)) 2 5 (τ 2 5)) 2 6 (τ 2 6)) 2 7 (τ 2 7)) 2 8 (τ 2 8)) 2 9 (τ 2 9)) 2 10 (τ 2 10)) μ τ) rfl rfl (Nat.le_of_ble_eq_true rfl) ⟨(Nat.le_of_ble_eq_true rfl), (Nat.le_of_ble_eq_true rfl)⟩ ⟨rfl, rfl⟩ ⟨Nat.zero_le _, Nat.zero_le _⟩ dX1_copyFrom_96 ?_
  refine v_aload_n C 1 rfl dX1_copyFrom_99 ?_
  refine v_get (v := .ref (F.1 4)) C fl_RX1_25 (35 + E.2.2.1 + 1) (gY rfl) rfl dX1_copyFrom_100 ?_
  refine v_aload_n C 0 rfl dX1_copyFrom_103 ?_
  refine v_get (v := .ref (E.1 4)) C fl_RX1_25 2 g_2 rfl dX1_copyFrom_104 ?_
  refine v_cN0 (rest := []) C mn_RX1_52 w_361 (m_cpR_4 l G E F (sC (s2 (s2 (s2 (s2 (s2 (s2 (s2 (s2 (s2 (s2 (s2 σ 2 0 (τ 2 0)) 2 1 (τ 2 1)) 2 2 (τ 2 2)) 2 3 (τ 2 3)) 2 4 (τ 2 4)) 2 5 (τ 2 5)) 2 6 (τ 2 6)) 2 7 (τ 2 7)) 2 8 (τ 2 8)) 2 9 (τ 2 9)) 2 10 (τ 2 10)) 3 (va_cpy (τ 3) ((s2 (s2 (s2 (s2 (s2 (s2 (s2 (s2 (s2 (s2 (s2 σ 2 0 (τ 2 0)) 2 1 (τ 2 1)) 2 2 (τ 2 2)) 2 3 (τ 2 3)) 2 4 (τ 2 4)) 2 5 (τ 2 5)) 2 6 (τ 2 6)) 2 7 (τ 2 7)) 2 8 (τ 2 8)) 2 9 (τ 2 9)) 2 10 (τ 2 10)) 3) 0 0 4)) μ τ) rfl rfl (Nat.le_of_ble_eq_true rfl) ⟨(Nat.le_of_ble_eq_true rfl), (Nat.le_of_ble_eq_true rfl)⟩ ⟨rfl, rfl⟩ ⟨Nat.zero_le _, Nat.zero_le _⟩ dX1_copyFrom_107 ?_
  exact v_Q hQ (v_vret C () trivial rfl rfl (Nat.zero_le _) (Nat.zero_le _) dX1_copyFrom_110)
def F_X7_copyFromR (σ τ : Sg) : Sg := (s2 (s2 (s2 (s2 σ 7 0 (τ 7 0)) 7 1 (τ 7 1)) 7 2 (τ 7 2)) 7 3 (τ 7 3))
abbrev rm_X7_copyFromR : Room := { frames := 0, cells := 0, slots := 0, locals := 0 }
set_option maxRecDepth 100000 in
set_option maxHeartbeats 1000000 in
theorem m_X7_copyFromR (l : Launch) (G : GG) (E F : EE) (σ μ τ : Sg) (hb : τ 7 1 = 0 ∨ τ 7 1 = 1) : KK l G yX7_copyFrom cX7_copyFrom 2 none rm_X7_copyFromR [.ref (E.1 7), .ref (F.1 7)] (Wd G E σ μ (YS G F τ)) none (Wd G E (F_X7_copyFromR σ τ) μ (YS G F τ)) := by
  refine KE.of (by decide) (Nat.le_of_ble_eq_true rfl) ?_
  intro zp ze zs zm za zb zt zc zA C _
  generalize hQ : MQ zb _ za zs _ _ zA = Q
  show V zp l ze rm_X7_copyFromR zs zm za zb zt zc 2 G zA 0 0 Q 0 [(0, .ref (E.1 7)), (1, .ref (F.1 7))] [] (Wd G E σ μ (YS G F τ))
  refine v_aload_n C 0 rfl dX7_copyFrom_0 ?_
  refine v_aload_n C 1 rfl dX7_copyFrom_1 ?_
  refine v_get (v := .int (τ 7 0)) C fl_RX7_22 (35 + E.2.2.1 + 6) (gY rfl) rfl dX7_copyFrom_2 ?_
  refine v_put (ws' := (Wd G E (s2 σ 7 0 (τ 7 0)) μ (YS G F τ))) C fp_RX7_22 7 g_7 rfl rfl (Nat.le_of_ble_eq_true rfl) (p_7_0 _) dX7_copyFrom_5 ?_
  refine v_aload_n C 0 rfl dX7_copyFrom_8 ?_
  refine v_aload_n C 1 rfl dX7_copyFrom_9 ?_
  refine v_get (v := .int (τ 7 1)) C fl_RX7_9 (35 + E.2.2.1 + 6) (gY rfl) rfl dX7_copyFrom_10 ?_
  refine v_put (ws' := (Wd G E (s2 (s2 σ 7 0 (τ 7 0)) 7 1 (τ 7 1)) μ (YS G F τ))) C fp_RX7_9 7 g_7 (nbz hb) (fbz hb) (Nat.le_of_ble_eq_true rfl) (p_7_1 _) dX7_copyFrom_13 ?_
  refine v_aload_n C 0 rfl dX7_copyFrom_16 ?_
  refine v_aload_n C 1 rfl dX7_copyFrom_17 ?_
  refine v_get (v := .int (τ 7 2)) C fl_RX7_15 (35 + E.2.2.1 + 6) (gY rfl) rfl dX7_copyFrom_18 ?_
  refine v_put (ws' := (Wd G E (s2 (s2 (s2 σ 7 0 (τ 7 0)) 7 1 (τ 7 1)) 7 2 (τ 7 2)) μ (YS G F τ))) C fp_RX7_15 7 g_7 rfl rfl (Nat.le_of_ble_eq_true rfl) (p_7_2 _) dX7_copyFrom_21 ?_
  refine v_aload_n C 0 rfl dX7_copyFrom_24 ?_
  refine v_aload_n C 1 rfl dX7_copyFrom_25 ?_
  refine v_get (v := .int (τ 7 3)) C fl_RX7_19 (35 + E.2.2.1 + 6) (gY rfl) rfl dX7_copyFrom_26 ?_
  refine v_put (ws' := (Wd G E (s2 (s2 (s2 (s2 σ 7 0 (τ 7 0)) 7 1 (τ 7 1)) 7 2 (τ 7 2)) 7 3 (τ 7 3)) μ (YS G F τ))) C fp_RX7_19 7 g_7 rfl rfl (Nat.le_of_ble_eq_true rfl) (p_7_3 _) dX7_copyFrom_29 ?_
  exact v_Q hQ (v_vret C () trivial rfl rfl (Nat.zero_le _) (Nat.zero_le _) dX7_copyFrom_32)
def F_X0_copyFromR (σ τ : Sg) : Sg := (sC (s2 (s2 σ 8 0 (τ 8 0)) 8 1 (τ 8 1)) 9 (va_cpy (τ 9) ((s2 (s2 σ 8 0 (τ 8 0)) 8 1 (τ 8 1)) 9) 0 0 8))
abbrev rm_X0_copyFromR : Room := { frames := 2, cells := 0, slots := 0, locals := 100 }
set_option maxRecDepth 100000 in
set_option maxHeartbeats 1000000 in
theorem m_X0_copyFromR (l : Launch) (G : GG) (E F : EE) (σ μ τ : Sg) (hb : τ 8 0 = 0 ∨ τ 8 0 = 1) : KK l G yX0_copyFrom cX0_copyFrom 2 none rm_X0_copyFromR [.ref (E.1 8), .ref (F.1 8)] (Wd G E σ μ (YS G F τ)) none (Wd G E (F_X0_copyFromR σ τ) μ (YS G F τ)) := by
  refine KE.of (by decide) (Nat.le_of_ble_eq_true rfl) ?_
  intro zp ze zs zm za zb zt zc zA C _
  generalize hQ : MQ zb _ za zs _ _ zA = Q
  show V zp l ze rm_X0_copyFromR zs zm za zb zt zc 2 G zA 0 0 Q 0 [(0, .ref (E.1 8)), (1, .ref (F.1 8))] [] (Wd G E σ μ (YS G F τ))
  refine v_aload_n C 0 rfl dX0_copyFrom_0 ?_
  refine v_aload_n C 1 rfl dX0_copyFrom_1 ?_
  refine v_get (v := .int (τ 8 0)) C fl_RX0_15 (35 + E.2.2.1 + 7) (gY rfl) rfl dX0_copyFrom_2 ?_
  refine v_put (ws' := (Wd G E (s2 σ 8 0 (τ 8 0)) μ (YS G F τ))) C fp_RX0_15 8 g_8 (nbz hb) (fbz hb) (Nat.le_of_ble_eq_true rfl) (p_8_0 _) dX0_copyFrom_5 ?_
  refine v_aload_n C 0 rfl dX0_copyFrom_8 ?_
  refine v_aload_n C 1 rfl dX0_copyFrom_9 ?_
  refine v_get (v := .int (τ 8 1)) C fl_RX0_19 (35 + E.2.2.1 + 7) (gY rfl) rfl dX0_copyFrom_10 ?_
  refine v_put (ws' := (Wd G E (s2 (s2 σ 8 0 (τ 8 0)) 8 1 (τ 8 1)) μ (YS G F τ))) C fp_RX0_19 8 g_8 rfl rfl (Nat.le_of_ble_eq_true rfl) (p_8_1 _) dX0_copyFrom_13 ?_
  refine v_aload_n C 1 rfl dX0_copyFrom_16 ?_
  refine v_get (v := .ref (F.1 9)) C fl_RX0_9 (35 + E.2.2.1 + 7) (gY rfl) rfl dX0_copyFrom_17 ?_
  refine v_aload_n C 0 rfl dX0_copyFrom_20 ?_
  refine v_get (v := .ref (E.1 9)) C fl_RX0_9 8 g_8 rfl dX0_copyFrom_21 ?_
  refine v_cN0 (rest := []) C mn_RX0_23 w_361 (m_cpR_9 l G E F (s2 (s2 σ 8 0 (τ 8 0)) 8 1 (τ 8 1)) μ τ) rfl rfl (Nat.le_of_ble_eq_true rfl) ⟨(Nat.le_of_ble_eq_true rfl), (Nat.le_of_ble_eq_true rfl)⟩ ⟨rfl, rfl⟩ ⟨Nat.zero_le _, Nat.zero_le _⟩ dX0_copyFrom_24 ?_
  exact v_Q hQ (v_vret C () trivial rfl rfl (Nat.zero_le _) (Nat.zero_le _) dX0_copyFrom_27)
def F_X1_copyFromS (σ τ : Sg) : Sg := (sC (sC (s2 (s2 (s2 (s2 (s2 (s2 (s2 (s2 (s2 (s2 (s2 τ 2 0 (σ 2 0)) 2 1 (σ 2 1)) 2 2 (σ 2 2)) 2 3 (σ 2 3)) 2 4 (σ 2 4)) 2 5 (σ 2 5)) 2 6 (σ 2 6)) 2 7 (σ 2 7)) 2 8 (σ 2 8)) 2 9 (σ 2 9)) 2 10 (σ 2 10)) 3 (va_cpy (σ 3) ((s2 (s2 (s2 (s2 (s2 (s2 (s2 (s2 (s2 (s2 (s2 τ 2 0 (σ 2 0)) 2 1 (σ 2 1)) 2 2 (σ 2 2)) 2 3 (σ 2 3)) 2 4 (σ 2 4)) 2 5 (σ 2 5)) 2 6 (σ 2 6)) 2 7 (σ 2 7)) 2 8 (σ 2 8)) 2 9 (σ 2 9)) 2 10 (σ 2 10)) 3) 0 0 4)) 4 (va_cpy (σ 4) ((sC (s2 (s2 (s2 (s2 (s2 (s2 (s2 (s2 (s2 (s2 (s2 τ 2 0 (σ 2 0)) 2 1 (σ 2 1)) 2 2 (σ 2 2)) 2 3 (σ 2 3)) 2 4 (σ 2 4)) 2 5 (σ 2 5)) 2 6 (σ 2 6)) 2 7 (σ 2 7)) 2 8 (σ 2 8)) 2 9 (σ 2 9)) 2 10 (σ 2 10)) 3 (va_cpy (σ 3) ((s2 (s2 (s2 (s2 (s2 (s2 (s2 (s2 (s2 (s2 (s2 τ 2 0 (σ 2 0)) 2 1 (σ 2 1)) 2 2 (σ 2 2)) 2 3 (σ 2 3)) 2 4 (σ 2 4)) 2 5 (σ 2 5)) 2 6 (σ 2 6)) 2 7 (σ 2 7)) 2 8 (σ 2 8)) 2 9 (σ 2 9)) 2 10 (σ 2 10)) 3) 0 0 4)) 4) 0 0 576))
abbrev rm_X1_copyFromS : Room := { frames := 2, cells := 0, slots := 0, locals := 100 }
set_option maxRecDepth 100000 in
set_option maxHeartbeats 1000000 in
theorem m_X1_copyFromS (l : Launch) (G : GG) (E F : EE) (σ μ τ : Sg) : KK l G yX1_copyFrom cX1_copyFrom 2 none rm_X1_copyFromS [.ref (F.1 2), .ref (E.1 2)] (Wd G E σ μ (YS G F τ)) none (Wd G E σ μ (YS G F (F_X1_copyFromS σ τ))) := by
  refine KE.of (by decide) (Nat.le_of_ble_eq_true rfl) ?_
  intro zp ze zs zm za zb zt zc zA C _
  generalize hQ : MQ zb _ za zs _ _ zA = Q
  show V zp l ze rm_X1_copyFromS zs zm za zb zt zc 2 G zA 0 0 Q 0 [(0, .ref (F.1 2)), (1, .ref (E.1 2))] [] (Wd G E σ μ (YS G F τ))
  refine v_aload_n C 0 rfl dX1_copyFrom_0 ?_
  refine v_aload_n C 1 rfl dX1_copyFrom_1 ?_
  refine v_get (v := .int (σ 2 0)) C fl_RX1_9 2 g_2 rfl dX1_copyFrom_2 ?_
  refine v_put (ws' := (Wd G E σ μ (YS G F (s2 τ 2 0 (σ 2 0))))) C fp_RX1_9 (35 + E.2.2.1 + 1) (gY rfl) rfl rfl (Nat.le_of_ble_eq_true rfl) (pYr rfl) dX1_copyFrom_5 ?_
  refine v_aload_n C 0 rfl dX1_copyFrom_8 ?_
  refine v_aload_n C 1 rfl dX1_copyFrom_9 ?_
  refine v_get (v := .int (σ 2 1)) C fl_RX1_15 2 g_2 rfl dX1_copyFrom_10 ?_
  refine v_put (ws' := (Wd G E σ μ (YS G F (s2 (s2 τ 2 0 (σ 2 0)) 2 1 (σ 2 1))))) C fp_RX1_15 (35 + E.2.2.1 + 1) (gY rfl) rfl rfl (Nat.le_of_ble_eq_true rfl) (pYr rfl) dX1_copyFrom_13 ?_
  refine v_aload_n C 0 rfl dX1_copyFrom_16 ?_
  refine v_aload_n C 1 rfl dX1_copyFrom_17 ?_
  refine v_get (v := .int (σ 2 2)) C fl_RX1_18 2 g_2 rfl dX1_copyFrom_18 ?_
  refine v_put (ws' := (Wd G E σ μ (YS G F (s2 (s2 (s2 τ 2 0 (σ 2 0)) 2 1 (σ 2 1)) 2 2 (σ 2 2))))) C fp_RX1_18 (35 + E.2.2.1 + 1) (gY rfl) rfl rfl (Nat.le_of_ble_eq_true rfl) (pYr rfl) dX1_copyFrom_21 ?_
  refine v_aload_n C 0 rfl dX1_copyFrom_24 ?_
  refine v_aload_n C 1 rfl dX1_copyFrom_25 ?_
  refine v_get (v := .int (σ 2 3)) C fl_RX1_28 2 g_2 rfl dX1_copyFrom_26 ?_
  refine v_put (ws' := (Wd G E σ μ (YS G F (s2 (s2 (s2 (s2 τ 2 0 (σ 2 0)) 2 1 (σ 2 1)) 2 2 (σ 2 2)) 2 3 (σ 2 3))))) C fp_RX1_28 (35 + E.2.2.1 + 1) (gY rfl) rfl rfl (Nat.le_of_ble_eq_true rfl) (pYr rfl) dX1_copyFrom_29 ?_
  refine v_aload_n C 0 rfl dX1_copyFrom_32 ?_
  refine v_aload_n C 1 rfl dX1_copyFrom_33 ?_
  refine v_get (v := .int (σ 2 4)) C fl_RX1_31 2 g_2 rfl dX1_copyFrom_34 ?_
  refine v_put (ws' := (Wd G E σ μ (YS G F (s2 (s2 (s2 (s2 (s2 τ 2 0 (σ 2 0)) 2 1 (σ 2 1)) 2 2 (σ 2 2)) 2 3 (σ 2 3)) 2 4 (σ 2 4))))) C fp_RX1_31 (35 + E.2.2.1 + 1) (gY rfl) rfl rfl (Nat.le_of_ble_eq_true rfl) (pYr rfl) dX1_copyFrom_37 ?_
  refine v_aload_n C 0 rfl dX1_copyFrom_40 ?_
  refine v_aload_n C 1 rfl dX1_copyFrom_41 ?_
  refine v_get (v := .int (σ 2 5)) C fl_RX1_34 2 g_2 rfl dX1_copyFrom_42 ?_
  refine v_put (ws' := (Wd G E σ μ (YS G F (s2 (s2 (s2 (s2 (s2 (s2 τ 2 0 (σ 2 0)) 2 1 (σ 2 1)) 2 2 (σ 2 2)) 2 3 (σ 2 3)) 2 4 (σ 2 4)) 2 5 (σ 2 5))))) C fp_RX1_34 (35 + E.2.2.1 + 1) (gY rfl) rfl rfl (Nat.le_of_ble_eq_true rfl) (pYr rfl) dX1_copyFrom_45 ?_
  refine v_aload_n C 0 rfl dX1_copyFrom_48 ?_
  refine v_aload_n C 1 rfl dX1_copyFrom_49 ?_
  refine v_get (v := .int (σ 2 6)) C fl_RX1_37 2 g_2 rfl dX1_copyFrom_50 ?_
  refine v_put (ws' := (Wd G E σ μ (YS G F (s2 (s2 (s2 (s2 (s2 (s2 (s2 τ 2 0 (σ 2 0)) 2 1 (σ 2 1)) 2 2 (σ 2 2)) 2 3 (σ 2 3)) 2 4 (σ 2 4)) 2 5 (σ 2 5)) 2 6 (σ 2 6))))) C fp_RX1_37 (35 + E.2.2.1 + 1) (gY rfl) rfl rfl (Nat.le_of_ble_eq_true rfl) (pYr rfl) dX1_copyFrom_53 ?_
  refine v_aload_n C 0 rfl dX1_copyFrom_56 ?_
  refine v_aload_n C 1 rfl dX1_copyFrom_57 ?_
  refine v_get (v := .int (σ 2 7)) C fl_RX1_40 2 g_2 rfl dX1_copyFrom_58 ?_
  refine v_put (ws' := (Wd G E σ μ (YS G F (s2 (s2 (s2 (s2 (s2 (s2 (s2 (s2 τ 2 0 (σ 2 0)) 2 1 (σ 2 1)) 2 2 (σ 2 2)) 2 3 (σ 2 3)) 2 4 (σ 2 4)) 2 5 (σ 2 5)) 2 6 (σ 2 6)) 2 7 (σ 2 7))))) C fp_RX1_40 (35 + E.2.2.1 + 1) (gY rfl) rfl rfl (Nat.le_of_ble_eq_true rfl) (pYr rfl) dX1_copyFrom_61 ?_
  refine v_aload_n C 0 rfl dX1_copyFrom_64 ?_
  refine v_aload_n C 1 rfl dX1_copyFrom_65 ?_
  refine v_get (v := .int (σ 2 8)) C fl_RX1_43 2 g_2 rfl dX1_copyFrom_66 ?_
  refine v_put (ws' := (Wd G E σ μ (YS G F (s2 (s2 (s2 (s2 (s2 (s2 (s2 (s2 (s2 τ 2 0 (σ 2 0)) 2 1 (σ 2 1)) 2 2 (σ 2 2)) 2 3 (σ 2 3)) 2 4 (σ 2 4)) 2 5 (σ 2 5)) 2 6 (σ 2 6)) 2 7 (σ 2 7)) 2 8 (σ 2 8))))) C fp_RX1_43 (35 + E.2.2.1 + 1) (gY rfl) rfl rfl (Nat.le_of_ble_eq_true rfl) (pYr rfl) dX1_copyFrom_69 ?_
  refine v_aload_n C 0 rfl dX1_copyFrom_72 ?_
  refine v_aload_n C 1 rfl dX1_copyFrom_73 ?_
  refine v_get (v := .int (σ 2 9)) C fl_RX1_46 2 g_2 rfl dX1_copyFrom_74 ?_
  refine v_put (ws' := (Wd G E σ μ (YS G F (s2 (s2 (s2 (s2 (s2 (s2 (s2 (s2 (s2 (s2 τ 2 0 (σ 2 0)) 2 1 (σ 2 1)) 2 2 (σ 2 2)) 2 3 (σ 2 3)) 2 4 (σ 2 4)) 2 5 (σ 2 5)) 2 6 (σ 2 6)) 2 7 (σ 2 7)) 2 8 (σ 2 8)) 2 9 (σ 2 9))))) C fp_RX1_46 (35 + E.2.2.1 + 1) (gY rfl) rfl rfl (Nat.le_of_ble_eq_true rfl) (pYr rfl) dX1_copyFrom_77 ?_
  refine v_aload_n C 0 rfl dX1_copyFrom_80 ?_
  refine v_aload_n C 1 rfl dX1_copyFrom_81 ?_
  refine v_get (v := .int (σ 2 10)) C fl_RX1_49 2 g_2 rfl dX1_copyFrom_82 ?_
  refine v_put (ws' := (Wd G E σ μ (YS G F (s2 (s2 (s2 (s2 (s2 (s2 (s2 (s2 (s2 (s2 (s2 τ 2 0 (σ 2 0)) 2 1 (σ 2 1)) 2 2 (σ 2 2)) 2 3 (σ 2 3)) 2 4 (σ 2 4)) 2 5 (σ 2 5)) 2 6 (σ 2 6)) 2 7 (σ 2 7)) 2 8 (σ 2 8)) 2 9 (σ 2 9)) 2 10 (σ 2 10))))) C fp_RX1_49 (35 + E.2.2.1 + 1) (gY rfl) rfl rfl (Nat.le_of_ble_eq_true rfl) (pYr rfl) dX1_copyFrom_85 ?_
  refine v_aload_n C 1 rfl dX1_copyFrom_88 ?_
  refine v_get (v := .ref (E.1 3)) C fl_RX1_21 2 g_2 rfl dX1_copyFrom_89 ?_
  refine v_aload_n C 0 rfl dX1_copyFrom_92 ?_
  refine v_get (v := .ref (F.1 3)) C fl_RX1_21 (35 + E.2.2.1 + 1) (gY rfl) rfl dX1_copyFrom_93 ?_
  refine v_cN0 (rest := []) C mn_RX1_52 w_361 (m_cpS_3 l G E F σ μ (s2 (s2 (s2 (s2 (s2 (s2 (s2 (s2 (s2 (s2 (s2 τ 2 0 (σ 2 0)) 2 1 (σ 2 1)) 2 2 (σ 2 2)) 2 3 (σ 2 3)) 2 4 (σ 2 4)) 2 5 (σ 2 5)) 2 6 (σ 2 6)) 2 7 (σ 2 7)) 2 8 (σ 2 8)) 2 9 (σ 2 9)) 2 10 (σ 2 10))) rfl rfl (Nat.le_of_ble_eq_true rfl) ⟨(Nat.le_of_ble_eq_true rfl), (Nat.le_of_ble_eq_true rfl)⟩ ⟨rfl, rfl⟩ ⟨Nat.zero_le _, Nat.zero_le _⟩ dX1_copyFrom_96 ?_
  refine v_aload_n C 1 rfl dX1_copyFrom_99 ?_
  refine v_get (v := .ref (E.1 4)) C fl_RX1_25 2 g_2 rfl dX1_copyFrom_100 ?_
  refine v_aload_n C 0 rfl dX1_copyFrom_103 ?_
  refine v_get (v := .ref (F.1 4)) C fl_RX1_25 (35 + E.2.2.1 + 1) (gY rfl) rfl dX1_copyFrom_104 ?_
  refine v_cN0 (rest := []) C mn_RX1_52 w_361 (m_cpS_4 l G E F σ μ (sC (s2 (s2 (s2 (s2 (s2 (s2 (s2 (s2 (s2 (s2 (s2 τ 2 0 (σ 2 0)) 2 1 (σ 2 1)) 2 2 (σ 2 2)) 2 3 (σ 2 3)) 2 4 (σ 2 4)) 2 5 (σ 2 5)) 2 6 (σ 2 6)) 2 7 (σ 2 7)) 2 8 (σ 2 8)) 2 9 (σ 2 9)) 2 10 (σ 2 10)) 3 (va_cpy (σ 3) ((s2 (s2 (s2 (s2 (s2 (s2 (s2 (s2 (s2 (s2 (s2 τ 2 0 (σ 2 0)) 2 1 (σ 2 1)) 2 2 (σ 2 2)) 2 3 (σ 2 3)) 2 4 (σ 2 4)) 2 5 (σ 2 5)) 2 6 (σ 2 6)) 2 7 (σ 2 7)) 2 8 (σ 2 8)) 2 9 (σ 2 9)) 2 10 (σ 2 10)) 3) 0 0 4))) rfl rfl (Nat.le_of_ble_eq_true rfl) ⟨(Nat.le_of_ble_eq_true rfl), (Nat.le_of_ble_eq_true rfl)⟩ ⟨rfl, rfl⟩ ⟨Nat.zero_le _, Nat.zero_le _⟩ dX1_copyFrom_107 ?_
  exact v_Q hQ (v_vret C () trivial rfl rfl (Nat.zero_le _) (Nat.zero_le _) dX1_copyFrom_110)
def F_X7_copyFromS (σ τ : Sg) : Sg := (s2 (s2 (s2 (s2 τ 7 0 (σ 7 0)) 7 1 (σ 7 1)) 7 2 (σ 7 2)) 7 3 (σ 7 3))
abbrev rm_X7_copyFromS : Room := { frames := 0, cells := 0, slots := 0, locals := 0 }
set_option maxRecDepth 100000 in
set_option maxHeartbeats 1000000 in
theorem m_X7_copyFromS (l : Launch) (G : GG) (E F : EE) (σ μ τ : Sg) (hb : σ 7 1 = 0 ∨ σ 7 1 = 1) : KK l G yX7_copyFrom cX7_copyFrom 2 none rm_X7_copyFromS [.ref (F.1 7), .ref (E.1 7)] (Wd G E σ μ (YS G F τ)) none (Wd G E σ μ (YS G F (F_X7_copyFromS σ τ))) := by
  refine KE.of (by decide) (Nat.le_of_ble_eq_true rfl) ?_
  intro zp ze zs zm za zb zt zc zA C _
  generalize hQ : MQ zb _ za zs _ _ zA = Q
  show V zp l ze rm_X7_copyFromS zs zm za zb zt zc 2 G zA 0 0 Q 0 [(0, .ref (F.1 7)), (1, .ref (E.1 7))] [] (Wd G E σ μ (YS G F τ))
  refine v_aload_n C 0 rfl dX7_copyFrom_0 ?_
  refine v_aload_n C 1 rfl dX7_copyFrom_1 ?_
  refine v_get (v := .int (σ 7 0)) C fl_RX7_22 7 g_7 rfl dX7_copyFrom_2 ?_
  refine v_put (ws' := (Wd G E σ μ (YS G F (s2 τ 7 0 (σ 7 0))))) C fp_RX7_22 (35 + E.2.2.1 + 6) (gY rfl) rfl rfl (Nat.le_of_ble_eq_true rfl) (pYr rfl) dX7_copyFrom_5 ?_
  refine v_aload_n C 0 rfl dX7_copyFrom_8 ?_
  refine v_aload_n C 1 rfl dX7_copyFrom_9 ?_
  refine v_get (v := .int (σ 7 1)) C fl_RX7_9 7 g_7 rfl dX7_copyFrom_10 ?_
  refine v_put (ws' := (Wd G E σ μ (YS G F (s2 (s2 τ 7 0 (σ 7 0)) 7 1 (σ 7 1))))) C fp_RX7_9 (35 + E.2.2.1 + 6) (gY rfl) (nbz hb) (fbz hb) (Nat.le_of_ble_eq_true rfl) (pYr rfl) dX7_copyFrom_13 ?_
  refine v_aload_n C 0 rfl dX7_copyFrom_16 ?_
  refine v_aload_n C 1 rfl dX7_copyFrom_17 ?_
  refine v_get (v := .int (σ 7 2)) C fl_RX7_15 7 g_7 rfl dX7_copyFrom_18 ?_
  refine v_put (ws' := (Wd G E σ μ (YS G F (s2 (s2 (s2 τ 7 0 (σ 7 0)) 7 1 (σ 7 1)) 7 2 (σ 7 2))))) C fp_RX7_15 (35 + E.2.2.1 + 6) (gY rfl) rfl rfl (Nat.le_of_ble_eq_true rfl) (pYr rfl) dX7_copyFrom_21 ?_
  refine v_aload_n C 0 rfl dX7_copyFrom_24 ?_
  refine v_aload_n C 1 rfl dX7_copyFrom_25 ?_
  refine v_get (v := .int (σ 7 3)) C fl_RX7_19 7 g_7 rfl dX7_copyFrom_26 ?_
  refine v_put (ws' := (Wd G E σ μ (YS G F (s2 (s2 (s2 (s2 τ 7 0 (σ 7 0)) 7 1 (σ 7 1)) 7 2 (σ 7 2)) 7 3 (σ 7 3))))) C fp_RX7_19 (35 + E.2.2.1 + 6) (gY rfl) rfl rfl (Nat.le_of_ble_eq_true rfl) (pYr rfl) dX7_copyFrom_29 ?_
  exact v_Q hQ (v_vret C () trivial rfl rfl (Nat.zero_le _) (Nat.zero_le _) dX7_copyFrom_32)
def F_X0_copyFromS (σ τ : Sg) : Sg := (sC (s2 (s2 τ 8 0 (σ 8 0)) 8 1 (σ 8 1)) 9 (va_cpy (σ 9) ((s2 (s2 τ 8 0 (σ 8 0)) 8 1 (σ 8 1)) 9) 0 0 8))
abbrev rm_X0_copyFromS : Room := { frames := 2, cells := 0, slots := 0, locals := 100 }
set_option maxRecDepth 100000 in
set_option maxHeartbeats 1000000 in
theorem m_X0_copyFromS (l : Launch) (G : GG) (E F : EE) (σ μ τ : Sg) (hb : σ 8 0 = 0 ∨ σ 8 0 = 1) : KK l G yX0_copyFrom cX0_copyFrom 2 none rm_X0_copyFromS [.ref (F.1 8), .ref (E.1 8)] (Wd G E σ μ (YS G F τ)) none (Wd G E σ μ (YS G F (F_X0_copyFromS σ τ))) := by
  refine KE.of (by decide) (Nat.le_of_ble_eq_true rfl) ?_
  intro zp ze zs zm za zb zt zc zA C _
  generalize hQ : MQ zb _ za zs _ _ zA = Q
  show V zp l ze rm_X0_copyFromS zs zm za zb zt zc 2 G zA 0 0 Q 0 [(0, .ref (F.1 8)), (1, .ref (E.1 8))] [] (Wd G E σ μ (YS G F τ))
  refine v_aload_n C 0 rfl dX0_copyFrom_0 ?_
  refine v_aload_n C 1 rfl dX0_copyFrom_1 ?_
  refine v_get (v := .int (σ 8 0)) C fl_RX0_15 8 g_8 rfl dX0_copyFrom_2 ?_
  refine v_put (ws' := (Wd G E σ μ (YS G F (s2 τ 8 0 (σ 8 0))))) C fp_RX0_15 (35 + E.2.2.1 + 7) (gY rfl) (nbz hb) (fbz hb) (Nat.le_of_ble_eq_true rfl) (pYr rfl) dX0_copyFrom_5 ?_
  refine v_aload_n C 0 rfl dX0_copyFrom_8 ?_
  refine v_aload_n C 1 rfl dX0_copyFrom_9 ?_
  refine v_get (v := .int (σ 8 1)) C fl_RX0_19 8 g_8 rfl dX0_copyFrom_10 ?_
  refine v_put (ws' := (Wd G E σ μ (YS G F (s2 (s2 τ 8 0 (σ 8 0)) 8 1 (σ 8 1))))) C fp_RX0_19 (35 + E.2.2.1 + 7) (gY rfl) rfl rfl (Nat.le_of_ble_eq_true rfl) (pYr rfl) dX0_copyFrom_13 ?_
  refine v_aload_n C 1 rfl dX0_copyFrom_16 ?_
  refine v_get (v := .ref (E.1 9)) C fl_RX0_9 8 g_8 rfl dX0_copyFrom_17 ?_
  refine v_aload_n C 0 rfl dX0_copyFrom_20 ?_
  refine v_get (v := .ref (F.1 9)) C fl_RX0_9 (35 + E.2.2.1 + 7) (gY rfl) rfl dX0_copyFrom_21 ?_
  refine v_cN0 (rest := []) C mn_RX0_23 w_361 (m_cpS_9 l G E F σ μ (s2 (s2 τ 8 0 (σ 8 0)) 8 1 (σ 8 1))) rfl rfl (Nat.le_of_ble_eq_true rfl) ⟨(Nat.le_of_ble_eq_true rfl), (Nat.le_of_ble_eq_true rfl)⟩ ⟨rfl, rfl⟩ ⟨Nat.zero_le _, Nat.zero_le _⟩ dX0_copyFrom_24 ?_
  exact v_Q hQ (v_vret C () trivial rfl rfl (Nat.zero_le _) (Nat.zero_le _) dX0_copyFrom_27)
