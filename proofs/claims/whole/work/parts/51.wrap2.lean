theorem xr_submit (σ : Sg) (cn : Nat) (ki : Int32) (bk : Int32) (al : Int32) : X_X9_submit σ cn ki bk al = 0 ∨ X_X9_submit σ cn ki bk al = 1 ∨ X_X9_submit σ cn ki bk al = 3 ∨ X_X9_submit σ cn ki bk al = 2 := by
  unfold X_X9_submit
  (repeat' split) <;> first | decide | (rcases xr_requireBlock _ with h | h <;> rw [h] <;> decide) | (rcases xr_requireFewPending _ with h | h <;> rw [h] <;> decide) | (rcases xr_requireTimeToAccess _ with h | h <;> rw [h] <;> decide)
abbrev rm_L_submit : Room := { frames := 8, cells := 3, slots := 18, locals := 202 }
set_option maxRecDepth 100000 in
set_option maxHeartbeats 1000000 in
theorem m_L_submit (l : Launch) (G : GG) (E : EE) (σ μ : Sg) (Y : va_W) (htr : l.stackTraces = false) (cn : Nat) (ki : Int32) (bk : Int32) (al : Int32) (hc : σ 5 0 = nI cn) (h80 : cn ≤ 80) (hjK : cn ≤ E.2.2.1) : KH (S := (Nat → Nat) × Nat) l G yL_submit cL_submit 6 (some .int) [(0, 12, 15, 13), (0, 12, 19, 36), (0, 12, 23, 30)] rm_L_submit [.ref (E.1 0), .int ki, .int bk, .int al, .ref (E.1 33)] (Wd G E σ μ Y) (fun _ => some (.int (hcd [1, 3, 2] (X_X9_submit σ cn ki bk al)))) (fun p => Wd G (EO (EK E p.1 p.2) (if X_X9_submit σ cn ki bk al = 0 then ((F_X9_submit σ cn ki bk al).1).toInt64 else E.2.2.2.2.1)) (F_X9_submit σ cn ki bk al).2 μ Y) (fun p => E.2.2.1 ≤ p.2 ∧ (X_X9_submit σ cn ki bk al = 0 → cn + 1 ≤ p.2)) := by
  refine KH.of (by decide) (Nat.le_of_ble_eq_true rfl) ?_
  intro zp ze zs zm za zb zt zc zA C htab
  generalize hQ : MQ zb _ za zs _ _ zA = Q
  show V zp l ze rm_L_submit zs zm za zb zt zc 6 G zA 0 0 Q 0 [(0, .ref (E.1 0)), (1, .int ki), (2, .int bk), (3, .int al), (4, .ref (E.1 33))] [] (Wd G E σ μ Y)
  refine v_aload C 4 rfl dL_submit_0 ?_
  refine v_iconst (v := (0 : Int32)) C (by decide) dL_submit_2 ?_
  refine v_aload_n C 0 rfl dL_submit_3 ?_
  refine v_iload_n C 1 rfl dL_submit_4 ?_
  refine v_iload_n C 2 rfl dL_submit_5 ?_
  refine v_iload_n C 3 rfl dL_submit_6 ?_
  refine v_callVC (rest := [.int (0 : Int32), .ref (E.1 33)]) C htab mv_RL_64 (m_X9_submit l G E σ μ Y htr cn ki bk al hc h80 hjK) 0 g_0 rfl rfl rfl rfl (Nat.le_of_ble_eq_true rfl) ⟨(Nat.le_of_ble_eq_true rfl), (Nat.le_of_ble_eq_true rfl)⟩ ⟨(Nat.le_of_ble_eq_true rfl), (Nat.le_of_ble_eq_true rfl)⟩ dL_submit_7 (fun Ex hE => ?_) (fun u hu => ?_)
  · obtain ⟨hEx, hne⟩ := hE
    rcases xr_submit σ cn ki bk al with h | h | h | h
    · exact absurd h hne
    · rw [hEx, h]
      refine ⟨15, ⟨tableOf [], _, tableOf [(0, 12, 19, 36), (0, 12, 23, 30)], rfl, (fun z hz => absurd hz List.not_mem_nil), by decide, by decide, w_433, List.mem_of_getElem? (i := 0) rfl, rfl⟩, fun q => ?_⟩
      refine v_astore (lv' := [(5, .ref q), (0, .ref (E.1 0)), (1, .int ki), (2, .int bk), (3, .int al), (4, .ref (E.1 33))]) C (Nat.le_of_ble_eq_true rfl) rfl dL_submit_15 ?_
      refine v_iconst (v := (1 : Int32)) C (by decide) dL_submit_17 ?_
      exact v_Q hQ (v_iret C (E.2.1, E.2.2.1) ⟨Nat.le_refl _, fun h0 => absurd h0 hne⟩ (by rw [h]; rfl) (congrArg (fun x => Wd G (EO (EK E E.2.1 E.2.2.1) x) (F_X9_submit σ cn ki bk al).2 μ Y) (if_neg hne).symm) (Nat.le_of_ble_eq_true rfl) (Nat.le_of_ble_eq_true rfl) dL_submit_18)
    · rw [hEx, h]
      refine ⟨19, ⟨tableOf [(0, 12, 15, 13)], _, tableOf [(0, 12, 23, 30)], rfl, (fun z hz => by cases List.mem_singleton.mp hz; exact ⟨by decide, _, w_433, List.mem_of_getElem? (i := 4) rfl⟩), by decide, by decide, w_562, List.mem_of_getElem? (i := 2) rfl, rfl⟩, fun q => ?_⟩
      refine v_astore (lv' := [(5, .ref q), (0, .ref (E.1 0)), (1, .int ki), (2, .int bk), (3, .int al), (4, .ref (E.1 33))]) C (Nat.le_of_ble_eq_true rfl) rfl dL_submit_19 ?_
      refine v_iconst (v := (2 : Int32)) C (by decide) dL_submit_21 ?_
      exact v_Q hQ (v_iret C (E.2.1, E.2.2.1) ⟨Nat.le_refl _, fun h0 => absurd h0 hne⟩ (by rw [h]; rfl) (congrArg (fun x => Wd G (EO (EK E E.2.1 E.2.2.1) x) (F_X9_submit σ cn ki bk al).2 μ Y) (if_neg hne).symm) (Nat.le_of_ble_eq_true rfl) (Nat.le_of_ble_eq_true rfl) dL_submit_22)
    · rw [hEx, h]
      refine ⟨23, ⟨tableOf [(0, 12, 15, 13), (0, 12, 19, 36)], _, tableOf [], rfl, (fun z hz => by rcases List.mem_cons.mp hz with rfl | hz; exact ⟨by decide, _, w_433, List.mem_of_getElem? (i := 3) rfl⟩; cases List.mem_singleton.mp hz; exact ⟨by decide, _, w_562, List.mem_of_getElem? (i := 0) rfl⟩), by decide, by decide, w_538, List.mem_of_getElem? (i := 1) rfl, rfl⟩, fun q => ?_⟩
      refine v_astore (lv' := [(5, .ref q), (0, .ref (E.1 0)), (1, .int ki), (2, .int bk), (3, .int al), (4, .ref (E.1 33))]) C (Nat.le_of_ble_eq_true rfl) rfl dL_submit_23 ?_
      refine v_iconst (v := (3 : Int32)) C (by decide) dL_submit_25 ?_
      exact v_Q hQ (v_iret C (E.2.1, E.2.2.1) ⟨Nat.le_refl _, fun h0 => absurd h0 hne⟩ (by rw [h]; rfl) (congrArg (fun x => Wd G (EO (EK E E.2.1 E.2.2.1) x) (F_X9_submit σ cn ki bk al).2 μ Y) (if_neg hne).symm) (Nat.le_of_ble_eq_true rfl) (Nat.le_of_ble_eq_true rfl) dL_submit_26)
  · refine v_i2l C dL_submit_10 ?_
    refine v_out C dL_submit_11 ?_
    refine v_goto (tgt := 27) C (by decide) dL_submit_12 ?_
    refine v_iconst (v := (0 : Int32)) C (by decide) dL_submit_27 ?_
    exact v_Q hQ (v_iret C (u, max E.2.2.1 (cn + 1)) ⟨Nat.le_max_left _ _, fun _ => Nat.le_max_right _ _⟩ (by rw [hu.2]; rfl) (congrArg (fun x => Wd G (EO (EK E u (max E.2.2.1 (cn + 1))) x) (F_X9_submit σ cn ki bk al).2 μ Y) (if_pos hu.2).symm) (Nat.le_of_ble_eq_true rfl) (Nat.le_of_ble_eq_true rfl) dL_submit_28)
theorem xr_submitText (σ : Sg) : X_X9_submitText σ = 0 ∨ X_X9_submitText σ = 1 := by
  unfold X_X9_submitText
  simp only []
  (repeat' split) <;> first | decide | (rcases xr_requireBlock _ with h | h <;> rw [h] <;> decide) | (rcases xr_requireFewPending _ with h | h <;> rw [h] <;> decide) | (rcases xr_requireTimeToAccess _ with h | h <;> rw [h] <;> decide)
abbrev rm_L_submitText : Room := { frames := 7, cells := 16, slots := 96, locals := 201 }
set_option maxRecDepth 100000 in
set_option maxHeartbeats 1000000 in
theorem m_L_submitText (l : Launch) (G : GG) (E : EE) (σ μ : Sg) (Y : va_W) (htr : l.stackTraces = false) (hK : CNT E σ) : KH (S := (Nat → Nat) × Nat) l G yL_submitText cL_submitText 3 (some .int) [(0, 8, 11, 13)] rm_L_submitText [.ref (E.1 0), .ref (E.1 33)] (Wd G E σ μ Y) (fun _ => some (.int (hcd [1] (X_X9_submitText σ)))) (fun p => Wd G (EO (EK E p.1 p.2) (if X_X9_submitText σ = 0 then ((F_X9_submitText σ).1).toInt64 else E.2.2.2.2.1)) (F_X9_submitText σ).2 μ Y) (fun p => E.2.2.1 ≤ p.2 ∧ (X_X9_submitText σ = 0 → ∃ n : Nat, n ≤ 80 ∧ n ≤ p.2 ∧ (F_X9_submitText σ).2 5 0 = nI n)) := by
  refine KH.of (by decide) (Nat.le_of_ble_eq_true rfl) ?_
  intro zp ze zs zm za zb zt zc zA C htab
  generalize hQ : MQ zb _ za zs _ _ zA = Q
  show V zp l ze rm_L_submitText zs zm za zb zt zc 3 G zA 0 0 Q 0 [(0, .ref (E.1 0)), (1, .ref (E.1 33))] [] (Wd G E σ μ Y)
  refine v_aload_n C 1 rfl dL_submitText_0 ?_
  refine v_iconst (v := (0 : Int32)) C (by decide) dL_submitText_1 ?_
  refine v_aload_n C 0 rfl dL_submitText_2 ?_
  refine v_callVC (rest := [.int (0 : Int32), .ref (E.1 33)]) C htab mv_RL_71 (m_X9_submitText l G E σ μ Y htr hK) 0 g_0 rfl rfl rfl rfl (Nat.le_of_ble_eq_true rfl) ⟨(Nat.le_of_ble_eq_true rfl), (Nat.le_of_ble_eq_true rfl)⟩ ⟨(Nat.le_of_ble_eq_true rfl), (Nat.le_of_ble_eq_true rfl)⟩ dL_submitText_3 (fun Ex hE => ?_) (fun p0 hp => ?_)
  · obtain ⟨hEx, hne⟩ := hE
    rcases xr_submitText σ with h | h
    · exact absurd h hne
    · rw [hEx, h]
      refine ⟨11, ⟨tableOf [], _, tableOf [], rfl, (fun z hz => absurd hz List.not_mem_nil), by decide, by decide, w_433, List.mem_of_getElem? (i := 0) rfl, rfl⟩, fun q => ?_⟩
      refine v_astore_n (lv' := [(2, .ref q), (0, .ref (E.1 0)), (1, .ref (E.1 33))]) C (Nat.le_of_ble_eq_true rfl) rfl dL_submitText_11 ?_
      refine v_iconst (v := (1 : Int32)) C (by decide) dL_submitText_12 ?_
      exact v_Q hQ (v_iret C (E.2.1, E.2.2.1) ⟨Nat.le_refl _, fun h0 => absurd h0 hne⟩ (by rw [h]; rfl) (congrArg (fun x => Wd G (EO (EK E E.2.1 E.2.2.1) x) (F_X9_submitText σ).2 μ Y) (if_neg hne).symm) (Nat.le_of_ble_eq_true rfl) (Nat.le_of_ble_eq_true rfl) dL_submitText_13)
  · refine v_i2l C dL_submitText_6 ?_
    refine v_out C dL_submitText_7 ?_
    refine v_goto (tgt := 14) C (by decide) dL_submitText_8 ?_
    refine v_iconst (v := (0 : Int32)) C (by decide) dL_submitText_14 ?_
    exact v_Q hQ (v_iret C p0 ⟨hp.1.2, fun _ => hp.1.1⟩ (by rw [hp.2]; rfl) (congrArg (fun x => Wd G (EO (EK E p0.1 p0.2) x) (F_X9_submitText σ).2 μ Y) (if_pos hp.2).symm) (Nat.le_of_ble_eq_true rfl) (Nat.le_of_ble_eq_true rfl) dL_submitText_15)
abbrev rm_L_restoreN : Room := { frames := 12, cells := 82, slots := 492, locals := 340 }
set_option maxRecDepth 100000 in
theorem m_L_restoreN (l : Launch) (G : GG) (E : EE) (σ μ : Sg) (Y : va_W) (htr : l.stackTraces = false) (hsv : E.2.2.2.1 = none) : KH (S := Unit) l G yL_restore cL_restore 3 (some .int) [(0, 8, 11, 30)] rm_L_restoreN [.ref (E.1 0), .ref (E.1 33)] (Wd G E σ μ Y) (fun _ => some (.int 1)) (fun _ => Wd G E σ μ Y) (fun _ => True) := by
  refine KH.of (by decide) (Nat.le_of_ble_eq_true rfl) ?_
  intro zp ze zs zm za zb zt zc zA C htab
  generalize hQ : MQ zb _ za zs _ _ zA = Q
  show V zp l ze rm_L_restoreN zs zm za zb zt zc 3 G zA 0 0 Q 0 [(0, .ref (E.1 0)), (1, .ref (E.1 33))] [] (Wd G E σ μ Y)
  refine v_aload_n C 1 rfl dL_restore_0 ?_
  refine v_iconst (v := (0 : Int32)) C (by decide) dL_restore_1 ?_
  refine v_aload_n C 0 rfl dL_restore_2 ?_
  refine v_callVC (rest := [.int (0 : Int32), .ref (E.1 33)]) C htab mv_RL_132 (m_restoreN l G E σ μ Y htr hsv) 0 g_0 rfl rfl rfl rfl (Nat.le_of_ble_eq_true rfl) ⟨(Nat.le_of_ble_eq_true rfl), (Nat.le_of_ble_eq_true rfl)⟩ ⟨(Nat.le_of_ble_eq_true rfl), (Nat.le_of_ble_eq_true rfl)⟩ dL_restore_3 (fun Ex hE => ?_) (fun p hp => ?_)
  · rw [hE]
    refine ⟨11, ⟨tableOf [], _, tableOf [], rfl, (fun z hz => absurd hz List.not_mem_nil), by decide, by decide, w_538, List.mem_of_getElem? (i := 1) rfl, rfl⟩, fun q => ?_⟩
    refine v_astore_n (lv' := [(2, .ref q), (0, .ref (E.1 0)), (1, .ref (E.1 33))]) C (Nat.le_of_ble_eq_true rfl) rfl dL_restore_11 ?_
    refine v_iconst (v := (1 : Int32)) C (by decide) dL_restore_12 ?_
    exact v_Q hQ (v_iret C () trivial rfl rfl (Nat.le_of_ble_eq_true rfl) (Nat.le_of_ble_eq_true rfl) dL_restore_13)
  · exact hp.elim
abbrev rm_L_restoreS : Room := { frames := 12, cells := 82, slots := 492, locals := 340 }
set_option maxRecDepth 100000 in
theorem m_L_restoreS (l : Launch) (G : GG) (E F : EE) (σ μ τ : Sg) (htr : l.stackTraces = false) (hsv : E.2.2.2.1 = some (F.1 1)) (hO : CNT F τ) (hb7 : τ 7 1 = 0 ∨ τ 7 1 = 1) (hb8 : τ 8 0 = 0 ∨ τ 8 0 = 1) : KH (S := (Nat → Nat) × Nat) l G yL_restore cL_restore 3 (some .int) [(0, 8, 11, 30)] rm_L_restoreS [.ref (E.1 0), .ref (E.1 33)] (Wd G E σ μ (YS G F τ)) (fun _ => some (.int 0)) (fun p => Wd G (EO (EK E p.1 p.2) (F_X8_copyFromR σ τ 2 4).toInt64) (F_X8_copyFromR σ τ) μ (YS G F τ)) (fun p => E.2.2.1 ≤ p.2 ∧ ∃ n : Nat, n ≤ 80 ∧ n ≤ p.2 ∧ τ 5 0 = nI n) := by
  refine KH.of (by decide) (Nat.le_of_ble_eq_true rfl) ?_
  intro zp ze zs zm za zb zt zc zA C htab
  generalize hQ : MQ zb _ za zs _ _ zA = Q
  show V zp l ze rm_L_restoreS zs zm za zb zt zc 3 G zA 0 0 Q 0 [(0, .ref (E.1 0)), (1, .ref (E.1 33))] [] (Wd G E σ μ (YS G F τ))
  refine v_aload_n C 1 rfl dL_restore_0 ?_
  refine v_iconst (v := (0 : Int32)) C (by decide) dL_restore_1 ?_
  refine v_aload_n C 0 rfl dL_restore_2 ?_
  refine v_callVC (rest := [.int (0 : Int32), .ref (E.1 33)]) C htab mv_RL_132 (m_restoreS l G E F σ μ τ htr hsv hO hb7 hb8) 0 g_0 rfl rfl rfl rfl (Nat.le_of_ble_eq_true rfl) ⟨(Nat.le_of_ble_eq_true rfl), (Nat.le_of_ble_eq_true rfl)⟩ ⟨(Nat.le_of_ble_eq_true rfl), (Nat.le_of_ble_eq_true rfl)⟩ dL_restore_3 (fun Ex hE => ?_) (fun p hp => ?_)
  · exact hE.elim
  · refine v_i2l C dL_restore_6 ?_
    refine v_out C dL_restore_7 ?_
    refine v_goto (tgt := 14) C (by decide) dL_restore_8 ?_
    refine v_iconst (v := (0 : Int32)) C (by decide) dL_restore_14 ?_
    exact v_Q hQ (v_iret C p hp rfl rfl (Nat.le_of_ble_eq_true rfl) (Nat.le_of_ble_eq_true rfl) dL_restore_15)
