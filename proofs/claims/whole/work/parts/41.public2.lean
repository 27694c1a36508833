def F_X9_setWriteBack (σ : Sg) (on : Int32) : Int32 × Sg := (if on = 0 then (if (σ 8 1) ≤ 0 then (σ 8 0, (s2 σ 8 0 on)) else (0, σ)) else (σ 8 0, (s2 σ 8 0 on)))
def X_X9_setWriteBack (σ : Sg) (on : Int32) : Nat := (if on = 0 then (if (σ 8 1) ≤ 0 then 0 else 2) else 0)
abbrev rm_X9_setWriteBack : Room := { frames := 6, cells := 1, slots := 6, locals := 120 }
set_option maxRecDepth 100000 in
set_option maxHeartbeats 4000000 in
theorem m_X9_setWriteBack (l : Launch) (G : GG) (E : EE) (σ μ : Sg) (Y : va_W) (htr : l.stackTraces = false) (on : Int32) (ho : on = 0 ∨ on = 1) (hb : σ 8 0 = 0 ∨ σ 8 0 = 1) : KX (S := Unit) l G yX9_setWriteBack cX9_setWriteBack 3 (some .boolean) rm_X9_setWriteBack [.ref (E.1 0), .int on] (Wd G E σ μ Y) (fun _ => (some (.int (F_X9_setWriteBack σ on).1))) (fun _ => (Wd G E (F_X9_setWriteBack σ on).2 μ Y)) (fun _ => X_X9_setWriteBack σ on = 0) (Wd G E (F_X9_setWriteBack σ on).2 μ Y) (fun Ex => Ex = exn (X_X9_setWriteBack σ on) ∧ ¬ X_X9_setWriteBack σ on = 0) := by
  refine KX.of (by decide) (Nat.le_of_ble_eq_true rfl) ?_
  intro zp ze zs zm za zb zt zc zA C htab
  let Q := vx_MQ zb (QcW (S := Unit) G zA (fun _ => (some (.int (F_X9_setWriteBack σ on).1))) (fun _ => (Wd G E (F_X9_setWriteBack σ on).2 μ Y)) (fun _ => X_X9_setWriteBack σ on = 0)) (XcW G zA (Wd G E (F_X9_setWriteBack σ on).2 μ Y) (fun Ex => Ex = exn (X_X9_setWriteBack σ on) ∧ ¬ X_X9_setWriteBack σ on = 0)) za zs rm_X9_setWriteBack.cells rm_X9_setWriteBack.slots zA
  show V zp l ze rm_X9_setWriteBack zs zm za zb zt zc 3 G zA 0 0 Q 0 [(0, .ref (E.1 0)), (1, .int on)] [] (Wd G E σ μ Y)
  refine v_iload_n C 1 rfl dX9_setWriteBack_0 ?_
  refine v_if_ne (tgt := 27) C (by decide) dX9_setWriteBack_1 (fun h1 => ?_) (fun h1 => ?_)
  · refine v_aload_n C 0 rfl dX9_setWriteBack_27 ?_
    refine v_get (v := .ref (E.1 1)) C fl_RX9_10 0 g_0 rfl dX9_setWriteBack_28 ?_
    refine v_get (v := .ref (E.1 8)) C fl_RX9_81 1 g_1 rfl dX9_setWriteBack_31 ?_
    refine v_get (v := .int (σ 8 0)) C fl_RX9_95 8 g_8 rfl dX9_setWriteBack_34 ?_
    refine v_istore_n (lv' := [(2, .int (σ 8 0)), (0, .ref (E.1 0)), (1, .int on)]) C (Nat.le_of_ble_eq_true rfl) rfl dX9_setWriteBack_37 ?_
    refine v_aload_n C 1 rfl dX9_setWriteBack_38 ?_
    refine v_get (v := .ref (E.1 1)) C fl_RX9_10 0 g_0 rfl dX9_setWriteBack_39 ?_
    refine v_get (v := .ref (E.1 8)) C fl_RX9_81 1 g_1 rfl dX9_setWriteBack_42 ?_
    refine v_iload_n C 2 rfl dX9_setWriteBack_45 ?_
    refine v_put C fp_RX9_95 8 g_8 (nbz ho) (fbz ho) (Nat.le_of_ble_eq_true rfl) (p_8_0 _) dX9_setWriteBack_46 ?_
    refine v_iload_n C 0 rfl dX9_setWriteBack_49 ?_
    have e1 : F_X9_setWriteBack σ on = (σ 8 0, (s2 σ 8 0 on)) := by rw [F_X9_setWriteBack, if_neg h1]
    have e2 : X_X9_setWriteBack σ on = 0 := by rw [X_X9_setWriteBack, if_neg h1]
    exact v_X (v_zret C (nbz hb) () e2 (by rw [e1]) (by rw [e1]) (Nat.le_of_ble_eq_true rfl) (Nat.le_of_ble_eq_true rfl) dX9_setWriteBack_50)
  · refine v_aload_n C 0 rfl dX9_setWriteBack_4 ?_
    refine v_get (v := .ref (E.1 1)) C fl_RX9_10 0 g_0 rfl dX9_setWriteBack_5 ?_
    refine v_get (v := .ref (E.1 8)) C fl_RX9_81 1 g_1 rfl dX9_setWriteBack_8 ?_
    refine v_get (v := .int (σ 8 1)) C fl_RX9_85 8 g_8 rfl dX9_setWriteBack_11 ?_
    refine v_if_le (tgt := 27) C (by decide) dX9_setWriteBack_14 (fun h2 => ?_) (fun h2 => ?_)
    · refine v_aload_n C 0 rfl dX9_setWriteBack_27 ?_
      refine v_get (v := .ref (E.1 1)) C fl_RX9_10 0 g_0 rfl dX9_setWriteBack_28 ?_
      refine v_get (v := .ref (E.1 8)) C fl_RX9_81 1 g_1 rfl dX9_setWriteBack_31 ?_
      refine v_get (v := .int (σ 8 0)) C fl_RX9_95 8 g_8 rfl dX9_setWriteBack_34 ?_
      refine v_istore_n (lv' := [(2, .int (σ 8 0)), (0, .ref (E.1 0)), (1, .int on)]) C (Nat.le_of_ble_eq_true rfl) rfl dX9_setWriteBack_37 ?_
      refine v_aload_n C 1 rfl dX9_setWriteBack_38 ?_
      refine v_get (v := .ref (E.1 1)) C fl_RX9_10 0 g_0 rfl dX9_setWriteBack_39 ?_
      refine v_get (v := .ref (E.1 8)) C fl_RX9_81 1 g_1 rfl dX9_setWriteBack_42 ?_
      refine v_iload_n C 2 rfl dX9_setWriteBack_45 ?_
      refine v_put C fp_RX9_95 8 g_8 (nbz ho) (fbz ho) (Nat.le_of_ble_eq_true rfl) (p_8_0 _) dX9_setWriteBack_46 ?_
      refine v_iload_n C 0 rfl dX9_setWriteBack_49 ?_
      have e1 : F_X9_setWriteBack σ on = (σ 8 0, (s2 σ 8 0 on)) := by rw [F_X9_setWriteBack, if_pos h1, if_pos h2]
      have e2 : X_X9_setWriteBack σ on = 0 := by rw [X_X9_setWriteBack, if_pos h1, if_pos h2]
      exact v_X (v_zret C (nbz hb) () e2 (by rw [e1]) (by rw [e1]) (Nat.le_of_ble_eq_true rfl) (Nat.le_of_ble_eq_true rfl) dX9_setWriteBack_50)
    · have e1 : F_X9_setWriteBack σ on = (0, σ) := by rw [F_X9_setWriteBack, if_pos h1, if_neg h2]
      have e2 : X_X9_setWriteBack σ on = 2 := by rw [X_X9_setWriteBack, if_pos h1, if_neg h2]
      exact v_throwS C htab htr tx_2 (List.mem_of_getElem? (i := 4) rfl) (by show _ = _ ∧ _; rw [e2]; exact ⟨rfl, by decide⟩) (by first | with_reducible rfl | rw [e1]) dX9_setWriteBack_17 dX9_setWriteBack_20 dX9_setWriteBack_21 dX9_setWriteBack_23 dX9_setWriteBack_26 ⟨Nat.le_of_ble_eq_true rfl, Nat.le_of_ble_eq_true rfl, Nat.le_of_ble_eq_true rfl, Nat.le_of_ble_eq_true rfl⟩ ⟨Nat.le_of_ble_eq_true rfl, Nat.le_of_ble_eq_true rfl⟩
def F_X9_isUpward (σ : Sg) : Int32 := σ 7 1
abbrev rm_X9_isUpward : Room := { frames := 0, cells := 0, slots := 0, locals := 0 }
set_option maxRecDepth 100000 in
set_option maxHeartbeats 4000000 in
theorem m_X9_isUpward (l : Launch) (G : GG) (E : EE) (σ μ : Sg) (Y : va_W) (hb : σ 7 1 = 0 ∨ σ 7 1 = 1) : KK l G yX9_isUpward cX9_isUpward 1 (some .boolean) rm_X9_isUpward [.ref (E.1 0)] (Wd G E σ μ Y) (some (.int (F_X9_isUpward σ))) (Wd G E σ μ Y) := by
  refine KE.of (by decide) (Nat.le_of_ble_eq_true rfl) ?_
  intro zp ze zs zm za zb zt zc zA C _
  generalize hQ : MQ zb _ za zs _ _ zA = Q
  show V zp l ze rm_X9_isUpward zs zm za zb zt zc 1 G zA 0 0 Q 0 [(0, .ref (E.1 0))] [] (Wd G E σ μ Y)
  refine v_aload_n C 0 rfl dX9_isUpward_0 ?_
  refine v_get (v := .ref (E.1 1)) C fl_RX9_10 0 g_0 rfl dX9_isUpward_1 ?_
  refine v_get (v := .ref (E.1 7)) C fl_RX9_64 1 g_1 rfl dX9_isUpward_4 ?_
  refine v_get (v := .int (σ 7 1)) C fl_RX9_152 7 g_7 rfl dX9_isUpward_7 ?_
  have e1 : F_X9_isUpward σ = σ 7 1 := by rw [F_X9_isUpward]
  exact v_Q hQ (v_zret C (nbz hb) () trivial (by rw [e1]) rfl (Nat.zero_le _) (Nat.zero_le _) dX9_isUpward_10)
def X_X9_requireRequest (σ : Sg) (n : Int32) : Nat := Option.elim (F_X6_find σ n) 3 (fun _ => 0)
abbrev rm_X9_requireRequest : Room := { frames := 8, cells := 1, slots := 6, locals := 140 }
set_option maxRecDepth 100000 in
set_option maxHeartbeats 1000000 in
theorem m_X9_requireRequest (l : Launch) (G : GG) (E : EE) (σ μ : Sg) (Y : va_W) (htr : l.stackTraces = false) (n : Int32) (hK : CNT E σ) : KX (S := Nat) l G yX9_requireRequest cX9_requireRequest 3 (some (.object "DiskArmSimulator$Request")) rm_X9_requireRequest [.ref (E.1 0), .int n] (Wd G E σ μ Y) (fun i => some (.ref (E.2.1 i))) (fun _ => Wd G E σ μ Y) (fun i => F_X6_find σ n = some i) (Wd G E σ μ Y) (fun Ex => Ex = exn 3 ∧ F_X6_find σ n = none) := by
  refine KX.of (by decide) (Nat.le_of_ble_eq_true rfl) ?_
  intro zp ze zs zm za zb zt zc zA C htab
  let Q := vx_MQ zb (QcW (S := Nat) G zA (fun i => some (.ref (E.2.1 i))) (fun _ => Wd G E σ μ Y) (fun i => F_X6_find σ n = some i)) (XcW G zA (Wd G E σ μ Y) (fun Ex => Ex = exn 3 ∧ F_X6_find σ n = none)) za zs rm_X9_requireRequest.cells rm_X9_requireRequest.slots zA
  show V zp l ze rm_X9_requireRequest zs zm za zb zt zc 3 G zA 0 0 Q 0 [(0, .ref (E.1 0)), (1, .int n)] [] (Wd G E σ μ Y)
  refine v_aload_n C 0 rfl dX9_requireRequest_0 ?_
  refine v_get (v := .ref (E.1 1)) C fl_RX9_10 0 g_0 rfl dX9_requireRequest_1 ?_
  refine v_get (v := .ref (E.1 5)) C fl_RX9_219 1 g_1 rfl dX9_requireRequest_4 ?_
  refine v_iload_n C 1 rfl dX9_requireRequest_7 ?_
  refine v_cVo (rest := []) C mv_RX9_337 (m_X6_find l G E σ μ Y n hK) 5 g_5 rfl rfl rfl rfl (Nat.le_of_ble_eq_true rfl) ⟨(Nat.le_of_ble_eq_true rfl), (Nat.le_of_ble_eq_true rfl)⟩ ⟨rfl, rfl⟩ ⟨(Nat.le_of_ble_eq_true rfl), (Nat.le_of_ble_eq_true rfl)⟩ dX9_requireRequest_8 (fun h1 => ?_) (fun i1 h1 => ?_)
  · refine v_astore_nN (lv' := [(2, .null), (0, .ref (E.1 0)), (1, .int n)]) C (Nat.le_of_ble_eq_true rfl) rfl dX9_requireRequest_11 ?_
    refine v_aload_nN C 0 rfl dX9_requireRequest_12 ?_
    refine v_ifnonnullN C dX9_requireRequest_13 ?_
    exact v_throwSW C htab htr tx_3 (List.mem_of_getElem? (i := 16) rfl) ⟨rfl, h1⟩ rfl dX9_requireRequest_16 dX9_requireRequest_19 dX9_requireRequest_20 dX9_requireRequest_23 dX9_requireRequest_26 ⟨(Nat.le_of_ble_eq_true rfl), (Nat.le_of_ble_eq_true rfl), (Nat.le_of_ble_eq_true rfl), (Nat.le_of_ble_eq_true rfl)⟩ ⟨(Nat.le_of_ble_eq_true rfl), (Nat.le_of_ble_eq_true rfl)⟩
  · refine v_astore_n (lv' := [(2, .ref (E.2.1 i1)), (0, .ref (E.1 0)), (1, .int n)]) C (Nat.le_of_ble_eq_true rfl) rfl dX9_requireRequest_11 ?_
    refine v_aload_n C 0 rfl dX9_requireRequest_12 ?_
    refine v_ifnonnull (tgt := 27) C (by decide) dX9_requireRequest_13 ?_
    refine v_aload_n C 0 rfl dX9_requireRequest_27 ?_
    exact v_X (v_aret C (Or.inr ⟨_, rfl⟩) i1 h1 rfl rfl (Nat.le_of_ble_eq_true rfl) (Nat.le_of_ble_eq_true rfl) dX9_requireRequest_28)
def F_X9_cancel (σ : Sg) (n : Int32) : Sg := (Option.elim (F_X6_find σ n) (σ) (fun i1 => (if (σ 44 i1) = 0 then (F_X6_cancelPending σ i1) else σ)))
def X_X9_cancel (σ : Sg) (n : Int32) : Nat := (Option.elim (F_X6_find σ n) (3) (fun i1 => (if (σ 44 i1) = 0 then 0 else 2)))
abbrev rm_X9_cancel : Room := { frames := 9, cells := 2, slots := 12, locals := 162 }
set_option maxRecDepth 100000 in
set_option maxHeartbeats 4000000 in
theorem m_X9_cancel (l : Launch) (G : GG) (E : EE) (σ μ : Sg) (Y : va_W) (htr : l.stackTraces = false) (n : Int32) (hK : CNT E σ) : KX (S := Unit) l G yX9_cancel cX9_cancel 3 none rm_X9_cancel [.ref (E.1 0), .int n] (Wd G E σ μ Y) (fun _ => none) (fun _ => (Wd G E (F_X9_cancel σ n) μ Y)) (fun _ => X_X9_cancel σ n = 0) (Wd G E (F_X9_cancel σ n) μ Y) (fun Ex => Ex = exn (X_X9_cancel σ n) ∧ ¬ X_X9_cancel σ n = 0) := by
  refine KX.of (by decide) (Nat.le_of_ble_eq_true rfl) ?_
  intro zp ze zs zm za zb zt zc zA C htab
  let Q := vx_MQ zb (QcW (S := Unit) G zA (fun _ => none) (fun _ => (Wd G E (F_X9_cancel σ n) μ Y)) (fun _ => X_X9_cancel σ n = 0)) (XcW G zA (Wd G E (F_X9_cancel σ n) μ Y) (fun Ex => Ex = exn (X_X9_cancel σ n) ∧ ¬ X_X9_cancel σ n = 0)) za zs rm_X9_cancel.cells rm_X9_cancel.slots zA
  show V zp l ze rm_X9_cancel zs zm za zb zt zc 3 G zA 0 0 Q 0 [(0, .ref (E.1 0)), (1, .int n)] [] (Wd G E σ μ Y)
  refine v_aload_n C 0 rfl dX9_cancel_0 ?_
  refine v_iload_n C 1 rfl dX9_cancel_1 ?_
  refine v_callVX (rest := []) C htab mv_RX9_208 (m_X9_requireRequest l G E σ μ Y htr n (by assumption)) (fun Ex hE => ?_) 0 g_0 rfl rfl rfl rfl (Nat.le_of_ble_eq_true rfl) ⟨Nat.le_of_ble_eq_true rfl, Nat.le_of_ble_eq_true rfl⟩ ⟨Nat.le_of_ble_eq_true rfl, Nat.le_of_ble_eq_true rfl⟩ ⟨Nat.le_of_ble_eq_true rfl, Nat.le_of_ble_eq_true rfl⟩ dX9_cancel_2 (fun i1 h1 => ?_)
  · have e1 : F_X9_cancel σ n = σ := by rw [F_X9_cancel, oel_none (hE.2)]
    have e2 : X_X9_cancel σ n = 3 := by rw [X_X9_cancel, oel_none (hE.2)]
    exact ⟨(by show _ = _ ∧ _; rw [e2]; exact ⟨hE.1, by decide⟩), (by first | with_reducible rfl | rw [e1])⟩
  · have hl0 := (find_some hK h1).1
    refine v_astore_n (lv' := [(2, .ref (E.2.1 i1)), (0, .ref (E.1 0)), (1, .int n)]) C (Nat.le_of_ble_eq_true rfl) rfl dX9_cancel_5 ?_
    refine v_aload_n C 0 rfl dX9_cancel_6 ?_
    refine v_get (v := .int (σ 44 i1)) C fl_RX9_212 (35 + i1) (g_row (by assumption)) rfl dX9_cancel_7 ?_
    refine v_if_eq (tgt := 23) C (by decide) dX9_cancel_10 (fun h2 => ?_) (fun h2 => ?_)
    · refine v_aload_n C 1 rfl dX9_cancel_23 ?_
      refine v_get (v := .ref (E.1 1)) C fl_RX9_10 0 g_0 rfl dX9_cancel_24 ?_
      refine v_get (v := .ref (E.1 5)) C fl_RX9_219 1 g_1 rfl dX9_cancel_27 ?_
      refine v_aload_n C 0 rfl dX9_cancel_30 ?_
      refine v_cV0 (rest := []) C mv_RX9_223 (m_X6_cancelPending l G E σ μ Y i1 (by assumption)) 5 g_5 rfl rfl rfl rfl (Nat.le_of_ble_eq_true rfl) ⟨Nat.le_of_ble_eq_true rfl, Nat.le_of_ble_eq_true rfl⟩ ⟨rfl, rfl⟩ ⟨Nat.le_of_ble_eq_true rfl, Nat.le_of_ble_eq_true rfl⟩ dX9_cancel_31 ?_
      have e1 : F_X9_cancel σ n = (F_X6_cancelPending σ i1) := by rw [F_X9_cancel, oel_some h1, if_pos h2]
      have e2 : X_X9_cancel σ n = 0 := by rw [X_X9_cancel, oel_some h1, if_pos h2]
      exact v_X (v_vret C () e2 rfl (by rw [e1]) (Nat.le_of_ble_eq_true rfl) (Nat.le_of_ble_eq_true rfl) dX9_cancel_34)
    · have e1 : F_X9_cancel σ n = σ := by rw [F_X9_cancel, oel_some h1, if_neg h2]
      have e2 : X_X9_cancel σ n = 2 := by rw [X_X9_cancel, oel_some h1, if_neg h2]
      exact v_throwS C htab htr tx_2 (List.mem_of_getElem? (i := 17) rfl) (by show _ = _ ∧ _; rw [e2]; exact ⟨rfl, by decide⟩) (by first | with_reducible rfl | rw [e1]) dX9_cancel_13 dX9_cancel_16 dX9_cancel_17 dX9_cancel_19 dX9_cancel_22 ⟨Nat.le_of_ble_eq_true rfl, Nat.le_of_ble_eq_true rfl, Nat.le_of_ble_eq_true rfl, Nat.le_of_ble_eq_true rfl⟩ ⟨Nat.le_of_ble_eq_true rfl, Nat.le_of_ble_eq_true rfl⟩
def F_X9_state (σ : Sg) (n : Int32) : Int32 := (Option.elim (F_X6_find σ n) (0) (fun i1 => σ 44 i1))
def X_X9_state (σ : Sg) (n : Int32) : Nat := (Option.elim (F_X6_find σ n) (3) (fun i1 => 0))
abbrev rm_X9_state : Room := { frames := 9, cells := 2, slots := 12, locals := 162 }
set_option maxRecDepth 100000 in
set_option maxHeartbeats 4000000 in
theorem m_X9_state (l : Launch) (G : GG) (E : EE) (σ μ : Sg) (Y : va_W) (htr : l.stackTraces = false) (n : Int32) (hK : CNT E σ) : KX (S := Unit) l G yX9_state cX9_state 2 (some .int) rm_X9_state [.ref (E.1 0), .int n] (Wd G E σ μ Y) (fun _ => (some (.int (F_X9_state σ n)))) (fun _ => (Wd G E σ μ Y)) (fun _ => X_X9_state σ n = 0) (Wd G E σ μ Y) (fun Ex => Ex = exn (X_X9_state σ n) ∧ ¬ X_X9_state σ n = 0) := by
  refine KX.of (by decide) (Nat.le_of_ble_eq_true rfl) ?_
  intro zp ze zs zm za zb zt zc zA C htab
  let Q := vx_MQ zb (QcW (S := Unit) G zA (fun _ => (some (.int (F_X9_state σ n)))) (fun _ => (Wd G E σ μ Y)) (fun _ => X_X9_state σ n = 0)) (XcW G zA (Wd G E σ μ Y) (fun Ex => Ex = exn (X_X9_state σ n) ∧ ¬ X_X9_state σ n = 0)) za zs rm_X9_state.cells rm_X9_state.slots zA
  show V zp l ze rm_X9_state zs zm za zb zt zc 2 G zA 0 0 Q 0 [(0, .ref (E.1 0)), (1, .int n)] [] (Wd G E σ μ Y)
  refine v_aload_n C 0 rfl dX9_state_0 ?_
  refine v_iload_n C 1 rfl dX9_state_1 ?_
  refine v_callVX (rest := []) C htab mv_RX9_208 (m_X9_requireRequest l G E σ μ Y htr n (by assumption)) (fun Ex hE => ?_) 0 g_0 rfl rfl rfl rfl (Nat.le_of_ble_eq_true rfl) ⟨Nat.le_of_ble_eq_true rfl, Nat.le_of_ble_eq_true rfl⟩ ⟨Nat.le_of_ble_eq_true rfl, Nat.le_of_ble_eq_true rfl⟩ ⟨Nat.le_of_ble_eq_true rfl, Nat.le_of_ble_eq_true rfl⟩ dX9_state_2 (fun i1 h1 => ?_)
  · have e1 : F_X9_state σ n = 0 := by rw [F_X9_state, oel_none (hE.2)]
    have e2 : X_X9_state σ n = 3 := by rw [X_X9_state, oel_none (hE.2)]
    exact ⟨(by show _ = _ ∧ _; rw [e2]; exact ⟨hE.1, by decide⟩), (by first | with_reducible rfl | rw [e1])⟩
  · have hl0 := (find_some hK h1).1
    refine v_get (v := .int (σ 44 i1)) C fl_RX9_212 (35 + i1) (g_row (by assumption)) rfl dX9_state_5 ?_
    have e1 : F_X9_state σ n = σ 44 i1 := by rw [F_X9_state, oel_some h1]
    have e2 : X_X9_state σ n = 0 := by rw [X_X9_state, oel_some h1]
    exact v_X (v_iret C () e2 (by rw [e1]) rfl (Nat.le_of_ble_eq_true rfl) (Nat.le_of_ble_eq_true rfl) dX9_state_8)
def F_X9_bucket (σ : Sg) (n : Int32) : Int32 := (Option.elim (F_X6_find σ n) (0) (fun i1 => (if (σ 44 i1) = 0 then F_X7_bucketOf σ i1 (σ 2 4) else 0)))
def X_X9_bucket (σ : Sg) (n : Int32) : Nat := (Option.elim (F_X6_find σ n) (3) (fun i1 => (if (σ 44 i1) = 0 then 0 else 2)))
abbrev rm_X9_bucket : Room := { frames := 9, cells := 2, slots := 12, locals := 162 }
set_option maxRecDepth 100000 in
set_option maxHeartbeats 4000000 in
theorem m_X9_bucket (l : Launch) (G : GG) (E : EE) (σ μ : Sg) (Y : va_W) (htr : l.stackTraces = false) (n : Int32) (hK : CNT E σ) : KX (S := Unit) l G yX9_bucket cX9_bucket 3 (some .int) rm_X9_bucket [.ref (E.1 0), .int n] (Wd G E σ μ Y) (fun _ => (some (.int (F_X9_bucket σ n)))) (fun _ => (Wd G E σ μ Y)) (fun _ => X_X9_bucket σ n = 0) (Wd G E σ μ Y) (fun Ex => Ex = exn (X_X9_bucket σ n) ∧ ¬ X_X9_bucket σ n = 0) := by
  refine KX.of (by decide) (Nat.le_of_ble_eq_true rfl) ?_
  intro zp ze zs zm za zb zt zc zA C htab
  let Q := vx_MQ zb (QcW (S := Unit) G zA (fun _ => (some (.int (F_X9_bucket σ n)))) (fun _ => (Wd G E σ μ Y)) (fun _ => X_X9_bucket σ n = 0)) (XcW G zA (Wd G E σ μ Y) (fun Ex => Ex = exn (X_X9_bucket σ n) ∧ ¬ X_X9_bucket σ n = 0)) za zs rm_X9_bucket.cells rm_X9_bucket.slots zA
  show V zp l ze rm_X9_bucket zs zm za zb zt zc 3 G zA 0 0 Q 0 [(0, .ref (E.1 0)), (1, .int n)] [] (Wd G E σ μ Y)
  refine v_aload_n C 0 rfl dX9_bucket_0 ?_
  refine v_iload_n C 1 rfl dX9_bucket_1 ?_
  refine v_callVX (rest := []) C htab mv_RX9_208 (m_X9_requireRequest l G E σ μ Y htr n (by assumption)) (fun Ex hE => ?_) 0 g_0 rfl rfl rfl rfl (Nat.le_of_ble_eq_true rfl) ⟨Nat.le_of_ble_eq_true rfl, Nat.le_of_ble_eq_true rfl⟩ ⟨Nat.le_of_ble_eq_true rfl, Nat.le_of_ble_eq_true rfl⟩ ⟨Nat.le_of_ble_eq_true rfl, Nat.le_of_ble_eq_true rfl⟩ dX9_bucket_2 (fun i1 h1 => ?_)
  · have e1 : F_X9_bucket σ n = 0 := by rw [F_X9_bucket, oel_none (hE.2)]
    have e2 : X_X9_bucket σ n = 3 := by rw [X_X9_bucket, oel_none (hE.2)]
    exact ⟨(by show _ = _ ∧ _; rw [e2]; exact ⟨hE.1, by decide⟩), (by first | with_reducible rfl | rw [e1])⟩
  · have hl0 := (find_some hK h1).1
    refine v_astore_n (lv' := [(2, .ref (E.2.1 i1)), (0, .ref (E.1 0)), (1, .int n)]) C (Nat.le_of_ble_eq_true rfl) rfl dX9_bucket_5 ?_
    refine v_aload_n C 0 rfl dX9_bucket_6 ?_
    refine v_get (v := .int (σ 44 i1)) C fl_RX9_212 (35 + i1) (g_row (by assumption)) rfl dX9_bucket_7 ?_
    refine v_if_eq (tgt := 23) C (by decide) dX9_bucket_10 (fun h2 => ?_) (fun h2 => ?_)
    · refine v_aload_n C 1 rfl dX9_bucket_23 ?_
      refine v_get (v := .ref (E.1 1)) C fl_RX9_10 0 g_0 rfl dX9_bucket_24 ?_
      refine v_get (v := .ref (E.1 7)) C fl_RX9_64 1 g_1 rfl dX9_bucket_27 ?_
      refine v_aload_n C 0 rfl dX9_bucket_30 ?_
      refine v_aload_n C 1 rfl dX9_bucket_31 ?_
      refine v_get (v := .ref (E.1 1)) C fl_RX9_10 0 g_0 rfl dX9_bucket_32 ?_
      refine v_get (v := .ref (E.1 2)) C fl_RX9_41 1 g_1 rfl dX9_bucket_35 ?_
      refine v_get (v := .int (σ 2 4)) C fl_RX9_146 2 g_2 rfl dX9_bucket_38 ?_
      refine v_cV1 (rest := []) C mv_RX9_252 (m_X7_bucketOf l G E σ μ Y i1 (σ 2 4) (by assumption)) 7 g_7 rfl rfl rfl rfl (Nat.le_of_ble_eq_true rfl) ⟨Nat.le_of_ble_eq_true rfl, Nat.le_of_ble_eq_true rfl⟩ ⟨rfl, rfl⟩ ⟨Nat.le_of_ble_eq_true rfl, Nat.le_of_ble_eq_true rfl⟩ dX9_bucket_41 ?_
      have e1 : F_X9_bucket σ n = F_X7_bucketOf σ i1 (σ 2 4) := by rw [F_X9_bucket, oel_some h1, if_pos h2]
      have e2 : X_X9_bucket σ n = 0 := by rw [X_X9_bucket, oel_some h1, if_pos h2]
      exact v_X (v_iret C () e2 (by rw [e1]) rfl (Nat.le_of_ble_eq_true rfl) (Nat.le_of_ble_eq_true rfl) dX9_bucket_44)
    · have e1 : F_X9_bucket σ n = 0 := by rw [F_X9_bucket, oel_some h1, if_neg h2]
      have e2 : X_X9_bucket σ n = 2 := by rw [X_X9_bucket, oel_some h1, if_neg h2]
      exact v_throwS C htab htr tx_2 (List.mem_of_getElem? (i := 17) rfl) (by show _ = _ ∧ _; rw [e2]; exact ⟨rfl, by decide⟩) (by first | with_reducible rfl | rw [e1]) dX9_bucket_13 dX9_bucket_16 dX9_bucket_17 dX9_bucket_19 dX9_bucket_22 ⟨Nat.le_of_ble_eq_true rfl, Nat.le_of_ble_eq_true rfl, Nat.le_of_ble_eq_true rfl, Nat.le_of_ble_eq_true rfl⟩ ⟨Nat.le_of_ble_eq_true rfl, Nat.le_of_ble_eq_true rfl⟩
def F_X9_finish (σ : Sg) (n : Int32) : Int32 := (Option.elim (F_X6_find σ n) (0) (fun i1 => (if (σ 44 i1) = (1 : Int32) then σ 43 i1 else 0)))
def X_X9_finish (σ : Sg) (n : Int32) : Nat := (Option.elim (F_X6_find σ n) (3) (fun i1 => (if (σ 44 i1) = (1 : Int32) then 0 else 2)))
abbrev rm_X9_finish : Room := { frames := 9, cells := 2, slots := 12, locals := 162 }
set_option maxRecDepth 100000 in
set_option maxHeartbeats 4000000 in
theorem m_X9_finish (l : Launch) (G : GG) (E : EE) (σ μ : Sg) (Y : va_W) (htr : l.stackTraces = false) (n : Int32) (hK : CNT E σ) : KX (S := Unit) l G yX9_finish cX9_finish 3 (some .int) rm_X9_finish [.ref (E.1 0), .int n] (Wd G E σ μ Y) (fun _ => (some (.int (F_X9_finish σ n)))) (fun _ => (Wd G E σ μ Y)) (fun _ => X_X9_finish σ n = 0) (Wd G E σ μ Y) (fun Ex => Ex = exn (X_X9_finish σ n) ∧ ¬ X_X9_finish σ n = 0) := by
  refine KX.of (by decide) (Nat.le_of_ble_eq_true rfl) ?_
  intro zp ze zs zm za zb zt zc zA C htab
  let Q := vx_MQ zb (QcW (S := Unit) G zA (fun _ => (some (.int (F_X9_finish σ n)))) (fun _ => (Wd G E σ μ Y)) (fun _ => X_X9_finish σ n = 0)) (XcW G zA (Wd G E σ μ Y) (fun Ex => Ex = exn (X_X9_finish σ n) ∧ ¬ X_X9_finish σ n = 0)) za zs rm_X9_finish.cells rm_X9_finish.slots zA
  show V zp l ze rm_X9_finish zs zm za zb zt zc 3 G zA 0 0 Q 0 [(0, .ref (E.1 0)), (1, .int n)] [] (Wd G E σ μ Y)
  refine v_aload_n C 0 rfl dX9_finish_0 ?_
  refine v_iload_n C 1 rfl dX9_finish_1 ?_
  refine v_callVX (rest := []) C htab mv_RX9_208 (m_X9_requireRequest l G E σ μ Y htr n (by assumption)) (fun Ex hE => ?_) 0 g_0 rfl rfl rfl rfl (Nat.le_of_ble_eq_true rfl) ⟨Nat.le_of_ble_eq_true rfl, Nat.le_of_ble_eq_true rfl⟩ ⟨Nat.le_of_ble_eq_true rfl, Nat.le_of_ble_eq_true rfl⟩ ⟨Nat.le_of_ble_eq_true rfl, Nat.le_of_ble_eq_true rfl⟩ dX9_finish_2 (fun i1 h1 => ?_)
  · have e1 : F_X9_finish σ n = 0 := by rw [F_X9_finish, oel_none (hE.2)]
    have e2 : X_X9_finish σ n = 3 := by rw [X_X9_finish, oel_none (hE.2)]
    exact ⟨(by show _ = _ ∧ _; rw [e2]; exact ⟨hE.1, by decide⟩), (by first | with_reducible rfl | rw [e1])⟩
  · have hl0 := (find_some hK h1).1
    refine v_astore_n (lv' := [(2, .ref (E.2.1 i1)), (0, .ref (E.1 0)), (1, .int n)]) C (Nat.le_of_ble_eq_true rfl) rfl dX9_finish_5 ?_
    refine v_aload_n C 0 rfl dX9_finish_6 ?_
    refine v_get (v := .int (σ 44 i1)) C fl_RX9_212 (35 + i1) (g_row (by assumption)) rfl dX9_finish_7 ?_
    refine v_iconst (v := (1 : Int32)) C (by decide) dX9_finish_10 ?_
    refine v_icmp_eq (tgt := 25) C (by decide) dX9_finish_11 (fun h2 => ?_) (fun h2 => ?_)
    · refine v_aload_n C 0 rfl dX9_finish_25 ?_
      refine v_get (v := .int (σ 43 i1)) C fl_RX9_258 (35 + i1) (g_row (by assumption)) rfl dX9_finish_26 ?_
      have e1 : F_X9_finish σ n = σ 43 i1 := by rw [F_X9_finish, oel_some h1, if_pos h2]
      have e2 : X_X9_finish σ n = 0 := by rw [X_X9_finish, oel_some h1, if_pos h2]
      exact v_X (v_iret C () e2 (by rw [e1]) rfl (Nat.le_of_ble_eq_true rfl) (Nat.le_of_ble_eq_true rfl) dX9_finish_29)
    · have e1 : F_X9_finish σ n = 0 := by rw [F_X9_finish, oel_some h1, if_neg h2]
      have e2 : X_X9_finish σ n = 2 := by rw [X_X9_finish, oel_some h1, if_neg h2]
      exact v_throwSW C htab htr tx_2 (List.mem_of_getElem? (i := 20) rfl) (by show _ = _ ∧ _; rw [e2]; exact ⟨rfl, by decide⟩) (by first | with_reducible rfl | rw [e1]) dX9_finish_14 dX9_finish_17 dX9_finish_18 dX9_finish_21 dX9_finish_24 ⟨Nat.le_of_ble_eq_true rfl, Nat.le_of_ble_eq_true rfl, Nat.le_of_ble_eq_true rfl, Nat.le_of_ble_eq_true rfl⟩ ⟨Nat.le_of_ble_eq_true rfl, Nat.le_of_ble_eq_true rfl⟩
def F_X9_isLate (σ : Sg) (n : Int32) : Int32 := (Option.elim (F_X6_find σ n) (0) (fun i1 => (if (σ 44 i1) = (1 : Int32) then (if (F_X4_hasDeadline σ i1) = 0 then 0 else F_X4_missedDeadline σ i1) else 0)))
def X_X9_isLate (σ : Sg) (n : Int32) : Nat := (Option.elim (F_X6_find σ n) (3) (fun i1 => (if (σ 44 i1) = (1 : Int32) then (if (F_X4_hasDeadline σ i1) = 0 then 4 else 0) else 2)))
theorem z01_X9_isLate (σ : Sg) (n : Int32) : F_X9_isLate σ n = 0 ∨ F_X9_isLate σ n = 1 := by
  unfold F_X9_isLate; rcases F_X6_find σ n with _ | i; exact Or.inl rfl; simp only [Option.elim]; (repeat' split) <;> first | exact Or.inl rfl | exact z01_X4_missedDeadline _ _
abbrev rm_X9_isLate : Room := { frames := 9, cells := 2, slots := 12, locals := 162 }
set_option maxRecDepth 100000 in
set_option maxHeartbeats 4000000 in
theorem m_X9_isLate (l : Launch) (G : GG) (E : EE) (σ μ : Sg) (Y : va_W) (htr : l.stackTraces = false) (n : Int32) (hK : CNT E σ) : KX (S := Unit) l G yX9_isLate cX9_isLate 3 (some .boolean) rm_X9_isLate [.ref (E.1 0), .int n] (Wd G E σ μ Y) (fun _ => (some (.int (F_X9_isLate σ n)))) (fun _ => (Wd G E σ μ Y)) (fun _ => X_X9_isLate σ n = 0) (Wd G E σ μ Y) (fun Ex => Ex = exn (X_X9_isLate σ n) ∧ ¬ X_X9_isLate σ n = 0) := by
  refine KX.of (by decide) (Nat.le_of_ble_eq_true rfl) ?_
  intro zp ze zs zm za zb zt zc zA C htab
  let Q := vx_MQ zb (QcW (S := Unit) G zA (fun _ => (some (.int (F_X9_isLate σ n)))) (fun _ => (Wd G E σ μ Y)) (fun _ => X_X9_isLate σ n = 0)) (XcW G zA (Wd G E σ μ Y) (fun Ex => Ex = exn (X_X9_isLate σ n) ∧ ¬ X_X9_isLate σ n = 0)) za zs rm_X9_isLate.cells rm_X9_isLate.slots zA
  show V zp l ze rm_X9_isLate zs zm za zb zt zc 3 G zA 0 0 Q 0 [(0, .ref (E.1 0)), (1, .int n)] [] (Wd G E σ μ Y)
  refine v_aload_n C 0 rfl dX9_isLate_0 ?_
  refine v_iload_n C 1 rfl dX9_isLate_1 ?_
  refine v_callVX (rest := []) C htab mv_RX9_208 (m_X9_requireRequest l G E σ μ Y htr n (by assumption)) (fun Ex hE => ?_) 0 g_0 rfl rfl rfl rfl (Nat.le_of_ble_eq_true rfl) ⟨Nat.le_of_ble_eq_true rfl, Nat.le_of_ble_eq_true rfl⟩ ⟨Nat.le_of_ble_eq_true rfl, Nat.le_of_ble_eq_true rfl⟩ ⟨Nat.le_of_ble_eq_true rfl, Nat.le_of_ble_eq_true rfl⟩ dX9_isLate_2 (fun i1 h1 => ?_)
  · have e1 : F_X9_isLate σ n = 0 := by rw [F_X9_isLate, oel_none (hE.2)]
    have e2 : X_X9_isLate σ n = 3 := by rw [X_X9_isLate, oel_none (hE.2)]
    exact ⟨(by show _ = _ ∧ _; rw [e2]; exact ⟨hE.1, by decide⟩), (by first | with_reducible rfl | rw [e1])⟩
  · have hl0 := (find_some hK h1).1
    refine v_astore_n (lv' := [(2, .ref (E.2.1 i1)), (0, .ref (E.1 0)), (1, .int n)]) C (Nat.le_of_ble_eq_true rfl) rfl dX9_isLate_5 ?_
    refine v_aload_n C 0 rfl dX9_isLate_6 ?_
    refine v_get (v := .int (σ 44 i1)) C fl_RX9_212 (35 + i1) (g_row (by assumption)) rfl dX9_isLate_7 ?_
    refine v_iconst (v := (1 : Int32)) C (by decide) dX9_isLate_10 ?_
    refine v_icmp_eq (tgt := 25) C (by decide) dX9_isLate_11 (fun h2 => ?_) (fun h2 => ?_)
    · refine v_aload_n C 0 rfl dX9_isLate_25 ?_
      refine v_cV1 (rest := []) C mv_RX9_261 (m_X4_hasDeadline l G E σ μ Y i1 (by assumption)) (35 + i1) (g_row (by assumption)) rfl rfl rfl rfl (Nat.le_of_ble_eq_true rfl) ⟨Nat.le_of_ble_eq_true rfl, Nat.le_of_ble_eq_true rfl⟩ ⟨rfl, rfl⟩ ⟨Nat.le_of_ble_eq_true rfl, Nat.le_of_ble_eq_true rfl⟩ dX9_isLate_26 ?_
      refine v_if_ne (tgt := 43) C (by decide) dX9_isLate_29 (fun h3 => ?_) (fun h3 => ?_)
      · refine v_aload_n C 0 rfl dX9_isLate_43 ?_
        refine v_cV1 (rest := []) C mv_RX9_266 (m_X4_missedDeadline l G E σ μ Y i1 (by assumption)) (35 + i1) (g_row (by assumption)) rfl rfl rfl rfl (Nat.le_of_ble_eq_true rfl) ⟨Nat.le_of_ble_eq_true rfl, Nat.le_of_ble_eq_true rfl⟩ ⟨rfl, rfl⟩ ⟨Nat.le_of_ble_eq_true rfl, Nat.le_of_ble_eq_true rfl⟩ dX9_isLate_44 ?_
        have e1 : F_X9_isLate σ n = F_X4_missedDeadline σ i1 := by rw [F_X9_isLate, oel_some h1, if_pos h2, if_neg h3]
        have e2 : X_X9_isLate σ n = 0 := by rw [X_X9_isLate, oel_some h1, if_pos h2, if_neg h3]
        exact v_X (v_zret C (nbz (z01_X4_missedDeadline σ i1)) () e2 (by rw [e1]) rfl (Nat.le_of_ble_eq_true rfl) (Nat.le_of_ble_eq_true rfl) dX9_isLate_47)
      · have e1 : F_X9_isLate σ n = 0 := by rw [F_X9_isLate, oel_some h1, if_pos h2, if_pos h3]
        have e2 : X_X9_isLate σ n = 4 := by rw [X_X9_isLate, oel_some h1, if_pos h2, if_pos h3]
        exact v_throwSW C htab htr tx_4 (List.mem_of_getElem? (i := 21) rfl) (by show _ = _ ∧ _; rw [e2]; exact ⟨rfl, by decide⟩) (by first | with_reducible rfl | rw [e1]) dX9_isLate_32 dX9_isLate_35 dX9_isLate_36 dX9_isLate_39 dX9_isLate_42 ⟨Nat.le_of_ble_eq_true rfl, Nat.le_of_ble_eq_true rfl, Nat.le_of_ble_eq_true rfl, Nat.le_of_ble_eq_true rfl⟩ ⟨Nat.le_of_ble_eq_true rfl, Nat.le_of_ble_eq_true rfl⟩
    · have e1 : F_X9_isLate σ n = 0 := by rw [F_X9_isLate, oel_some h1, if_neg h2]
      have e2 : X_X9_isLate σ n = 2 := by rw [X_X9_isLate, oel_some h1, if_neg h2]
      exact v_throwSW C htab htr tx_2 (List.mem_of_getElem? (i := 20) rfl) (by show _ = _ ∧ _; rw [e2]; exact ⟨rfl, by decide⟩) (by first | with_reducible rfl | rw [e1]) dX9_isLate_14 dX9_isLate_17 dX9_isLate_18 dX9_isLate_21 dX9_isLate_24 ⟨Nat.le_of_ble_eq_true rfl, Nat.le_of_ble_eq_true rfl, Nat.le_of_ble_eq_true rfl, Nat.le_of_ble_eq_true rfl⟩ ⟨Nat.le_of_ble_eq_true rfl, Nat.le_of_ble_eq_true rfl⟩
def F_X9_total (σ : Sg) (wh : Int32) : Int32 := (if wh = (0 : Int32) then σ 2 6 else (if wh = (1 : Int32) then σ 2 7 else (if wh = (2 : Int32) then σ 2 8 else (if wh = (3 : Int32) then σ 2 9 else 0))))
def X_X9_total (σ : Sg) (wh : Int32) : Nat := (if wh = (0 : Int32) then 0 else (if wh = (1 : Int32) then 0 else (if wh = (2 : Int32) then 0 else (if wh = (3 : Int32) then 0 else 1))))
abbrev rm_X9_total : Room := { frames := 6, cells := 1, slots := 6, locals := 120 }
set_option maxRecDepth 100000 in
set_option maxHeartbeats 4000000 in
theorem m_X9_total (l : Launch) (G : GG) (E : EE) (σ μ : Sg) (Y : va_W) (htr : l.stackTraces = false) (wh : Int32) : KX (S := Unit) l G yX9_total cX9_total 2 (some .int) rm_X9_total [.ref (E.1 0), .int wh] (Wd G E σ μ Y) (fun _ => (some (.int (F_X9_total σ wh)))) (fun _ => (Wd G E σ μ Y)) (fun _ => X_X9_total σ wh = 0) (Wd G E σ μ Y) (fun Ex => Ex = exn (X_X9_total σ wh) ∧ ¬ X_X9_total σ wh = 0) := by
  refine KX.of (by decide) (Nat.le_of_ble_eq_true rfl) ?_
  intro zp ze zs zm za zb zt zc zA C htab
  let Q := vx_MQ zb (QcW (S := Unit) G zA (fun _ => (some (.int (F_X9_total σ wh)))) (fun _ => (Wd G E σ μ Y)) (fun _ => X_X9_total σ wh = 0)) (XcW G zA (Wd G E σ μ Y) (fun Ex => Ex = exn (X_X9_total σ wh) ∧ ¬ X_X9_total σ wh = 0)) za zs rm_X9_total.cells rm_X9_total.slots zA
  show V zp l ze rm_X9_total zs zm za zb zt zc 2 G zA 0 0 Q 0 [(0, .ref (E.1 0)), (1, .int wh)] [] (Wd G E σ μ Y)
  refine v_iload_n C 1 rfl dX9_total_0 ?_
  by_cases h1 : wh = (0 : Int32)
  · refine v_tabIn (tgt := 32) (off := 31) C (by rw [h1]; decide) (by rw [h1]; decide) (by rw [h1]; decide) (by decide) dX9_total_1 ?_
    refine v_aload_n C 0 rfl dX9_total_32 ?_
    refine v_get (v := .ref (E.1 1)) C fl_RX9_10 0 g_0 rfl dX9_total_33 ?_
    refine v_get (v := .ref (E.1 2)) C fl_RX9_41 1 g_1 rfl dX9_total_36 ?_
    refine v_get (v := .int (σ 2 6)) C fl_RX9_290 2 g_2 rfl dX9_total_39 ?_
    have e1 : F_X9_total σ wh = σ 2 6 := by rw [F_X9_total, if_pos h1]
    have e2 : X_X9_total σ wh = 0 := by rw [X_X9_total, if_pos h1]
    exact v_X (v_iret C () e2 (by rw [e1]) rfl (Nat.le_of_ble_eq_true rfl) (Nat.le_of_ble_eq_true rfl) dX9_total_42)
  · by_cases h2 : wh = (1 : Int32)
    · refine v_tabIn (tgt := 43) (off := 42) C (by rw [h2]; decide) (by rw [h2]; decide) (by rw [h2]; decide) (by decide) dX9_total_1 ?_
      refine v_aload_n C 0 rfl dX9_total_43 ?_
      refine v_get (v := .ref (E.1 1)) C fl_RX9_10 0 g_0 rfl dX9_total_44 ?_
      refine v_get (v := .ref (E.1 2)) C fl_RX9_41 1 g_1 rfl dX9_total_47 ?_
      refine v_get (v := .int (σ 2 7)) C fl_RX9_293 2 g_2 rfl dX9_total_50 ?_
      have e1 : F_X9_total σ wh = σ 2 7 := by rw [F_X9_total, if_neg h1, if_pos h2]
      have e2 : X_X9_total σ wh = 0 := by rw [X_X9_total, if_neg h1, if_pos h2]
      exact v_X (v_iret C () e2 (by rw [e1]) rfl (Nat.le_of_ble_eq_true rfl) (Nat.le_of_ble_eq_true rfl) dX9_total_53)
    · by_cases h3 : wh = (2 : Int32)
      · refine v_tabIn (tgt := 54) (off := 53) C (by rw [h3]; decide) (by rw [h3]; decide) (by rw [h3]; decide) (by decide) dX9_total_1 ?_
        refine v_aload_n C 0 rfl dX9_total_54 ?_
        refine v_get (v := .ref (E.1 1)) C fl_RX9_10 0 g_0 rfl dX9_total_55 ?_
        refine v_get (v := .ref (E.1 2)) C fl_RX9_41 1 g_1 rfl dX9_total_58 ?_
        refine v_get (v := .int (σ 2 8)) C fl_RX9_296 2 g_2 rfl dX9_total_61 ?_
        have e1 : F_X9_total σ wh = σ 2 8 := by rw [F_X9_total, if_neg h1, if_neg h2, if_pos h3]
        have e2 : X_X9_total σ wh = 0 := by rw [X_X9_total, if_neg h1, if_neg h2, if_pos h3]
        exact v_X (v_iret C () e2 (by rw [e1]) rfl (Nat.le_of_ble_eq_true rfl) (Nat.le_of_ble_eq_true rfl) dX9_total_64)
      · by_cases h4 : wh = (3 : Int32)
        · refine v_tabIn (tgt := 65) (off := 64) C (by rw [h4]; decide) (by rw [h4]; decide) (by rw [h4]; decide) (by decide) dX9_total_1 ?_
          refine v_aload_n C 0 rfl dX9_total_65 ?_
          refine v_get (v := .ref (E.1 1)) C fl_RX9_10 0 g_0 rfl dX9_total_66 ?_
          refine v_get (v := .ref (E.1 2)) C fl_RX9_41 1 g_1 rfl dX9_total_69 ?_
          refine v_get (v := .int (σ 2 9)) C fl_RX9_299 2 g_2 rfl dX9_total_72 ?_
          have e1 : F_X9_total σ wh = σ 2 9 := by rw [F_X9_total, if_neg h1, if_neg h2, if_neg h3, if_pos h4]
          have e2 : X_X9_total σ wh = 0 := by rw [X_X9_total, if_neg h1, if_neg h2, if_neg h3, if_pos h4]
          exact v_X (v_iret C () e2 (by rw [e1]) rfl (Nat.le_of_ble_eq_true rfl) (Nat.le_of_ble_eq_true rfl) dX9_total_75)
        · refine v_tabOut (tgt := 76) C (sw_out (hi := 3) wh (fun q hq => by (rcases (show q = 0 ∨ q = 1 ∨ q = 2 ∨ q = 3 by omega) with rfl | rfl | rfl | rfl) <;> first | exact h1 | exact h2 | exact h3 | exact h4)) (by decide) dX9_total_1 ?_
          have e1 : F_X9_total σ wh = 0 := by rw [F_X9_total, if_neg h1, if_neg h2, if_neg h3, if_neg h4]
          have e2 : X_X9_total σ wh = 1 := by rw [X_X9_total, if_neg h1, if_neg h2, if_neg h3, if_neg h4]
          exact v_throwSW C htab htr tx_1 (List.mem_of_getElem? (i := 24) rfl) (by show _ = _ ∧ _; rw [e2]; exact ⟨rfl, by decide⟩) (by first | with_reducible rfl | rw [e1]) dX9_total_76 dX9_total_79 dX9_total_80 dX9_total_83 dX9_total_86 ⟨Nat.le_of_ble_eq_true rfl, Nat.le_of_ble_eq_true rfl, Nat.le_of_ble_eq_true rfl, Nat.le_of_ble_eq_true rfl⟩ ⟨Nat.le_of_ble_eq_true rfl, Nat.le_of_ble_eq_true rfl⟩
def F_X9_bestFinish (σ : Sg) : Int32 × Sg := (if (X_X9_requireFewPending σ) = 0 then ((F_X3_run (F_X3_gather σ (0 : Int32) (0 : Int32))) 10 1, (F_X3_run (F_X3_gather σ (0 : Int32) (0 : Int32)))) else (0, σ))
def X_X9_bestFinish (σ : Sg) : Nat := (if (X_X9_requireFewPending σ) = 0 then 0 else (X_X9_requireFewPending σ))
abbrev rm_X9_bestFinish : Room := { frames := 142, cells := 2, slots := 12, locals := 5646 }
set_option maxRecDepth 100000 in
set_option maxHeartbeats 4000000 in
theorem m_X9_bestFinish (l : Launch) (G : GG) (E : EE) (σ μ : Sg) (Y : va_W) (htr : l.stackTraces = false) (hK : CNT E σ) : KX (S := Unit) l G yX9_bestFinish cX9_bestFinish 1 (some .int) rm_X9_bestFinish [.ref (E.1 0)] (Wd G E σ μ Y) (fun _ => (some (.int (F_X9_bestFinish σ).1))) (fun _ => (Wd G E (F_X9_bestFinish σ).2 μ Y)) (fun _ => X_X9_bestFinish σ = 0) (Wd G E (F_X9_bestFinish σ).2 μ Y) (fun Ex => Ex = exn (X_X9_bestFinish σ) ∧ ¬ X_X9_bestFinish σ = 0) := by
  refine KX.of (by decide) (Nat.le_of_ble_eq_true rfl) ?_
  intro zp ze zs zm za zb zt zc zA C htab
  let Q := vx_MQ zb (QcW (S := Unit) G zA (fun _ => (some (.int (F_X9_bestFinish σ).1))) (fun _ => (Wd G E (F_X9_bestFinish σ).2 μ Y)) (fun _ => X_X9_bestFinish σ = 0)) (XcW G zA (Wd G E (F_X9_bestFinish σ).2 μ Y) (fun Ex => Ex = exn (X_X9_bestFinish σ) ∧ ¬ X_X9_bestFinish σ = 0)) za zs rm_X9_bestFinish.cells rm_X9_bestFinish.slots zA
  show V zp l ze rm_X9_bestFinish zs zm za zb zt zc 1 G zA 0 0 Q 0 [(0, .ref (E.1 0))] [] (Wd G E σ μ Y)
  refine v_aload_n C 0 rfl dX9_bestFinish_0 ?_
  refine v_callVX (rest := []) C htab mv_RX9_269 (m_X9_requireFewPending l G E σ μ Y htr) (fun Ex hE => ?_) 0 g_0 rfl rfl rfl rfl (Nat.le_of_ble_eq_true rfl) ⟨Nat.le_of_ble_eq_true rfl, Nat.le_of_ble_eq_true rfl⟩ ⟨Nat.le_of_ble_eq_true rfl, Nat.le_of_ble_eq_true rfl⟩ ⟨Nat.le_of_ble_eq_true rfl, Nat.le_of_ble_eq_true rfl⟩ dX9_bestFinish_1 (fun _ h1 => ?_)
  · have e1 : F_X9_bestFinish σ = (0, σ) := by rw [F_X9_bestFinish, if_neg hE.2]
    have e2 : X_X9_bestFinish σ = X_X9_requireFewPending σ := by rw [X_X9_bestFinish, if_neg hE.2]
    exact ⟨(by show _ = _ ∧ _; rw [e2]; exact hE), (by first | with_reducible rfl | rw [e1])⟩
  · refine v_aload_n C 0 rfl dX9_bestFinish_4 ?_
    refine v_get (v := .ref (E.1 10)) C fl_RX9_19 0 g_0 rfl dX9_bestFinish_5 ?_
    refine v_aload_n C 0 rfl dX9_bestFinish_8 ?_
    refine v_get (v := .ref (E.1 1)) C fl_RX9_10 0 g_0 rfl dX9_bestFinish_9 ?_
    refine v_get (v := .ref (E.1 5)) C fl_RX9_219 1 g_1 rfl dX9_bestFinish_12 ?_
    refine v_aload_n C 0 rfl dX9_bestFinish_15 ?_
    refine v_get (v := .ref (E.1 1)) C fl_RX9_10 0 g_0 rfl dX9_bestFinish_16 ?_
    refine v_get (v := .ref (E.1 2)) C fl_RX9_41 1 g_1 rfl dX9_bestFinish_19 ?_
    refine v_iconst (v := (0 : Int32)) C (by decide) dX9_bestFinish_22 ?_
    refine v_iconst (v := (0 : Int32)) C (by decide) dX9_bestFinish_23 ?_
    refine v_cV0 (rest := []) C mv_RX9_272 (m_X3_gather l G E σ μ Y (0 : Int32) (0 : Int32) (by assumption)) 10 g_10 rfl rfl rfl rfl (Nat.le_of_ble_eq_true rfl) ⟨Nat.le_of_ble_eq_true rfl, Nat.le_of_ble_eq_true rfl⟩ ⟨rfl, rfl⟩ ⟨Nat.le_of_ble_eq_true rfl, Nat.le_of_ble_eq_true rfl⟩ dX9_bestFinish_24 ?_
    refine v_aload_n C 0 rfl dX9_bestFinish_27 ?_
    refine v_get (v := .ref (E.1 10)) C fl_RX9_19 0 g_0 rfl dX9_bestFinish_28 ?_
    refine v_aload_n C 0 rfl dX9_bestFinish_31 ?_
    refine v_get (v := .ref (E.1 1)) C fl_RX9_10 0 g_0 rfl dX9_bestFinish_32 ?_
    refine v_get (v := .ref (E.1 2)) C fl_RX9_41 1 g_1 rfl dX9_bestFinish_35 ?_
    refine v_cV0 (rest := []) C mv_RX9_276 (m_X3_run l G E (F_X3_gather σ (0 : Int32) (0 : Int32)) μ Y) 10 g_10 rfl rfl rfl rfl (Nat.le_of_ble_eq_true rfl) ⟨Nat.le_of_ble_eq_true rfl, Nat.le_of_ble_eq_true rfl⟩ ⟨rfl, rfl⟩ ⟨Nat.le_of_ble_eq_true rfl, Nat.le_of_ble_eq_true rfl⟩ dX9_bestFinish_38 ?_
    refine v_aload_n C 0 rfl dX9_bestFinish_41 ?_
    refine v_get (v := .ref (E.1 10)) C fl_RX9_19 0 g_0 rfl dX9_bestFinish_42 ?_
    refine v_get (v := .int ((F_X3_run (F_X3_gather σ (0 : Int32) (0 : Int32))) 10 1)) C fl_RX9_279 10 g_10 rfl dX9_bestFinish_45 ?_
    have e1 : F_X9_bestFinish σ = ((F_X3_run (F_X3_gather σ (0 : Int32) (0 : Int32))) 10 1, (F_X3_run (F_X3_gather σ (0 : Int32) (0 : Int32)))) := by rw [F_X9_bestFinish, if_pos h1]
    have e2 : X_X9_bestFinish σ = 0 := by rw [X_X9_bestFinish, if_pos h1]
    exact v_X (v_iret C () e2 (by rw [e1]) (by rw [e1]) (Nat.le_of_ble_eq_true rfl) (Nat.le_of_ble_eq_true rfl) dX9_bestFinish_48)
def F_X9_bestRequest (σ : Sg) (po : Int32) : Int32 × Sg := (if (X_X9_requireFewPending σ) = 0 then (if (F_X9_isWithin po (0 : Int32) ((σ 5 1) - (1 : Int32))) = 0 then (0, σ) else (F_X3_requestAt (F_X3_run (F_X3_gather σ (0 : Int32) (0 : Int32))) po, (F_X3_run (F_X3_gather σ (0 : Int32) (0 : Int32))))) else (0, σ))
def X_X9_bestRequest (σ : Sg) (po : Int32) : Nat := (if (X_X9_requireFewPending σ) = 0 then (if (F_X9_isWithin po (0 : Int32) ((σ 5 1) - (1 : Int32))) = 0 then 3 else 0) else (X_X9_requireFewPending σ))
abbrev rm_X9_bestRequest : Room := { frames := 142, cells := 2, slots := 12, locals := 5646 }
set_option maxRecDepth 100000 in
set_option maxHeartbeats 4000000 in
theorem m_X9_bestRequest (l : Launch) (G : GG) (E : EE) (σ μ : Sg) (Y : va_W) (htr : l.stackTraces = false) (po : Int32) (hK : CNT E σ) : KX (S := Unit) l G yX9_bestRequest cX9_bestRequest 2 (some .int) rm_X9_bestRequest [.ref (E.1 0), .int po] (Wd G E σ μ Y) (fun _ => (some (.int (F_X9_bestRequest σ po).1))) (fun _ => (Wd G E (F_X9_bestRequest σ po).2 μ Y)) (fun _ => X_X9_bestRequest σ po = 0) (Wd G E (F_X9_bestRequest σ po).2 μ Y) (fun Ex => Ex = exn (X_X9_bestRequest σ po) ∧ ¬ X_X9_bestRequest σ po = 0) := by
  refine KX.of (by decide) (Nat.le_of_ble_eq_true rfl) ?_
  intro zp ze zs zm za zb zt zc zA C htab
  let Q := vx_MQ zb (QcW (S := Unit) G zA (fun _ => (some (.int (F_X9_bestRequest σ po).1))) (fun _ => (Wd G E (F_X9_bestRequest σ po).2 μ Y)) (fun _ => X_X9_bestRequest σ po = 0)) (XcW G zA (Wd G E (F_X9_bestRequest σ po).2 μ Y) (fun Ex => Ex = exn (X_X9_bestRequest σ po) ∧ ¬ X_X9_bestRequest σ po = 0)) za zs rm_X9_bestRequest.cells rm_X9_bestRequest.slots zA
  show V zp l ze rm_X9_bestRequest zs zm za zb zt zc 2 G zA 0 0 Q 0 [(0, .ref (E.1 0)), (1, .int po)] [] (Wd G E σ μ Y)
  refine v_aload_n C 0 rfl dX9_bestRequest_0 ?_
  refine v_callVX (rest := []) C htab mv_RX9_269 (m_X9_requireFewPending l G E σ μ Y htr) (fun Ex hE => ?_) 0 g_0 rfl rfl rfl rfl (Nat.le_of_ble_eq_true rfl) ⟨Nat.le_of_ble_eq_true rfl, Nat.le_of_ble_eq_true rfl⟩ ⟨Nat.le_of_ble_eq_true rfl, Nat.le_of_ble_eq_true rfl⟩ ⟨Nat.le_of_ble_eq_true rfl, Nat.le_of_ble_eq_true rfl⟩ dX9_bestRequest_1 (fun _ h1 => ?_)
  · have e1 : F_X9_bestRequest σ po = (0, σ) := by rw [F_X9_bestRequest, if_neg hE.2]
    have e2 : X_X9_bestRequest σ po = X_X9_requireFewPending σ := by rw [X_X9_bestRequest, if_neg hE.2]
    exact ⟨(by show _ = _ ∧ _; rw [e2]; exact hE), (by first | with_reducible rfl | rw [e1])⟩
  · refine v_iload_n C 1 rfl dX9_bestRequest_4 ?_
    refine v_iconst (v := (0 : Int32)) C (by decide) dX9_bestRequest_5 ?_
    refine v_aload_n C 0 rfl dX9_bestRequest_6 ?_
    refine v_get (v := .ref (E.1 1)) C fl_RX9_10 0 g_0 rfl dX9_bestRequest_7 ?_
    refine v_get (v := .ref (E.1 5)) C fl_RX9_219 1 g_1 rfl dX9_bestRequest_10 ?_
    refine v_get (v := .int (σ 5 1)) C fl_RX9_238 5 g_5 rfl dX9_bestRequest_13 ?_
    refine v_iconst (v := (1 : Int32)) C (by decide) dX9_bestRequest_16 ?_
    refine v_isub C dX9_bestRequest_17 ?_
    refine v_cS1 (rest := []) C ms_RX9_30 (m_X9_isWithin l G E σ μ Y po (0 : Int32) ((σ 5 1) - (1 : Int32))) rfl rfl (Nat.le_of_ble_eq_true rfl) ⟨Nat.le_of_ble_eq_true rfl, Nat.le_of_ble_eq_true rfl⟩ ⟨rfl, rfl⟩ ⟨Nat.le_of_ble_eq_true rfl, Nat.le_of_ble_eq_true rfl⟩ dX9_bestRequest_18 ?_
    refine v_if_ne (tgt := 35) C (by decide) dX9_bestRequest_21 (fun h2 => ?_) (fun h2 => ?_)
    · refine v_aload_n C 0 rfl dX9_bestRequest_35 ?_
      refine v_get (v := .ref (E.1 10)) C fl_RX9_19 0 g_0 rfl dX9_bestRequest_36 ?_
      refine v_aload_n C 0 rfl dX9_bestRequest_39 ?_
      refine v_get (v := .ref (E.1 1)) C fl_RX9_10 0 g_0 rfl dX9_bestRequest_40 ?_
      refine v_get (v := .ref (E.1 5)) C fl_RX9_219 1 g_1 rfl dX9_bestRequest_43 ?_
      refine v_aload_n C 0 rfl dX9_bestRequest_46 ?_
      refine v_get (v := .ref (E.1 1)) C fl_RX9_10 0 g_0 rfl dX9_bestRequest_47 ?_
      refine v_get (v := .ref (E.1 2)) C fl_RX9_41 1 g_1 rfl dX9_bestRequest_50 ?_
      refine v_iconst (v := (0 : Int32)) C (by decide) dX9_bestRequest_53 ?_
      refine v_iconst (v := (0 : Int32)) C (by decide) dX9_bestRequest_54 ?_
      refine v_cV0 (rest := []) C mv_RX9_272 (m_X3_gather l G E σ μ Y (0 : Int32) (0 : Int32) (by assumption)) 10 g_10 rfl rfl rfl rfl (Nat.le_of_ble_eq_true rfl) ⟨Nat.le_of_ble_eq_true rfl, Nat.le_of_ble_eq_true rfl⟩ ⟨rfl, rfl⟩ ⟨Nat.le_of_ble_eq_true rfl, Nat.le_of_ble_eq_true rfl⟩ dX9_bestRequest_55 ?_
      refine v_aload_n C 0 rfl dX9_bestRequest_58 ?_
      refine v_get (v := .ref (E.1 10)) C fl_RX9_19 0 g_0 rfl dX9_bestRequest_59 ?_
      refine v_aload_n C 0 rfl dX9_bestRequest_62 ?_
      refine v_get (v := .ref (E.1 1)) C fl_RX9_10 0 g_0 rfl dX9_bestRequest_63 ?_
      refine v_get (v := .ref (E.1 2)) C fl_RX9_41 1 g_1 rfl dX9_bestRequest_66 ?_
      refine v_cV0 (rest := []) C mv_RX9_276 (m_X3_run l G E (F_X3_gather σ (0 : Int32) (0 : Int32)) μ Y) 10 g_10 rfl rfl rfl rfl (Nat.le_of_ble_eq_true rfl) ⟨Nat.le_of_ble_eq_true rfl, Nat.le_of_ble_eq_true rfl⟩ ⟨rfl, rfl⟩ ⟨Nat.le_of_ble_eq_true rfl, Nat.le_of_ble_eq_true rfl⟩ dX9_bestRequest_69 ?_
      refine v_aload_n C 0 rfl dX9_bestRequest_72 ?_
      refine v_get (v := .ref (E.1 10)) C fl_RX9_19 0 g_0 rfl dX9_bestRequest_73 ?_
      refine v_iload_n C 1 rfl dX9_bestRequest_76 ?_
      refine v_cV1 (rest := []) C mv_RX9_284 (m_X3_requestAt l G E (F_X3_run (F_X3_gather σ (0 : Int32) (0 : Int32))) μ Y po) 10 g_10 rfl rfl rfl rfl (Nat.le_of_ble_eq_true rfl) ⟨Nat.le_of_ble_eq_true rfl, Nat.le_of_ble_eq_true rfl⟩ ⟨rfl, rfl⟩ ⟨Nat.le_of_ble_eq_true rfl, Nat.le_of_ble_eq_true rfl⟩ dX9_bestRequest_77 ?_
      have e1 : F_X9_bestRequest σ po = (F_X3_requestAt (F_X3_run (F_X3_gather σ (0 : Int32) (0 : Int32))) po, (F_X3_run (F_X3_gather σ (0 : Int32) (0 : Int32)))) := by rw [F_X9_bestRequest, if_pos h1, if_neg h2]
      have e2 : X_X9_bestRequest σ po = 0 := by rw [X_X9_bestRequest, if_pos h1, if_neg h2]
      exact v_X (v_iret C () e2 (by rw [e1]) (by rw [e1]) (Nat.le_of_ble_eq_true rfl) (Nat.le_of_ble_eq_true rfl) dX9_bestRequest_80)
    · have e1 : F_X9_bestRequest σ po = (0, σ) := by rw [F_X9_bestRequest, if_pos h1, if_pos h2]
      have e2 : X_X9_bestRequest σ po = 3 := by rw [X_X9_bestRequest, if_pos h1, if_pos h2]
      exact v_throwSW C htab htr tx_3 (List.mem_of_getElem? (i := 23) rfl) (by show _ = _ ∧ _; rw [e2]; exact ⟨rfl, by decide⟩) (by first | with_reducible rfl | rw [e1]) dX9_bestRequest_24 dX9_bestRequest_27 dX9_bestRequest_28 dX9_bestRequest_31 dX9_bestRequest_34 ⟨Nat.le_of_ble_eq_true rfl, Nat.le_of_ble_eq_true rfl, Nat.le_of_ble_eq_true rfl, Nat.le_of_ble_eq_true rfl⟩ ⟨Nat.le_of_ble_eq_true rfl, Nat.le_of_ble_eq_true rfl⟩
def F_X9_canMeetDeadlines (σ : Sg) : Int32 × Sg := (if (X_X9_requireFewPending σ) = 0 then (F_X3_hasFound (F_X3_run (F_X3_gather σ (0 : Int32) (1 : Int32))), (F_X3_run (F_X3_gather σ (0 : Int32) (1 : Int32)))) else (0, σ))
def X_X9_canMeetDeadlines (σ : Sg) : Nat := (if (X_X9_requireFewPending σ) = 0 then 0 else (X_X9_requireFewPending σ))
theorem z01_X9_canMeetDeadlines (σ : Sg) : (F_X9_canMeetDeadlines σ).1 = 0 ∨ (F_X9_canMeetDeadlines σ).1 = 1 := by
  unfold F_X9_canMeetDeadlines; (repeat' split) <;> first | exact Or.inl rfl | exact z01_X3_hasFound _
abbrev rm_X9_canMeetDeadlines : Room := { frames := 142, cells := 2, slots := 12, locals := 5646 }
set_option maxRecDepth 100000 in
set_option maxHeartbeats 4000000 in
theorem m_X9_canMeetDeadlines (l : Launch) (G : GG) (E : EE) (σ μ : Sg) (Y : va_W) (htr : l.stackTraces = false) (hK : CNT E σ) : KX (S := Unit) l G yX9_canMeetDeadlines cX9_canMeetDeadlines 1 (some .boolean) rm_X9_canMeetDeadlines [.ref (E.1 0)] (Wd G E σ μ Y) (fun _ => (some (.int (F_X9_canMeetDeadlines σ).1))) (fun _ => (Wd G E (F_X9_canMeetDeadlines σ).2 μ Y)) (fun _ => X_X9_canMeetDeadlines σ = 0) (Wd G E (F_X9_canMeetDeadlines σ).2 μ Y) (fun Ex => Ex = exn (X_X9_canMeetDeadlines σ) ∧ ¬ X_X9_canMeetDeadlines σ = 0) := by
  refine KX.of (by decide) (Nat.le_of_ble_eq_true rfl) ?_
  intro zp ze zs zm za zb zt zc zA C htab
  let Q := vx_MQ zb (QcW (S := Unit) G zA (fun _ => (some (.int (F_X9_canMeetDeadlines σ).1))) (fun _ => (Wd G E (F_X9_canMeetDeadlines σ).2 μ Y)) (fun _ => X_X9_canMeetDeadlines σ = 0)) (XcW G zA (Wd G E (F_X9_canMeetDeadlines σ).2 μ Y) (fun Ex => Ex = exn (X_X9_canMeetDeadlines σ) ∧ ¬ X_X9_canMeetDeadlines σ = 0)) za zs rm_X9_canMeetDeadlines.cells rm_X9_canMeetDeadlines.slots zA
  show V zp l ze rm_X9_canMeetDeadlines zs zm za zb zt zc 1 G zA 0 0 Q 0 [(0, .ref (E.1 0))] [] (Wd G E σ μ Y)
  refine v_aload_n C 0 rfl dX9_canMeetDeadlines_0 ?_
  refine v_callVX (rest := []) C htab mv_RX9_269 (m_X9_requireFewPending l G E σ μ Y htr) (fun Ex hE => ?_) 0 g_0 rfl rfl rfl rfl (Nat.le_of_ble_eq_true rfl) ⟨Nat.le_of_ble_eq_true rfl, Nat.le_of_ble_eq_true rfl⟩ ⟨Nat.le_of_ble_eq_true rfl, Nat.le_of_ble_eq_true rfl⟩ ⟨Nat.le_of_ble_eq_true rfl, Nat.le_of_ble_eq_true rfl⟩ dX9_canMeetDeadlines_1 (fun _ h1 => ?_)
  · have e1 : F_X9_canMeetDeadlines σ = (0, σ) := by rw [F_X9_canMeetDeadlines, if_neg hE.2]
    have e2 : X_X9_canMeetDeadlines σ = X_X9_requireFewPending σ := by rw [X_X9_canMeetDeadlines, if_neg hE.2]
    exact ⟨(by show _ = _ ∧ _; rw [e2]; exact hE), (by first | with_reducible rfl | rw [e1])⟩
  · refine v_aload_n C 0 rfl dX9_canMeetDeadlines_4 ?_
    refine v_get (v := .ref (E.1 10)) C fl_RX9_19 0 g_0 rfl dX9_canMeetDeadlines_5 ?_
    refine v_aload_n C 0 rfl dX9_canMeetDeadlines_8 ?_
    refine v_get (v := .ref (E.1 1)) C fl_RX9_10 0 g_0 rfl dX9_canMeetDeadlines_9 ?_
    refine v_get (v := .ref (E.1 5)) C fl_RX9_219 1 g_1 rfl dX9_canMeetDeadlines_12 ?_
    refine v_aload_n C 0 rfl dX9_canMeetDeadlines_15 ?_
    refine v_get (v := .ref (E.1 1)) C fl_RX9_10 0 g_0 rfl dX9_canMeetDeadlines_16 ?_
    refine v_get (v := .ref (E.1 2)) C fl_RX9_41 1 g_1 rfl dX9_canMeetDeadlines_19 ?_
    refine v_iconst (v := (0 : Int32)) C (by decide) dX9_canMeetDeadlines_22 ?_
    refine v_iconst (v := (1 : Int32)) C (by decide) dX9_canMeetDeadlines_23 ?_
    refine v_cV0 (rest := []) C mv_RX9_272 (m_X3_gather l G E σ μ Y (0 : Int32) (1 : Int32) (by assumption)) 10 g_10 rfl rfl rfl rfl (Nat.le_of_ble_eq_true rfl) ⟨Nat.le_of_ble_eq_true rfl, Nat.le_of_ble_eq_true rfl⟩ ⟨rfl, rfl⟩ ⟨Nat.le_of_ble_eq_true rfl, Nat.le_of_ble_eq_true rfl⟩ dX9_canMeetDeadlines_24 ?_
    refine v_aload_n C 0 rfl dX9_canMeetDeadlines_27 ?_
    refine v_get (v := .ref (E.1 10)) C fl_RX9_19 0 g_0 rfl dX9_canMeetDeadlines_28 ?_
    refine v_aload_n C 0 rfl dX9_canMeetDeadlines_31 ?_
    refine v_get (v := .ref (E.1 1)) C fl_RX9_10 0 g_0 rfl dX9_canMeetDeadlines_32 ?_
    refine v_get (v := .ref (E.1 2)) C fl_RX9_41 1 g_1 rfl dX9_canMeetDeadlines_35 ?_
    refine v_cV0 (rest := []) C mv_RX9_276 (m_X3_run l G E (F_X3_gather σ (0 : Int32) (1 : Int32)) μ Y) 10 g_10 rfl rfl rfl rfl (Nat.le_of_ble_eq_true rfl) ⟨Nat.le_of_ble_eq_true rfl, Nat.le_of_ble_eq_true rfl⟩ ⟨rfl, rfl⟩ ⟨Nat.le_of_ble_eq_true rfl, Nat.le_of_ble_eq_true rfl⟩ dX9_canMeetDeadlines_38 ?_
    refine v_aload_n C 0 rfl dX9_canMeetDeadlines_41 ?_
    refine v_get (v := .ref (E.1 10)) C fl_RX9_19 0 g_0 rfl dX9_canMeetDeadlines_42 ?_
    refine v_cV1 (rest := []) C mv_RX9_287 (m_X3_hasFound l G E (F_X3_run (F_X3_gather σ (0 : Int32) (1 : Int32))) μ Y) 10 g_10 rfl rfl rfl rfl (Nat.le_of_ble_eq_true rfl) ⟨Nat.le_of_ble_eq_true rfl, Nat.le_of_ble_eq_true rfl⟩ ⟨rfl, rfl⟩ ⟨Nat.le_of_ble_eq_true rfl, Nat.le_of_ble_eq_true rfl⟩ dX9_canMeetDeadlines_45 ?_
    have e1 : F_X9_canMeetDeadlines σ = (F_X3_hasFound (F_X3_run (F_X3_gather σ (0 : Int32) (1 : Int32))), (F_X3_run (F_X3_gather σ (0 : Int32) (1 : Int32)))) := by rw [F_X9_canMeetDeadlines, if_pos h1]
    have e2 : X_X9_canMeetDeadlines σ = 0 := by rw [X_X9_canMeetDeadlines, if_pos h1]
    exact v_X (v_zret C (nbz (z01_X3_hasFound (F_X3_run (F_X3_gather σ (0 : Int32) (1 : Int32))))) () e2 (by rw [e1]) (by rw [e1]) (Nat.le_of_ble_eq_true rfl) (Nat.le_of_ble_eq_true rfl) dX9_canMeetDeadlines_48)
def F_X9_flush (σ : Sg) : Int32 × Sg := (if (X_X9_requireTimeToAccess σ) = 0 then (((F_X0_writeAll σ) 2 4) - (σ 2 4), (F_X0_writeAll σ)) else (0, σ))
def X_X9_flush (σ : Sg) : Nat := (if (X_X9_requireTimeToAccess σ) = 0 then 0 else (X_X9_requireTimeToAccess σ))
abbrev rm_X9_flush : Room := { frames := 7, cells := 2, slots := 12, locals := 140 }
set_option maxRecDepth 100000 in
set_option maxHeartbeats 4000000 in
theorem m_X9_flush (l : Launch) (G : GG) (E : EE) (σ μ : Sg) (Y : va_W) (htr : l.stackTraces = false) : KX (S := Unit) l G yX9_flush cX9_flush 2 (some .int) rm_X9_flush [.ref (E.1 0)] (Wd G E σ μ Y) (fun _ => (some (.int (F_X9_flush σ).1))) (fun _ => (Wd G E (F_X9_flush σ).2 μ Y)) (fun _ => X_X9_flush σ = 0) (Wd G E (F_X9_flush σ).2 μ Y) (fun Ex => Ex = exn (X_X9_flush σ) ∧ ¬ X_X9_flush σ = 0) := by
  refine KX.of (by decide) (Nat.le_of_ble_eq_true rfl) ?_
  intro zp ze zs zm za zb zt zc zA C htab
  let Q := vx_MQ zb (QcW (S := Unit) G zA (fun _ => (some (.int (F_X9_flush σ).1))) (fun _ => (Wd G E (F_X9_flush σ).2 μ Y)) (fun _ => X_X9_flush σ = 0)) (XcW G zA (Wd G E (F_X9_flush σ).2 μ Y) (fun Ex => Ex = exn (X_X9_flush σ) ∧ ¬ X_X9_flush σ = 0)) za zs rm_X9_flush.cells rm_X9_flush.slots zA
  show V zp l ze rm_X9_flush zs zm za zb zt zc 2 G zA 0 0 Q 0 [(0, .ref (E.1 0))] [] (Wd G E σ μ Y)
  refine v_aload_n C 0 rfl dX9_flush_0 ?_
  refine v_callVX (rest := []) C htab mv_RX9_241 (m_X9_requireTimeToAccess l G E σ μ Y htr) (fun Ex hE => ?_) 0 g_0 rfl rfl rfl rfl (Nat.le_of_ble_eq_true rfl) ⟨Nat.le_of_ble_eq_true rfl, Nat.le_of_ble_eq_true rfl⟩ ⟨Nat.le_of_ble_eq_true rfl, Nat.le_of_ble_eq_true rfl⟩ ⟨Nat.le_of_ble_eq_true rfl, Nat.le_of_ble_eq_true rfl⟩ dX9_flush_1 (fun _ h1 => ?_)
  · have e1 : F_X9_flush σ = (0, σ) := by rw [F_X9_flush, if_neg hE.2]
    have e2 : X_X9_flush σ = X_X9_requireTimeToAccess σ := by rw [X_X9_flush, if_neg hE.2]
    exact ⟨(by show _ = _ ∧ _; rw [e2]; exact hE), (by first | with_reducible rfl | rw [e1])⟩
  · refine v_aload_n C 0 rfl dX9_flush_4 ?_
    refine v_get (v := .ref (E.1 1)) C fl_RX9_10 0 g_0 rfl dX9_flush_5 ?_
    refine v_get (v := .ref (E.1 2)) C fl_RX9_41 1 g_1 rfl dX9_flush_8 ?_
    refine v_get (v := .int (σ 2 4)) C fl_RX9_146 2 g_2 rfl dX9_flush_11 ?_
    refine v_istore_n (lv' := [(1, .int (σ 2 4)), (0, .ref (E.1 0))]) C (Nat.le_of_ble_eq_true rfl) rfl dX9_flush_14 ?_
    refine v_aload_n C 1 rfl dX9_flush_15 ?_
    refine v_get (v := .ref (E.1 1)) C fl_RX9_10 0 g_0 rfl dX9_flush_16 ?_
    refine v_get (v := .ref (E.1 8)) C fl_RX9_81 1 g_1 rfl dX9_flush_19 ?_
    refine v_aload_n C 1 rfl dX9_flush_22 ?_
    refine v_get (v := .ref (E.1 1)) C fl_RX9_10 0 g_0 rfl dX9_flush_23 ?_
    refine v_get (v := .ref (E.1 2)) C fl_RX9_41 1 g_1 rfl dX9_flush_26 ?_
    refine v_cV0 (rest := []) C mv_RX9_248 (m_X0_writeAll l G E σ μ Y) 8 g_8 rfl rfl rfl rfl (Nat.le_of_ble_eq_true rfl) ⟨Nat.le_of_ble_eq_true rfl, Nat.le_of_ble_eq_true rfl⟩ ⟨rfl, rfl⟩ ⟨Nat.le_of_ble_eq_true rfl, Nat.le_of_ble_eq_true rfl⟩ dX9_flush_29 ?_
    refine v_aload_n C 1 rfl dX9_flush_32 ?_
    refine v_get (v := .ref (E.1 1)) C fl_RX9_10 0 g_0 rfl dX9_flush_33 ?_
    refine v_get (v := .ref (E.1 2)) C fl_RX9_41 1 g_1 rfl dX9_flush_36 ?_
    refine v_get (v := .int ((F_X0_writeAll σ) 2 4)) C fl_RX9_146 2 g_2 rfl dX9_flush_39 ?_
    refine v_iload_n C 0 rfl dX9_flush_42 ?_
    refine v_isub C dX9_flush_43 ?_
    have e1 : F_X9_flush σ = (((F_X0_writeAll σ) 2 4) - (σ 2 4), (F_X0_writeAll σ)) := by rw [F_X9_flush, if_pos h1]
    have e2 : X_X9_flush σ = 0 := by rw [X_X9_flush, if_pos h1]
    exact v_X (v_iret C () e2 (by rw [e1]) (by rw [e1]) (Nat.le_of_ble_eq_true rfl) (Nat.le_of_ble_eq_true rfl) dX9_flush_44)
