def hcd (ks : List Nat) (X : Nat) : Int32 := if X = 0 then 0 else nI (ks.idxOf X + 1)
theorem xr_requireBlock (b : Int32) : X_X9_requireBlock b = 0 ∨ X_X9_requireBlock b = 3 := by unfold X_X9_requireBlock; (repeat' split) <;> first | exact Or.inl rfl | exact Or.inr rfl
theorem xr_requireFewPending (σ : Sg) : X_X9_requireFewPending σ = 0 ∨ X_X9_requireFewPending σ = 4 := by unfold X_X9_requireFewPending; (repeat' split) <;> first | exact Or.inl rfl | exact Or.inr rfl
theorem xr_requireTimeToAccess (σ : Sg) : X_X9_requireTimeToAccess σ = 0 ∨ X_X9_requireTimeToAccess σ = 2 := by unfold X_X9_requireTimeToAccess; (repeat' split) <;> first | exact Or.inl rfl | exact Or.inr rfl
theorem xr_setCurve (σ : Sg) (s : Int32) (r : Int32) (li : Int32) : X_X9_setCurve σ s r li = 0 ∨ X_X9_setCurve σ s r li = 1 := by
  unfold X_X9_setCurve
  (repeat' split) <;> first | decide | (rcases xr_requireBlock _ with h | h <;> rw [h] <;> decide) | (rcases xr_requireFewPending _ with h | h <;> rw [h] <;> decide) | (rcases xr_requireTimeToAccess _ with h | h <;> rw [h] <;> decide)
abbrev rm_L_setCurve : Room := { frames := 7, cells := 1, slots := 6, locals := 143 }
set_option maxRecDepth 100000 in
set_option maxHeartbeats 1000000 in
theorem m_L_setCurve (l : Launch) (G : GG) (E : EE) (σ μ : Sg) (Y : va_W) (htr : l.stackTraces = false) (s : Int32) (r : Int32) (li : Int32) : KH (S := Unit) l G yL_setCurve cL_setCurve 5 (some .int) [(0, 7, 10, 13)] rm_L_setCurve [.ref (E.1 0), .int s, .int r, .int li] (Wd G E σ μ Y) (fun _ => some (.int (hcd [1] (X_X9_setCurve σ s r li)))) (fun _ => Wd G E (F_X9_setCurve σ s r li) μ Y) (fun _ => True) := by
  refine KH.of (by decide) (Nat.le_of_ble_eq_true rfl) ?_
  intro zp ze zs zm za zb zt zc zA C htab
  generalize hQ : MQ zb _ za zs _ _ zA = Q
  show V zp l ze rm_L_setCurve zs zm za zb zt zc 5 G zA 0 0 Q 0 [(0, .ref (E.1 0)), (1, .int s), (2, .int r), (3, .int li)] [] (Wd G E σ μ Y)
  refine v_aload_n C 0 rfl dL_setCurve_0 ?_
  refine v_iload_n C 1 rfl dL_setCurve_1 ?_
  refine v_iload_n C 2 rfl dL_setCurve_2 ?_
  refine v_iload_n C 3 rfl dL_setCurve_3 ?_
  refine v_callVC (rest := []) C htab mv_RL_7 (m_X9_setCurve l G E σ μ Y htr s r li) 0 g_0 rfl rfl rfl rfl (Nat.le_of_ble_eq_true rfl) ⟨(Nat.le_of_ble_eq_true rfl), (Nat.le_of_ble_eq_true rfl)⟩ ⟨(Nat.le_of_ble_eq_true rfl), (Nat.le_of_ble_eq_true rfl)⟩ dL_setCurve_4 (fun Ex hE => ?_) (fun _ hX => ?_)
  · obtain ⟨hEx, hne⟩ := hE
    rcases xr_setCurve σ s r li with h | h
    · exact absurd h hne
    · rw [hEx, h]
      refine ⟨10, ⟨tableOf [], _, tableOf [], rfl, (fun z hz => absurd hz List.not_mem_nil), by decide, by decide, w_433, List.mem_of_getElem? (i := 0) rfl, rfl⟩, fun q => ?_⟩
      refine v_astore (lv' := [(4, .ref q), (0, .ref (E.1 0)), (1, .int s), (2, .int r), (3, .int li)]) C (Nat.le_of_ble_eq_true rfl) rfl dL_setCurve_10 ?_
      refine v_iconst (v := (1 : Int32)) C (by decide) dL_setCurve_12 ?_
      exact v_Q hQ (v_iret C () trivial (by rw [h]; rfl) (by rfl) (Nat.le_of_ble_eq_true rfl) (Nat.le_of_ble_eq_true rfl) dL_setCurve_13)
  · refine v_goto (tgt := 14) C (by decide) dL_setCurve_7 ?_
    refine v_iconst (v := (0 : Int32)) C (by decide) dL_setCurve_14 ?_
    exact v_Q hQ (v_iret C () trivial (by rw [hX]; rfl) (by rfl) (Nat.le_of_ble_eq_true rfl) (Nat.le_of_ble_eq_true rfl) dL_setCurve_15)
theorem xr_setSkew (σ : Sg) (s : Int32) : X_X9_setSkew σ s = 0 ∨ X_X9_setSkew σ s = 1 := by
  unfold X_X9_setSkew
  (repeat' split) <;> first | decide | (rcases xr_requireBlock _ with h | h <;> rw [h] <;> decide) | (rcases xr_requireFewPending _ with h | h <;> rw [h] <;> decide) | (rcases xr_requireTimeToAccess _ with h | h <;> rw [h] <;> decide)
abbrev rm_L_setSkew : Room := { frames := 7, cells := 1, slots := 6, locals := 142 }
set_option maxRecDepth 100000 in
set_option maxHeartbeats 1000000 in
theorem m_L_setSkew (l : Launch) (G : GG) (E : EE) (σ μ : Sg) (Y : va_W) (htr : l.stackTraces = false) (s : Int32) : KH (S := Unit) l G yL_setSkew cL_setSkew 4 (some .int) [(0, 9, 12, 13)] rm_L_setSkew [.ref (E.1 0), .int s, .ref (E.1 33)] (Wd G E σ μ Y) (fun _ => some (.int (hcd [1] (X_X9_setSkew σ s)))) (fun _ => Wd G (if X_X9_setSkew σ s = 0 then EO E ((F_X9_setSkew σ s).1).toInt64 else E) (F_X9_setSkew σ s).2 μ Y) (fun _ => True) := by
  refine KH.of (by decide) (Nat.le_of_ble_eq_true rfl) ?_
  intro zp ze zs zm za zb zt zc zA C htab
  generalize hQ : MQ zb _ za zs _ _ zA = Q
  show V zp l ze rm_L_setSkew zs zm za zb zt zc 4 G zA 0 0 Q 0 [(0, .ref (E.1 0)), (1, .int s), (2, .ref (E.1 33))] [] (Wd G E σ μ Y)
  refine v_aload_n C 2 rfl dL_setSkew_0 ?_
  refine v_iconst (v := (0 : Int32)) C (by decide) dL_setSkew_1 ?_
  refine v_aload_n C 0 rfl dL_setSkew_2 ?_
  refine v_iload_n C 1 rfl dL_setSkew_3 ?_
  refine v_callVC (rest := [.int (0 : Int32), .ref (E.1 33)]) C htab mv_RL_15 (m_X9_setSkew l G E σ μ Y htr s) 0 g_0 rfl rfl rfl rfl (Nat.le_of_ble_eq_true rfl) ⟨(Nat.le_of_ble_eq_true rfl), (Nat.le_of_ble_eq_true rfl)⟩ ⟨(Nat.le_of_ble_eq_true rfl), (Nat.le_of_ble_eq_true rfl)⟩ dL_setSkew_4 (fun Ex hE => ?_) (fun _ hX => ?_)
  · obtain ⟨hEx, hne⟩ := hE
    rcases xr_setSkew σ s with h | h
    · exact absurd h hne
    · rw [hEx, h]
      refine ⟨12, ⟨tableOf [], _, tableOf [], rfl, (fun z hz => absurd hz List.not_mem_nil), by decide, by decide, w_433, List.mem_of_getElem? (i := 0) rfl, rfl⟩, fun q => ?_⟩
      refine v_astore_n (lv' := [(3, .ref q), (0, .ref (E.1 0)), (1, .int s), (2, .ref (E.1 33))]) C (Nat.le_of_ble_eq_true rfl) rfl dL_setSkew_12 ?_
      refine v_iconst (v := (1 : Int32)) C (by decide) dL_setSkew_13 ?_
      exact v_Q hQ (v_iret C () trivial (by rw [h]; rfl) (by rw [if_neg hne]) (Nat.le_of_ble_eq_true rfl) (Nat.le_of_ble_eq_true rfl) dL_setSkew_14)
  · refine v_i2l C dL_setSkew_7 ?_
    refine v_out C dL_setSkew_8 ?_
    refine v_goto (tgt := 15) C (by decide) dL_setSkew_9 ?_
    refine v_iconst (v := (0 : Int32)) C (by decide) dL_setSkew_15 ?_
    exact v_Q hQ (v_iret C () trivial (by rw [hX]; rfl) (by rw [if_pos hX]) (Nat.le_of_ble_eq_true rfl) (Nat.le_of_ble_eq_true rfl) dL_setSkew_16)
theorem xr_setPolicy (σ : Sg) (po : Int32) : X_X9_setPolicy σ po = 0 ∨ X_X9_setPolicy σ po = 1 := by
  unfold X_X9_setPolicy
  (repeat' split) <;> first | decide | (rcases xr_requireBlock _ with h | h <;> rw [h] <;> decide) | (rcases xr_requireFewPending _ with h | h <;> rw [h] <;> decide) | (rcases xr_requireTimeToAccess _ with h | h <;> rw [h] <;> decide)
abbrev rm_L_setPolicy : Room := { frames := 7, cells := 1, slots := 6, locals := 142 }
set_option maxRecDepth 100000 in
set_option maxHeartbeats 1000000 in
theorem m_L_setPolicy (l : Launch) (G : GG) (E : EE) (σ μ : Sg) (Y : va_W) (htr : l.stackTraces = false) (po : Int32) : KH (S := Unit) l G yL_setPolicy cL_setPolicy 4 (some .int) [(0, 9, 12, 13)] rm_L_setPolicy [.ref (E.1 0), .int po, .ref (E.1 33)] (Wd G E σ μ Y) (fun _ => some (.int (hcd [1] (X_X9_setPolicy σ po)))) (fun _ => Wd G (if X_X9_setPolicy σ po = 0 then EO E ((F_X9_setPolicy σ po).1).toInt64 else E) (F_X9_setPolicy σ po).2 μ Y) (fun _ => True) := by
  refine KH.of (by decide) (Nat.le_of_ble_eq_true rfl) ?_
  intro zp ze zs zm za zb zt zc zA C htab
  generalize hQ : MQ zb _ za zs _ _ zA = Q
  show V zp l ze rm_L_setPolicy zs zm za zb zt zc 4 G zA 0 0 Q 0 [(0, .ref (E.1 0)), (1, .int po), (2, .ref (E.1 33))] [] (Wd G E σ μ Y)
  refine v_aload_n C 2 rfl dL_setPolicy_0 ?_
  refine v_iconst (v := (0 : Int32)) C (by decide) dL_setPolicy_1 ?_
  refine v_aload_n C 0 rfl dL_setPolicy_2 ?_
  refine v_iload_n C 1 rfl dL_setPolicy_3 ?_
  refine v_callVC (rest := [.int (0 : Int32), .ref (E.1 33)]) C htab mv_RL_19 (m_X9_setPolicy l G E σ μ Y htr po) 0 g_0 rfl rfl rfl rfl (Nat.le_of_ble_eq_true rfl) ⟨(Nat.le_of_ble_eq_true rfl), (Nat.le_of_ble_eq_true rfl)⟩ ⟨(Nat.le_of_ble_eq_true rfl), (Nat.le_of_ble_eq_true rfl)⟩ dL_setPolicy_4 (fun Ex hE => ?_) (fun _ hX => ?_)
  · obtain ⟨hEx, hne⟩ := hE
    rcases xr_setPolicy σ po with h | h
    · exact absurd h hne
    · rw [hEx, h]
      refine ⟨12, ⟨tableOf [], _, tableOf [], rfl, (fun z hz => absurd hz List.not_mem_nil), by decide, by decide, w_433, List.mem_of_getElem? (i := 0) rfl, rfl⟩, fun q => ?_⟩
      refine v_astore_n (lv' := [(3, .ref q), (0, .ref (E.1 0)), (1, .int po), (2, .ref (E.1 33))]) C (Nat.le_of_ble_eq_true rfl) rfl dL_setPolicy_12 ?_
      refine v_iconst (v := (1 : Int32)) C (by decide) dL_setPolicy_13 ?_
      exact v_Q hQ (v_iret C () trivial (by rw [h]; rfl) (by rw [if_neg hne]) (Nat.le_of_ble_eq_true rfl) (Nat.le_of_ble_eq_true rfl) dL_setPolicy_14)
  · refine v_i2l C dL_setPolicy_7 ?_
    refine v_out C dL_setPolicy_8 ?_
    refine v_goto (tgt := 15) C (by decide) dL_setPolicy_9 ?_
    refine v_iconst (v := (0 : Int32)) C (by decide) dL_setPolicy_15 ?_
    exact v_Q hQ (v_iret C () trivial (by rw [hX]; rfl) (by rw [if_pos hX]) (Nat.le_of_ble_eq_true rfl) (Nat.le_of_ble_eq_true rfl) dL_setPolicy_16)
theorem xr_setBuckets (σ : Sg) (wi : Int32) (ag : Int32) : X_X9_setBuckets σ wi ag = 0 ∨ X_X9_setBuckets σ wi ag = 1 := by
  unfold X_X9_setBuckets
  (repeat' split) <;> first | decide | (rcases xr_requireBlock _ with h | h <;> rw [h] <;> decide) | (rcases xr_requireFewPending _ with h | h <;> rw [h] <;> decide) | (rcases xr_requireTimeToAccess _ with h | h <;> rw [h] <;> decide)
abbrev rm_L_setBuckets : Room := { frames := 7, cells := 1, slots := 6, locals := 142 }
set_option maxRecDepth 100000 in
set_option maxHeartbeats 1000000 in
theorem m_L_setBuckets (l : Launch) (G : GG) (E : EE) (σ μ : Sg) (Y : va_W) (htr : l.stackTraces = false) (wi : Int32) (ag : Int32) : KH (S := Unit) l G yL_setBuckets cL_setBuckets 4 (some .int) [(0, 6, 9, 13)] rm_L_setBuckets [.ref (E.1 0), .int wi, .int ag] (Wd G E σ μ Y) (fun _ => some (.int (hcd [1] (X_X9_setBuckets σ wi ag)))) (fun _ => Wd G E (F_X9_setBuckets σ wi ag) μ Y) (fun _ => True) := by
  refine KH.of (by decide) (Nat.le_of_ble_eq_true rfl) ?_
  intro zp ze zs zm za zb zt zc zA C htab
  generalize hQ : MQ zb _ za zs _ _ zA = Q
  show V zp l ze rm_L_setBuckets zs zm za zb zt zc 4 G zA 0 0 Q 0 [(0, .ref (E.1 0)), (1, .int wi), (2, .int ag)] [] (Wd G E σ μ Y)
  refine v_aload_n C 0 rfl dL_setBuckets_0 ?_
  refine v_iload_n C 1 rfl dL_setBuckets_1 ?_
  refine v_iload_n C 2 rfl dL_setBuckets_2 ?_
  refine v_callVC (rest := []) C htab mv_RL_22 (m_X9_setBuckets l G E σ μ Y htr wi ag) 0 g_0 rfl rfl rfl rfl (Nat.le_of_ble_eq_true rfl) ⟨(Nat.le_of_ble_eq_true rfl), (Nat.le_of_ble_eq_true rfl)⟩ ⟨(Nat.le_of_ble_eq_true rfl), (Nat.le_of_ble_eq_true rfl)⟩ dL_setBuckets_3 (fun Ex hE => ?_) (fun _ hX => ?_)
  · obtain ⟨hEx, hne⟩ := hE
    rcases xr_setBuckets σ wi ag with h | h
    · exact absurd h hne
    · rw [hEx, h]
      refine ⟨9, ⟨tableOf [], _, tableOf [], rfl, (fun z hz => absurd hz List.not_mem_nil), by decide, by decide, w_433, List.mem_of_getElem? (i := 0) rfl, rfl⟩, fun q => ?_⟩
      refine v_astore_n (lv' := [(3, .ref q), (0, .ref (E.1 0)), (1, .int wi), (2, .int ag)]) C (Nat.le_of_ble_eq_true rfl) rfl dL_setBuckets_9 ?_
      refine v_iconst (v := (1 : Int32)) C (by decide) dL_setBuckets_10 ?_
      exact v_Q hQ (v_iret C () trivial (by rw [h]; rfl) (by rfl) (Nat.le_of_ble_eq_true rfl) (Nat.le_of_ble_eq_true rfl) dL_setBuckets_11)
  · refine v_goto (tgt := 12) C (by decide) dL_setBuckets_6 ?_
    refine v_iconst (v := (0 : Int32)) C (by decide) dL_setBuckets_12 ?_
    exact v_Q hQ (v_iret C () trivial (by rw [hX]; rfl) (by rfl) (Nat.le_of_ble_eq_true rfl) (Nat.le_of_ble_eq_true rfl) dL_setBuckets_13)
theorem xr_setWriteBack (σ : Sg) (on : Int32) : X_X9_setWriteBack σ on = 0 ∨ X_X9_setWriteBack σ on = 2 := by
  unfold X_X9_setWriteBack
  (repeat' split) <;> first | decide | (rcases xr_requireBlock _ with h | h <;> rw [h] <;> decide) | (rcases xr_requireFewPending _ with h | h <;> rw [h] <;> decide) | (rcases xr_requireTimeToAccess _ with h | h <;> rw [h] <;> decide)
abbrev rm_L_setWriteBack : Room := { frames := 7, cells := 1, slots := 6, locals := 142 }
set_option maxRecDepth 100000 in
set_option maxHeartbeats 1000000 in
theorem m_L_setWriteBack (l : Launch) (G : GG) (E : EE) (σ μ : Sg) (Y : va_W) (htr : l.stackTraces = false) (on : Int32) (ho : on = 0 ∨ on = 1) (hb : σ 8 0 = 0 ∨ σ 8 0 = 1) : KH (S := Unit) l G yL_setWriteBack cL_setWriteBack 4 (some .int) [(0, 16, 19, 30)] rm_L_setWriteBack [.ref (E.1 0), .int on, .ref (E.1 33)] (Wd G E σ μ Y) (fun _ => some (.int (hcd [2] (X_X9_setWriteBack σ on)))) (fun _ => Wd G (if X_X9_setWriteBack σ on = 0 then EO E (if ((F_X9_setWriteBack σ on).1) = 0 then (0 : Int64) else 1) else E) (F_X9_setWriteBack σ on).2 μ Y) (fun _ => True) := by
  refine KH.of (by decide) (Nat.le_of_ble_eq_true rfl) ?_
  intro zp ze zs zm za zb zt zc zA C htab
  generalize hQ : MQ zb _ za zs _ _ zA = Q
  show V zp l ze rm_L_setWriteBack zs zm za zb zt zc 4 G zA 0 0 Q 0 [(0, .ref (E.1 0)), (1, .int on), (2, .ref (E.1 33))] [] (Wd G E σ μ Y)
  refine v_aload_n C 2 rfl dL_setWriteBack_0 ?_
  refine v_iconst (v := (0 : Int32)) C (by decide) dL_setWriteBack_1 ?_
  refine v_aload_n C 0 rfl dL_setWriteBack_2 ?_
  refine v_iload_n C 1 rfl dL_setWriteBack_3 ?_
  refine v_callVC (rest := [.int (0 : Int32), .ref (E.1 33)]) C htab mv_RL_26 (m_X9_setWriteBack l G E σ μ Y htr on ho hb) 0 g_0 rfl rfl rfl rfl (Nat.le_of_ble_eq_true rfl) ⟨(Nat.le_of_ble_eq_true rfl), (Nat.le_of_ble_eq_true rfl)⟩ ⟨(Nat.le_of_ble_eq_true rfl), (Nat.le_of_ble_eq_true rfl)⟩ dL_setWriteBack_4 (fun Ex hE => ?_) (fun _ hX => ?_)
  · obtain ⟨hEx, hne⟩ := hE
    rcases xr_setWriteBack σ on with h | h
    · exact absurd h hne
    · rw [hEx, h]
      refine ⟨19, ⟨tableOf [], _, tableOf [], rfl, (fun z hz => absurd hz List.not_mem_nil), by decide, by decide, w_538, List.mem_of_getElem? (i := 1) rfl, rfl⟩, fun q => ?_⟩
      refine v_astore_n (lv' := [(3, .ref q), (0, .ref (E.1 0)), (1, .int on), (2, .ref (E.1 33))]) C (Nat.le_of_ble_eq_true rfl) rfl dL_setWriteBack_19 ?_
      refine v_iconst (v := (1 : Int32)) C (by decide) dL_setWriteBack_20 ?_
      exact v_Q hQ (v_iret C () trivial (by rw [h]; rfl) (by rw [if_neg hne]) (Nat.le_of_ble_eq_true rfl) (Nat.le_of_ble_eq_true rfl) dL_setWriteBack_21)
  · refine v_if_eq (tgt := 14) C (by decide) dL_setWriteBack_7 (fun hz => ?_) (fun hz => ?_)
    · refine v_lconst (v := (0 : Int64)) C (by decide) dL_setWriteBack_14 ?_
      refine v_out C dL_setWriteBack_15 ?_
      refine v_goto (tgt := 22) C (by decide) dL_setWriteBack_16 ?_
      refine v_iconst (v := (0 : Int32)) C (by decide) dL_setWriteBack_22 ?_
      exact v_Q hQ (v_iret C () trivial (by rw [hX]; rfl) (by rw [if_pos hX, if_pos hz]) (Nat.le_of_ble_eq_true rfl) (Nat.le_of_ble_eq_true rfl) dL_setWriteBack_23)
    · refine v_lconst (v := (1 : Int64)) C (by decide) dL_setWriteBack_10 ?_
      refine v_goto (tgt := 15) C (by decide) dL_setWriteBack_11 ?_
      refine v_out C dL_setWriteBack_15 ?_
      refine v_goto (tgt := 22) C (by decide) dL_setWriteBack_16 ?_
      refine v_iconst (v := (0 : Int32)) C (by decide) dL_setWriteBack_22 ?_
      exact v_Q hQ (v_iret C () trivial (by rw [hX]; rfl) (by rw [if_pos hX, if_neg hz]) (Nat.le_of_ble_eq_true rfl) (Nat.le_of_ble_eq_true rfl) dL_setWriteBack_23)
theorem xr_seekTime (σ : Sg) (fr : Int32) (to : Int32) : X_X9_seekTime σ fr to = 0 ∨ X_X9_seekTime σ fr to = 3 := by
  unfold X_X9_seekTime
  (repeat' split) <;> first | decide | (rcases xr_requireBlock _ with h | h <;> rw [h] <;> decide) | (rcases xr_requireFewPending _ with h | h <;> rw [h] <;> decide) | (rcases xr_requireTimeToAccess _ with h | h <;> rw [h] <;> decide)
abbrev rm_L_seekTime : Room := { frames := 7, cells := 1, slots := 6, locals := 142 }
set_option maxRecDepth 100000 in
set_option maxHeartbeats 1000000 in
theorem m_L_seekTime (l : Launch) (G : GG) (E : EE) (σ μ : Sg) (Y : va_W) (htr : l.stackTraces = false) (fr : Int32) (to : Int32) : KH (S := Unit) l G yL_seekTime cL_seekTime 5 (some .int) [(0, 10, 13, 36)] rm_L_seekTime [.ref (E.1 0), .int fr, .int to, .ref (E.1 33)] (Wd G E σ μ Y) (fun _ => some (.int (hcd [3] (X_X9_seekTime σ fr to)))) (fun _ => Wd G (if X_X9_seekTime σ fr to = 0 then EO E (F_X9_seekTime σ fr to).toInt64 else E) σ μ Y) (fun _ => True) := by
  refine KH.of (by decide) (Nat.le_of_ble_eq_true rfl) ?_
  intro zp ze zs zm za zb zt zc zA C htab
  generalize hQ : MQ zb _ za zs _ _ zA = Q
  show V zp l ze rm_L_seekTime zs zm za zb zt zc 5 G zA 0 0 Q 0 [(0, .ref (E.1 0)), (1, .int fr), (2, .int to), (3, .ref (E.1 33))] [] (Wd G E σ μ Y)
  refine v_aload_n C 3 rfl dL_seekTime_0 ?_
  refine v_iconst (v := (0 : Int32)) C (by decide) dL_seekTime_1 ?_
  refine v_aload_n C 0 rfl dL_seekTime_2 ?_
  refine v_iload_n C 1 rfl dL_seekTime_3 ?_
  refine v_iload_n C 2 rfl dL_seekTime_4 ?_
  refine v_callVC (rest := [.int (0 : Int32), .ref (E.1 33)]) C htab mv_RL_32 (m_X9_seekTime l G E σ μ Y htr fr to) 0 g_0 rfl rfl rfl rfl (Nat.le_of_ble_eq_true rfl) ⟨(Nat.le_of_ble_eq_true rfl), (Nat.le_of_ble_eq_true rfl)⟩ ⟨(Nat.le_of_ble_eq_true rfl), (Nat.le_of_ble_eq_true rfl)⟩ dL_seekTime_5 (fun Ex hE => ?_) (fun _ hX => ?_)
  · obtain ⟨hEx, hne⟩ := hE
    rcases xr_seekTime σ fr to with h | h
    · exact absurd h hne
    · rw [hEx, h]
      refine ⟨13, ⟨tableOf [], _, tableOf [], rfl, (fun z hz => absurd hz List.not_mem_nil), by decide, by decide, w_562, List.mem_of_getElem? (i := 2) rfl, rfl⟩, fun q => ?_⟩
      refine v_astore (lv' := [(4, .ref q), (0, .ref (E.1 0)), (1, .int fr), (2, .int to), (3, .ref (E.1 33))]) C (Nat.le_of_ble_eq_true rfl) rfl dL_seekTime_13 ?_
      refine v_iconst (v := (1 : Int32)) C (by decide) dL_seekTime_15 ?_
      exact v_Q hQ (v_iret C () trivial (by rw [h]; rfl) (by rw [if_neg hne]) (Nat.le_of_ble_eq_true rfl) (Nat.le_of_ble_eq_true rfl) dL_seekTime_16)
  · refine v_i2l C dL_seekTime_8 ?_
    refine v_out C dL_seekTime_9 ?_
    refine v_goto (tgt := 17) C (by decide) dL_seekTime_10 ?_
    refine v_iconst (v := (0 : Int32)) C (by decide) dL_seekTime_17 ?_
    exact v_Q hQ (v_iret C () trivial (by rw [hX]; rfl) (by rw [if_pos hX]) (Nat.le_of_ble_eq_true rfl) (Nat.le_of_ble_eq_true rfl) dL_seekTime_18)
theorem xr_placeOf (σ : Sg) (b : Int32) : X_X9_placeOf σ b = 0 ∨ X_X9_placeOf σ b = 3 := by
  unfold X_X9_placeOf
  (repeat' split) <;> first | decide | (rcases xr_requireBlock _ with h | h <;> rw [h] <;> decide) | (rcases xr_requireFewPending _ with h | h <;> rw [h] <;> decide) | (rcases xr_requireTimeToAccess _ with h | h <;> rw [h] <;> decide)
abbrev rm_L_placeOf : Room := { frames := 8, cells := 2, slots := 12, locals := 161 }
set_option maxRecDepth 100000 in
set_option maxHeartbeats 1000000 in
theorem m_L_placeOf (l : Launch) (G : GG) (E : EE) (σ μ : Sg) (Y : va_W) (htr : l.stackTraces = false) (b : Int32) : KH (S := Unit) l G yL_placeOf cL_placeOf 4 (some .int) [(0, 9, 12, 36)] rm_L_placeOf [.ref (E.1 0), .int b, .ref (E.1 33)] (Wd G E σ μ Y) (fun _ => some (.int (hcd [3] (X_X9_placeOf σ b)))) (fun _ => Wd G (if X_X9_placeOf σ b = 0 then EO E (F_X9_placeOf σ b).toInt64 else E) σ μ Y) (fun _ => True) := by
  refine KH.of (by decide) (Nat.le_of_ble_eq_true rfl) ?_
  intro zp ze zs zm za zb zt zc zA C htab
  generalize hQ : MQ zb _ za zs _ _ zA = Q
  show V zp l ze rm_L_placeOf zs zm za zb zt zc 4 G zA 0 0 Q 0 [(0, .ref (E.1 0)), (1, .int b), (2, .ref (E.1 33))] [] (Wd G E σ μ Y)
  refine v_aload_n C 2 rfl dL_placeOf_0 ?_
  refine v_iconst (v := (0 : Int32)) C (by decide) dL_placeOf_1 ?_
  refine v_aload_n C 0 rfl dL_placeOf_2 ?_
  refine v_iload_n C 1 rfl dL_placeOf_3 ?_
  refine v_callVC (rest := [.int (0 : Int32), .ref (E.1 33)]) C htab mv_RL_38 (m_X9_placeOf l G E σ μ Y htr b) 0 g_0 rfl rfl rfl rfl (Nat.le_of_ble_eq_true rfl) ⟨(Nat.le_of_ble_eq_true rfl), (Nat.le_of_ble_eq_true rfl)⟩ ⟨(Nat.le_of_ble_eq_true rfl), (Nat.le_of_ble_eq_true rfl)⟩ dL_placeOf_4 (fun Ex hE => ?_) (fun _ hX => ?_)
  · obtain ⟨hEx, hne⟩ := hE
    rcases xr_placeOf σ b with h | h
    · exact absurd h hne
    · rw [hEx, h]
      refine ⟨12, ⟨tableOf [], _, tableOf [], rfl, (fun z hz => absurd hz List.not_mem_nil), by decide, by decide, w_562, List.mem_of_getElem? (i := 2) rfl, rfl⟩, fun q => ?_⟩
      refine v_astore_n (lv' := [(3, .ref q), (0, .ref (E.1 0)), (1, .int b), (2, .ref (E.1 33))]) C (Nat.le_of_ble_eq_true rfl) rfl dL_placeOf_12 ?_
      refine v_iconst (v := (1 : Int32)) C (by decide) dL_placeOf_13 ?_
      exact v_Q hQ (v_iret C () trivial (by rw [h]; rfl) (by rw [if_neg hne]) (Nat.le_of_ble_eq_true rfl) (Nat.le_of_ble_eq_true rfl) dL_placeOf_14)
  · refine v_i2l C dL_placeOf_7 ?_
    refine v_out C dL_placeOf_8 ?_
    refine v_goto (tgt := 15) C (by decide) dL_placeOf_9 ?_
    refine v_iconst (v := (0 : Int32)) C (by decide) dL_placeOf_15 ?_
    exact v_Q hQ (v_iret C () trivial (by rw [hX]; rfl) (by rw [if_pos hX]) (Nat.le_of_ble_eq_true rfl) (Nat.le_of_ble_eq_true rfl) dL_placeOf_16)
theorem xr_cylinderOf (σ : Sg) (b : Int32) : X_X9_cylinderOf σ b = 0 ∨ X_X9_cylinderOf σ b = 3 := by
  unfold X_X9_cylinderOf
  (repeat' split) <;> first | decide | (rcases xr_requireBlock _ with h | h <;> rw [h] <;> decide) | (rcases xr_requireFewPending _ with h | h <;> rw [h] <;> decide) | (rcases xr_requireTimeToAccess _ with h | h <;> rw [h] <;> decide)
abbrev rm_L_cylinderOf : Room := { frames := 8, cells := 2, slots := 12, locals := 161 }
set_option maxRecDepth 100000 in
set_option maxHeartbeats 1000000 in
theorem m_L_cylinderOf (l : Launch) (G : GG) (E : EE) (σ μ : Sg) (Y : va_W) (htr : l.stackTraces = false) (b : Int32) : KH (S := Unit) l G yL_cylinderOf cL_cylinderOf 4 (some .int) [(0, 9, 12, 36)] rm_L_cylinderOf [.ref (E.1 0), .int b, .ref (E.1 33)] (Wd G E σ μ Y) (fun _ => some (.int (hcd [3] (X_X9_cylinderOf σ b)))) (fun _ => Wd G (if X_X9_cylinderOf σ b = 0 then EO E (F_X9_cylinderOf σ b).toInt64 else E) σ μ Y) (fun _ => True) := by
  refine KH.of (by decide) (Nat.le_of_ble_eq_true rfl) ?_
  intro zp ze zs zm za zb zt zc zA C htab
  generalize hQ : MQ zb _ za zs _ _ zA = Q
  show V zp l ze rm_L_cylinderOf zs zm za zb zt zc 4 G zA 0 0 Q 0 [(0, .ref (E.1 0)), (1, .int b), (2, .ref (E.1 33))] [] (Wd G E σ μ Y)
  refine v_aload_n C 2 rfl dL_cylinderOf_0 ?_
  refine v_iconst (v := (0 : Int32)) C (by decide) dL_cylinderOf_1 ?_
  refine v_aload_n C 0 rfl dL_cylinderOf_2 ?_
  refine v_iload_n C 1 rfl dL_cylinderOf_3 ?_
  refine v_callVC (rest := [.int (0 : Int32), .ref (E.1 33)]) C htab mv_RL_41 (m_X9_cylinderOf l G E σ μ Y htr b) 0 g_0 rfl rfl rfl rfl (Nat.le_of_ble_eq_true rfl) ⟨(Nat.le_of_ble_eq_true rfl), (Nat.le_of_ble_eq_true rfl)⟩ ⟨(Nat.le_of_ble_eq_true rfl), (Nat.le_of_ble_eq_true rfl)⟩ dL_cylinderOf_4 (fun Ex hE => ?_) (fun _ hX => ?_)
  · obtain ⟨hEx, hne⟩ := hE
    rcases xr_cylinderOf σ b with h | h
    · exact absurd h hne
    · rw [hEx, h]
      refine ⟨12, ⟨tableOf [], _, tableOf [], rfl, (fun z hz => absurd hz List.not_mem_nil), by decide, by decide, w_562, List.mem_of_getElem? (i := 2) rfl, rfl⟩, fun q => ?_⟩
      refine v_astore_n (lv' := [(3, .ref q), (0, .ref (E.1 0)), (1, .int b), (2, .ref (E.1 33))]) C (Nat.le_of_ble_eq_true rfl) rfl dL_cylinderOf_12 ?_
      refine v_iconst (v := (1 : Int32)) C (by decide) dL_cylinderOf_13 ?_
      exact v_Q hQ (v_iret C () trivial (by rw [h]; rfl) (by rw [if_neg hne]) (Nat.le_of_ble_eq_true rfl) (Nat.le_of_ble_eq_true rfl) dL_cylinderOf_14)
  · refine v_i2l C dL_cylinderOf_7 ?_
    refine v_out C dL_cylinderOf_8 ?_
    refine v_goto (tgt := 15) C (by decide) dL_cylinderOf_9 ?_
    refine v_iconst (v := (0 : Int32)) C (by decide) dL_cylinderOf_15 ?_
    exact v_Q hQ (v_iret C () trivial (by rw [hX]; rfl) (by rw [if_pos hX]) (Nat.le_of_ble_eq_true rfl) (Nat.le_of_ble_eq_true rfl) dL_cylinderOf_16)
theorem xr_sectorOf (σ : Sg) (b : Int32) : X_X9_sectorOf σ b = 0 ∨ X_X9_sectorOf σ b = 3 := by
  unfold X_X9_sectorOf
  (repeat' split) <;> first | decide | (rcases xr_requireBlock _ with h | h <;> rw [h] <;> decide) | (rcases xr_requireFewPending _ with h | h <;> rw [h] <;> decide) | (rcases xr_requireTimeToAccess _ with h | h <;> rw [h] <;> decide)
abbrev rm_L_sectorOf : Room := { frames := 8, cells := 2, slots := 12, locals := 161 }
set_option maxRecDepth 100000 in
set_option maxHeartbeats 1000000 in
theorem m_L_sectorOf (l : Launch) (G : GG) (E : EE) (σ μ : Sg) (Y : va_W) (htr : l.stackTraces = false) (b : Int32) : KH (S := Unit) l G yL_sectorOf cL_sectorOf 4 (some .int) [(0, 9, 12, 36)] rm_L_sectorOf [.ref (E.1 0), .int b, .ref (E.1 33)] (Wd G E σ μ Y) (fun _ => some (.int (hcd [3] (X_X9_sectorOf σ b)))) (fun _ => Wd G (if X_X9_sectorOf σ b = 0 then EO E (F_X9_sectorOf σ b).toInt64 else E) σ μ Y) (fun _ => True) := by
  refine KH.of (by decide) (Nat.le_of_ble_eq_true rfl) ?_
  intro zp ze zs zm za zb zt zc zA C htab
  generalize hQ : MQ zb _ za zs _ _ zA = Q
  show V zp l ze rm_L_sectorOf zs zm za zb zt zc 4 G zA 0 0 Q 0 [(0, .ref (E.1 0)), (1, .int b), (2, .ref (E.1 33))] [] (Wd G E σ μ Y)
  refine v_aload_n C 2 rfl dL_sectorOf_0 ?_
  refine v_iconst (v := (0 : Int32)) C (by decide) dL_sectorOf_1 ?_
  refine v_aload_n C 0 rfl dL_sectorOf_2 ?_
  refine v_iload_n C 1 rfl dL_sectorOf_3 ?_
  refine v_callVC (rest := [.int (0 : Int32), .ref (E.1 33)]) C htab mv_RL_44 (m_X9_sectorOf l G E σ μ Y htr b) 0 g_0 rfl rfl rfl rfl (Nat.le_of_ble_eq_true rfl) ⟨(Nat.le_of_ble_eq_true rfl), (Nat.le_of_ble_eq_true rfl)⟩ ⟨(Nat.le_of_ble_eq_true rfl), (Nat.le_of_ble_eq_true rfl)⟩ dL_sectorOf_4 (fun Ex hE => ?_) (fun _ hX => ?_)
  · obtain ⟨hEx, hne⟩ := hE
    rcases xr_sectorOf σ b with h | h
    · exact absurd h hne
    · rw [hEx, h]
      refine ⟨12, ⟨tableOf [], _, tableOf [], rfl, (fun z hz => absurd hz List.not_mem_nil), by decide, by decide, w_562, List.mem_of_getElem? (i := 2) rfl, rfl⟩, fun q => ?_⟩
      refine v_astore_n (lv' := [(3, .ref q), (0, .ref (E.1 0)), (1, .int b), (2, .ref (E.1 33))]) C (Nat.le_of_ble_eq_true rfl) rfl dL_sectorOf_12 ?_
      refine v_iconst (v := (1 : Int32)) C (by decide) dL_sectorOf_13 ?_
      exact v_Q hQ (v_iret C () trivial (by rw [h]; rfl) (by rw [if_neg hne]) (Nat.le_of_ble_eq_true rfl) (Nat.le_of_ble_eq_true rfl) dL_sectorOf_14)
  · refine v_i2l C dL_sectorOf_7 ?_
    refine v_out C dL_sectorOf_8 ?_
    refine v_goto (tgt := 15) C (by decide) dL_sectorOf_9 ?_
    refine v_iconst (v := (0 : Int32)) C (by decide) dL_sectorOf_15 ?_
    exact v_Q hQ (v_iret C () trivial (by rw [hX]; rfl) (by rw [if_pos hX]) (Nat.le_of_ble_eq_true rfl) (Nat.le_of_ble_eq_true rfl) dL_sectorOf_16)
theorem xr_startAngle (σ : Sg) (b : Int32) : X_X9_startAngle σ b = 0 ∨ X_X9_startAngle σ b = 3 := by
  unfold X_X9_startAngle
  (repeat' split) <;> first | decide | (rcases xr_requireBlock _ with h | h <;> rw [h] <;> decide) | (rcases xr_requireFewPending _ with h | h <;> rw [h] <;> decide) | (rcases xr_requireTimeToAccess _ with h | h <;> rw [h] <;> decide)
abbrev rm_L_startAngle : Room := { frames := 8, cells := 2, slots := 12, locals := 161 }
set_option maxRecDepth 100000 in
set_option maxHeartbeats 1000000 in
theorem m_L_startAngle (l : Launch) (G : GG) (E : EE) (σ μ : Sg) (Y : va_W) (htr : l.stackTraces = false) (b : Int32) : KH (S := Unit) l G yL_startAngle cL_startAngle 4 (some .int) [(0, 9, 12, 36)] rm_L_startAngle [.ref (E.1 0), .int b, .ref (E.1 33)] (Wd G E σ μ Y) (fun _ => some (.int (hcd [3] (X_X9_startAngle σ b)))) (fun _ => Wd G (if X_X9_startAngle σ b = 0 then EO E (F_X9_startAngle σ b).toInt64 else E) σ μ Y) (fun _ => True) := by
  refine KH.of (by decide) (Nat.le_of_ble_eq_true rfl) ?_
  intro zp ze zs zm za zb zt zc zA C htab
  generalize hQ : MQ zb _ za zs _ _ zA = Q
  show V zp l ze rm_L_startAngle zs zm za zb zt zc 4 G zA 0 0 Q 0 [(0, .ref (E.1 0)), (1, .int b), (2, .ref (E.1 33))] [] (Wd G E σ μ Y)
  refine v_aload_n C 2 rfl dL_startAngle_0 ?_
  refine v_iconst (v := (0 : Int32)) C (by decide) dL_startAngle_1 ?_
  refine v_aload_n C 0 rfl dL_startAngle_2 ?_
  refine v_iload_n C 1 rfl dL_startAngle_3 ?_
  refine v_callVC (rest := [.int (0 : Int32), .ref (E.1 33)]) C htab mv_RL_47 (m_X9_startAngle l G E σ μ Y htr b) 0 g_0 rfl rfl rfl rfl (Nat.le_of_ble_eq_true rfl) ⟨(Nat.le_of_ble_eq_true rfl), (Nat.le_of_ble_eq_true rfl)⟩ ⟨(Nat.le_of_ble_eq_true rfl), (Nat.le_of_ble_eq_true rfl)⟩ dL_startAngle_4 (fun Ex hE => ?_) (fun _ hX => ?_)
  · obtain ⟨hEx, hne⟩ := hE
    rcases xr_startAngle σ b with h | h
    · exact absurd h hne
    · rw [hEx, h]
      refine ⟨12, ⟨tableOf [], _, tableOf [], rfl, (fun z hz => absurd hz List.not_mem_nil), by decide, by decide, w_562, List.mem_of_getElem? (i := 2) rfl, rfl⟩, fun q => ?_⟩
      refine v_astore_n (lv' := [(3, .ref q), (0, .ref (E.1 0)), (1, .int b), (2, .ref (E.1 33))]) C (Nat.le_of_ble_eq_true rfl) rfl dL_startAngle_12 ?_
      refine v_iconst (v := (1 : Int32)) C (by decide) dL_startAngle_13 ?_
      exact v_Q hQ (v_iret C () trivial (by rw [h]; rfl) (by rw [if_neg hne]) (Nat.le_of_ble_eq_true rfl) (Nat.le_of_ble_eq_true rfl) dL_startAngle_14)
  · refine v_i2l C dL_startAngle_7 ?_
    refine v_out C dL_startAngle_8 ?_
    refine v_goto (tgt := 15) C (by decide) dL_startAngle_9 ?_
    refine v_iconst (v := (0 : Int32)) C (by decide) dL_startAngle_15 ?_
    exact v_Q hQ (v_iret C () trivial (by rw [hX]; rfl) (by rw [if_pos hX]) (Nat.le_of_ble_eq_true rfl) (Nat.le_of_ble_eq_true rfl) dL_startAngle_16)
theorem xr_accessTime (σ : Sg) (b : Int32) : X_X9_accessTime σ b = 0 ∨ X_X9_accessTime σ b = 3 := by
  unfold X_X9_accessTime
  (repeat' split) <;> first | decide | (rcases xr_requireBlock _ with h | h <;> rw [h] <;> decide) | (rcases xr_requireFewPending _ with h | h <;> rw [h] <;> decide) | (rcases xr_requireTimeToAccess _ with h | h <;> rw [h] <;> decide)
abbrev rm_L_accessTime : Room := { frames := 8, cells := 2, slots := 12, locals := 161 }
set_option maxRecDepth 100000 in
set_option maxHeartbeats 1000000 in
theorem m_L_accessTime (l : Launch) (G : GG) (E : EE) (σ μ : Sg) (Y : va_W) (htr : l.stackTraces = false) (b : Int32) : KH (S := Unit) l G yL_accessTime cL_accessTime 4 (some .int) [(0, 9, 12, 36)] rm_L_accessTime [.ref (E.1 0), .int b, .ref (E.1 33)] (Wd G E σ μ Y) (fun _ => some (.int (hcd [3] (X_X9_accessTime σ b)))) (fun _ => Wd G (if X_X9_accessTime σ b = 0 then EO E (F_X9_accessTime σ b).toInt64 else E) σ μ Y) (fun _ => True) := by
  refine KH.of (by decide) (Nat.le_of_ble_eq_true rfl) ?_
  intro zp ze zs zm za zb zt zc zA C htab
  generalize hQ : MQ zb _ za zs _ _ zA = Q
  show V zp l ze rm_L_accessTime zs zm za zb zt zc 4 G zA 0 0 Q 0 [(0, .ref (E.1 0)), (1, .int b), (2, .ref (E.1 33))] [] (Wd G E σ μ Y)
  refine v_aload_n C 2 rfl dL_accessTime_0 ?_
  refine v_iconst (v := (0 : Int32)) C (by decide) dL_accessTime_1 ?_
  refine v_aload_n C 0 rfl dL_accessTime_2 ?_
  refine v_iload_n C 1 rfl dL_accessTime_3 ?_
  refine v_callVC (rest := [.int (0 : Int32), .ref (E.1 33)]) C htab mv_RL_50 (m_X9_accessTime l G E σ μ Y htr b) 0 g_0 rfl rfl rfl rfl (Nat.le_of_ble_eq_true rfl) ⟨(Nat.le_of_ble_eq_true rfl), (Nat.le_of_ble_eq_true rfl)⟩ ⟨(Nat.le_of_ble_eq_true rfl), (Nat.le_of_ble_eq_true rfl)⟩ dL_accessTime_4 (fun Ex hE => ?_) (fun _ hX => ?_)
  · obtain ⟨hEx, hne⟩ := hE
    rcases xr_accessTime σ b with h | h
    · exact absurd h hne
    · rw [hEx, h]
      refine ⟨12, ⟨tableOf [], _, tableOf [], rfl, (fun z hz => absurd hz List.not_mem_nil), by decide, by decide, w_562, List.mem_of_getElem? (i := 2) rfl, rfl⟩, fun q => ?_⟩
      refine v_astore_n (lv' := [(3, .ref q), (0, .ref (E.1 0)), (1, .int b), (2, .ref (E.1 33))]) C (Nat.le_of_ble_eq_true rfl) rfl dL_accessTime_12 ?_
      refine v_iconst (v := (1 : Int32)) C (by decide) dL_accessTime_13 ?_
      exact v_Q hQ (v_iret C () trivial (by rw [h]; rfl) (by rw [if_neg hne]) (Nat.le_of_ble_eq_true rfl) (Nat.le_of_ble_eq_true rfl) dL_accessTime_14)
  · refine v_i2l C dL_accessTime_7 ?_
    refine v_out C dL_accessTime_8 ?_
    refine v_goto (tgt := 15) C (by decide) dL_accessTime_9 ?_
    refine v_iconst (v := (0 : Int32)) C (by decide) dL_accessTime_15 ?_
    exact v_Q hQ (v_iret C () trivial (by rw [hX]; rfl) (by rw [if_pos hX]) (Nat.le_of_ble_eq_true rfl) (Nat.le_of_ble_eq_true rfl) dL_accessTime_16)
theorem xr_moveToSpare (σ : Sg) (b : Int32) : X_X9_moveToSpare σ b = 0 ∨ X_X9_moveToSpare σ b = 3 ∨ X_X9_moveToSpare σ b = 2 ∨ X_X9_moveToSpare σ b = 4 := by
  unfold X_X9_moveToSpare
  (repeat' split) <;> first | decide | (rcases xr_requireBlock _ with h | h <;> rw [h] <;> decide) | (rcases xr_requireFewPending _ with h | h <;> rw [h] <;> decide) | (rcases xr_requireTimeToAccess _ with h | h <;> rw [h] <;> decide)
abbrev rm_L_moveToSpare : Room := { frames := 8, cells := 2, slots := 12, locals := 162 }
set_option maxRecDepth 100000 in
set_option maxHeartbeats 1000000 in
theorem m_L_moveToSpare (l : Launch) (G : GG) (E : EE) (σ μ : Sg) (Y : va_W) (htr : l.stackTraces = false) (b : Int32) : KH (S := Unit) l G yL_moveToSpare cL_moveToSpare 4 (some .int) [(0, 9, 12, 36), (0, 9, 15, 30), (0, 9, 18, 56)] rm_L_moveToSpare [.ref (E.1 0), .int b, .ref (E.1 33)] (Wd G E σ μ Y) (fun _ => some (.int (hcd [3, 2, 4] (X_X9_moveToSpare σ b)))) (fun _ => Wd G (if X_X9_moveToSpare σ b = 0 then EO E ((F_X9_moveToSpare σ b).1).toInt64 else E) (F_X9_moveToSpare σ b).2 μ Y) (fun _ => True) := by
  refine KH.of (by decide) (Nat.le_of_ble_eq_true rfl) ?_
  intro zp ze zs zm za zb zt zc zA C htab
  generalize hQ : MQ zb _ za zs _ _ zA = Q
  show V zp l ze rm_L_moveToSpare zs zm za zb zt zc 4 G zA 0 0 Q 0 [(0, .ref (E.1 0)), (1, .int b), (2, .ref (E.1 33))] [] (Wd G E σ μ Y)
  refine v_aload_n C 2 rfl dL_moveToSpare_0 ?_
  refine v_iconst (v := (0 : Int32)) C (by decide) dL_moveToSpare_1 ?_
  refine v_aload_n C 0 rfl dL_moveToSpare_2 ?_
  refine v_iload_n C 1 rfl dL_moveToSpare_3 ?_
  refine v_callVC (rest := [.int (0 : Int32), .ref (E.1 33)]) C htab mv_RL_53 (m_X9_moveToSpare l G E σ μ Y htr b) 0 g_0 rfl rfl rfl rfl (Nat.le_of_ble_eq_true rfl) ⟨(Nat.le_of_ble_eq_true rfl), (Nat.le_of_ble_eq_true rfl)⟩ ⟨(Nat.le_of_ble_eq_true rfl), (Nat.le_of_ble_eq_true rfl)⟩ dL_moveToSpare_4 (fun Ex hE => ?_) (fun _ hX => ?_)
  · obtain ⟨hEx, hne⟩ := hE
    rcases xr_moveToSpare σ b with h | h | h | h
    · exact absurd h hne
    · rw [hEx, h]
      refine ⟨12, ⟨tableOf [], _, tableOf [(0, 9, 15, 30), (0, 9, 18, 56)], rfl, (fun z hz => absurd hz List.not_mem_nil), by decide, by decide, w_562, List.mem_of_getElem? (i := 2) rfl, rfl⟩, fun q => ?_⟩
      refine v_astore_n (lv' := [(3, .ref q), (0, .ref (E.1 0)), (1, .int b), (2, .ref (E.1 33))]) C (Nat.le_of_ble_eq_true rfl) rfl dL_moveToSpare_12 ?_
      refine v_iconst (v := (1 : Int32)) C (by decide) dL_moveToSpare_13 ?_
      exact v_Q hQ (v_iret C () trivial (by rw [h]; rfl) (by rw [if_neg hne]) (Nat.le_of_ble_eq_true rfl) (Nat.le_of_ble_eq_true rfl) dL_moveToSpare_14)
    · rw [hEx, h]
      refine ⟨15, ⟨tableOf [(0, 9, 12, 36)], _, tableOf [(0, 9, 18, 56)], rfl, (fun z hz => by cases List.mem_singleton.mp hz; exact ⟨by decide, _, w_562, List.mem_of_getElem? (i := 0) rfl⟩), by decide, by decide, w_538, List.mem_of_getElem? (i := 1) rfl, rfl⟩, fun q => ?_⟩
      refine v_astore_n (lv' := [(3, .ref q), (0, .ref (E.1 0)), (1, .int b), (2, .ref (E.1 33))]) C (Nat.le_of_ble_eq_true rfl) rfl dL_moveToSpare_15 ?_
      refine v_iconst (v := (2 : Int32)) C (by decide) dL_moveToSpare_16 ?_
      exact v_Q hQ (v_iret C () trivial (by rw [h]; rfl) (by rw [if_neg hne]) (Nat.le_of_ble_eq_true rfl) (Nat.le_of_ble_eq_true rfl) dL_moveToSpare_17)
    · rw [hEx, h]
      refine ⟨18, ⟨tableOf [(0, 9, 12, 36), (0, 9, 15, 30)], _, tableOf [], rfl, (fun z hz => by rcases List.mem_cons.mp hz with rfl | hz; exact ⟨by decide, _, w_562, List.mem_of_getElem? (i := 1) rfl⟩; cases List.mem_singleton.mp hz; exact ⟨by decide, _, w_538, List.mem_of_getElem? (i := 2) rfl⟩), by decide, by decide, w_699, List.mem_of_getElem? (i := 3) rfl, rfl⟩, fun q => ?_⟩
      refine v_astore_n (lv' := [(3, .ref q), (0, .ref (E.1 0)), (1, .int b), (2, .ref (E.1 33))]) C (Nat.le_of_ble_eq_true rfl) rfl dL_moveToSpare_18 ?_
      refine v_iconst (v := (3 : Int32)) C (by decide) dL_moveToSpare_19 ?_
      exact v_Q hQ (v_iret C () trivial (by rw [h]; rfl) (by rw [if_neg hne]) (Nat.le_of_ble_eq_true rfl) (Nat.le_of_ble_eq_true rfl) dL_moveToSpare_20)
  · refine v_i2l C dL_moveToSpare_7 ?_
    refine v_out C dL_moveToSpare_8 ?_
    refine v_goto (tgt := 21) C (by decide) dL_moveToSpare_9 ?_
    refine v_iconst (v := (0 : Int32)) C (by decide) dL_moveToSpare_21 ?_
    exact v_Q hQ (v_iret C () trivial (by rw [hX]; rfl) (by rw [if_pos hX]) (Nat.le_of_ble_eq_true rfl) (Nat.le_of_ble_eq_true rfl) dL_moveToSpare_22)
theorem xr_accessesOf (σ : Sg) (b : Int32) : X_X9_accessesOf σ b = 0 ∨ X_X9_accessesOf σ b = 3 := by
  unfold X_X9_accessesOf
  (repeat' split) <;> first | decide | (rcases xr_requireBlock _ with h | h <;> rw [h] <;> decide) | (rcases xr_requireFewPending _ with h | h <;> rw [h] <;> decide) | (rcases xr_requireTimeToAccess _ with h | h <;> rw [h] <;> decide)
abbrev rm_L_accessesOf : Room := { frames := 8, cells := 2, slots := 12, locals := 161 }
set_option maxRecDepth 100000 in
set_option maxHeartbeats 1000000 in
theorem m_L_accessesOf (l : Launch) (G : GG) (E : EE) (σ μ : Sg) (Y : va_W) (htr : l.stackTraces = false) (b : Int32) : KH (S := Unit) l G yL_accessesOf cL_accessesOf 4 (some .int) [(0, 9, 12, 36)] rm_L_accessesOf [.ref (E.1 0), .int b, .ref (E.1 33)] (Wd G E σ μ Y) (fun _ => some (.int (hcd [3] (X_X9_accessesOf σ b)))) (fun _ => Wd G (if X_X9_accessesOf σ b = 0 then EO E (F_X9_accessesOf σ b).toInt64 else E) σ μ Y) (fun _ => True) := by
  refine KH.of (by decide) (Nat.le_of_ble_eq_true rfl) ?_
  intro zp ze zs zm za zb zt zc zA C htab
  generalize hQ : MQ zb _ za zs _ _ zA = Q
  show V zp l ze rm_L_accessesOf zs zm za zb zt zc 4 G zA 0 0 Q 0 [(0, .ref (E.1 0)), (1, .int b), (2, .ref (E.1 33))] [] (Wd G E σ μ Y)
  refine v_aload_n C 2 rfl dL_accessesOf_0 ?_
  refine v_iconst (v := (0 : Int32)) C (by decide) dL_accessesOf_1 ?_
  refine v_aload_n C 0 rfl dL_accessesOf_2 ?_
  refine v_iload_n C 1 rfl dL_accessesOf_3 ?_
  refine v_callVC (rest := [.int (0 : Int32), .ref (E.1 33)]) C htab mv_RL_58 (m_X9_accessesOf l G E σ μ Y htr b) 0 g_0 rfl rfl rfl rfl (Nat.le_of_ble_eq_true rfl) ⟨(Nat.le_of_ble_eq_true rfl), (Nat.le_of_ble_eq_true rfl)⟩ ⟨(Nat.le_of_ble_eq_true rfl), (Nat.le_of_ble_eq_true rfl)⟩ dL_accessesOf_4 (fun Ex hE => ?_) (fun _ hX => ?_)
  · obtain ⟨hEx, hne⟩ := hE
    rcases xr_accessesOf σ b with h | h
    · exact absurd h hne
    · rw [hEx, h]
      refine ⟨12, ⟨tableOf [], _, tableOf [], rfl, (fun z hz => absurd hz List.not_mem_nil), by decide, by decide, w_562, List.mem_of_getElem? (i := 2) rfl, rfl⟩, fun q => ?_⟩
      refine v_astore_n (lv' := [(3, .ref q), (0, .ref (E.1 0)), (1, .int b), (2, .ref (E.1 33))]) C (Nat.le_of_ble_eq_true rfl) rfl dL_accessesOf_12 ?_
      refine v_iconst (v := (1 : Int32)) C (by decide) dL_accessesOf_13 ?_
      exact v_Q hQ (v_iret C () trivial (by rw [h]; rfl) (by rw [if_neg hne]) (Nat.le_of_ble_eq_true rfl) (Nat.le_of_ble_eq_true rfl) dL_accessesOf_14)
  · refine v_i2l C dL_accessesOf_7 ?_
    refine v_out C dL_accessesOf_8 ?_
    refine v_goto (tgt := 15) C (by decide) dL_accessesOf_9 ?_
    refine v_iconst (v := (0 : Int32)) C (by decide) dL_accessesOf_15 ?_
    exact v_Q hQ (v_iret C () trivial (by rw [hX]; rfl) (by rw [if_pos hX]) (Nat.le_of_ble_eq_true rfl) (Nat.le_of_ble_eq_true rfl) dL_accessesOf_16)
theorem xr_idle (σ : Sg) (tk : Int32) : X_X9_idle σ tk = 0 ∨ X_X9_idle σ tk = 1 ∨ X_X9_idle σ tk = 2 := by
  unfold X_X9_idle
  (repeat' split) <;> first | decide | (rcases xr_requireBlock _ with h | h <;> rw [h] <;> decide) | (rcases xr_requireFewPending _ with h | h <;> rw [h] <;> decide) | (rcases xr_requireTimeToAccess _ with h | h <;> rw [h] <;> decide)
abbrev rm_L_idle : Room := { frames := 7, cells := 1, slots := 6, locals := 141 }
set_option maxRecDepth 100000 in
set_option maxHeartbeats 1000000 in
theorem m_L_idle (l : Launch) (G : GG) (E : EE) (σ μ : Sg) (Y : va_W) (htr : l.stackTraces = false) (tk : Int32) : KH (S := Unit) l G yL_idle cL_idle 4 (some .int) [(0, 9, 12, 13), (0, 9, 15, 30)] rm_L_idle [.ref (E.1 0), .int tk, .ref (E.1 33)] (Wd G E σ μ Y) (fun _ => some (.int (hcd [1, 2] (X_X9_idle σ tk)))) (fun _ => Wd G (if X_X9_idle σ tk = 0 then EO E ((F_X9_idle σ tk).1).toInt64 else E) (F_X9_idle σ tk).2 μ Y) (fun _ => True) := by
  refine KH.of (by decide) (Nat.le_of_ble_eq_true rfl) ?_
  intro zp ze zs zm za zb zt zc zA C htab
  generalize hQ : MQ zb _ za zs _ _ zA = Q
  show V zp l ze rm_L_idle zs zm za zb zt zc 4 G zA 0 0 Q 0 [(0, .ref (E.1 0)), (1, .int tk), (2, .ref (E.1 33))] [] (Wd G E σ μ Y)
  refine v_aload_n C 2 rfl dL_idle_0 ?_
  refine v_iconst (v := (0 : Int32)) C (by decide) dL_idle_1 ?_
  refine v_aload_n C 0 rfl dL_idle_2 ?_
  refine v_iload_n C 1 rfl dL_idle_3 ?_
  refine v_callVC (rest := [.int (0 : Int32), .ref (E.1 33)]) C htab mv_RL_61 (m_X9_idle l G E σ μ Y htr tk) 0 g_0 rfl rfl rfl rfl (Nat.le_of_ble_eq_true rfl) ⟨(Nat.le_of_ble_eq_true rfl), (Nat.le_of_ble_eq_true rfl)⟩ ⟨(Nat.le_of_ble_eq_true rfl), (Nat.le_of_ble_eq_true rfl)⟩ dL_idle_4 (fun Ex hE => ?_) (fun _ hX => ?_)
  · obtain ⟨hEx, hne⟩ := hE
    rcases xr_idle σ tk with h | h | h
    · exact absurd h hne
    · rw [hEx, h]
      refine ⟨12, ⟨tableOf [], _, tableOf [(0, 9, 15, 30)], rfl, (fun z hz => absurd hz List.not_mem_nil), by decide, by decide, w_433, List.mem_of_getElem? (i := 0) rfl, rfl⟩, fun q => ?_⟩
      refine v_astore_n (lv' := [(3, .ref q), (0, .ref (E.1 0)), (1, .int tk), (2, .ref (E.1 33))]) C (Nat.le_of_ble_eq_true rfl) rfl dL_idle_12 ?_
      refine v_iconst (v := (1 : Int32)) C (by decide) dL_idle_13 ?_
      exact v_Q hQ (v_iret C () trivial (by rw [h]; rfl) (by rw [if_neg hne]) (Nat.le_of_ble_eq_true rfl) (Nat.le_of_ble_eq_true rfl) dL_idle_14)
    · rw [hEx, h]
      refine ⟨15, ⟨tableOf [(0, 9, 12, 13)], _, tableOf [], rfl, (fun z hz => by cases List.mem_singleton.mp hz; exact ⟨by decide, _, w_433, List.mem_of_getElem? (i := 3) rfl⟩), by decide, by decide, w_538, List.mem_of_getElem? (i := 1) rfl, rfl⟩, fun q => ?_⟩
      refine v_astore_n (lv' := [(3, .ref q), (0, .ref (E.1 0)), (1, .int tk), (2, .ref (E.1 33))]) C (Nat.le_of_ble_eq_true rfl) rfl dL_idle_15 ?_
      refine v_iconst (v := (2 : Int32)) C (by decide) dL_idle_16 ?_
      exact v_Q hQ (v_iret C () trivial (by rw [h]; rfl) (by rw [if_neg hne]) (Nat.le_of_ble_eq_true rfl) (Nat.le_of_ble_eq_true rfl) dL_idle_17)
  · refine v_i2l C dL_idle_7 ?_
    refine v_out C dL_idle_8 ?_
    refine v_goto (tgt := 18) C (by decide) dL_idle_9 ?_
    refine v_iconst (v := (0 : Int32)) C (by decide) dL_idle_18 ?_
    exact v_Q hQ (v_iret C () trivial (by rw [hX]; rfl) (by rw [if_pos hX]) (Nat.le_of_ble_eq_true rfl) (Nat.le_of_ble_eq_true rfl) dL_idle_19)
theorem xr_appendCharacter (σ : Sg) (ch : Int32) : X_X9_appendCharacter σ ch = 0 ∨ X_X9_appendCharacter σ ch = 1 ∨ X_X9_appendCharacter σ ch = 2 := by
  unfold X_X9_appendCharacter
  (repeat' split) <;> first | decide | (rcases xr_requireBlock _ with h | h <;> rw [h] <;> decide) | (rcases xr_requireFewPending _ with h | h <;> rw [h] <;> decide) | (rcases xr_requireTimeToAccess _ with h | h <;> rw [h] <;> decide)
abbrev rm_L_appendCharacter : Room := { frames := 7, cells := 1, slots := 6, locals := 141 }
set_option maxRecDepth 100000 in
set_option maxHeartbeats 1000000 in
theorem m_L_appendCharacter (l : Launch) (G : GG) (E : EE) (σ μ : Sg) (Y : va_W) (htr : l.stackTraces = false) (ch : Int32) : KH (S := Unit) l G yL_appendCharacter cL_appendCharacter 4 (some .int) [(0, 9, 12, 13), (0, 9, 15, 30)] rm_L_appendCharacter [.ref (E.1 0), .int ch, .ref (E.1 33)] (Wd G E σ μ Y) (fun _ => some (.int (hcd [1, 2] (X_X9_appendCharacter σ ch)))) (fun _ => Wd G (if X_X9_appendCharacter σ ch = 0 then EO E ((F_X9_appendCharacter σ ch).1).toInt64 else E) (F_X9_appendCharacter σ ch).2 μ Y) (fun _ => True) := by
  refine KH.of (by decide) (Nat.le_of_ble_eq_true rfl) ?_
  intro zp ze zs zm za zb zt zc zA C htab
  generalize hQ : MQ zb _ za zs _ _ zA = Q
  show V zp l ze rm_L_appendCharacter zs zm za zb zt zc 4 G zA 0 0 Q 0 [(0, .ref (E.1 0)), (1, .int ch), (2, .ref (E.1 33))] [] (Wd G E σ μ Y)
  refine v_aload_n C 2 rfl dL_appendCharacter_0 ?_
  refine v_iconst (v := (0 : Int32)) C (by decide) dL_appendCharacter_1 ?_
  refine v_aload_n C 0 rfl dL_appendCharacter_2 ?_
  refine v_iload_n C 1 rfl dL_appendCharacter_3 ?_
  refine v_callVC (rest := [.int (0 : Int32), .ref (E.1 33)]) C htab mv_RL_68 (m_X9_appendCharacter l G E σ μ Y htr ch) 0 g_0 rfl rfl rfl rfl (Nat.le_of_ble_eq_true rfl) ⟨(Nat.le_of_ble_eq_true rfl), (Nat.le_of_ble_eq_true rfl)⟩ ⟨(Nat.le_of_ble_eq_true rfl), (Nat.le_of_ble_eq_true rfl)⟩ dL_appendCharacter_4 (fun Ex hE => ?_) (fun _ hX => ?_)
  · obtain ⟨hEx, hne⟩ := hE
    rcases xr_appendCharacter σ ch with h | h | h
    · exact absurd h hne
    · rw [hEx, h]
      refine ⟨12, ⟨tableOf [], _, tableOf [(0, 9, 15, 30)], rfl, (fun z hz => absurd hz List.not_mem_nil), by decide, by decide, w_433, List.mem_of_getElem? (i := 0) rfl, rfl⟩, fun q => ?_⟩
      refine v_astore_n (lv' := [(3, .ref q), (0, .ref (E.1 0)), (1, .int ch), (2, .ref (E.1 33))]) C (Nat.le_of_ble_eq_true rfl) rfl dL_appendCharacter_12 ?_
      refine v_iconst (v := (1 : Int32)) C (by decide) dL_appendCharacter_13 ?_
      exact v_Q hQ (v_iret C () trivial (by rw [h]; rfl) (by rw [if_neg hne]) (Nat.le_of_ble_eq_true rfl) (Nat.le_of_ble_eq_true rfl) dL_appendCharacter_14)
    · rw [hEx, h]
      refine ⟨15, ⟨tableOf [(0, 9, 12, 13)], _, tableOf [], rfl, (fun z hz => by cases List.mem_singleton.mp hz; exact ⟨by decide, _, w_433, List.mem_of_getElem? (i := 3) rfl⟩), by decide, by decide, w_538, List.mem_of_getElem? (i := 1) rfl, rfl⟩, fun q => ?_⟩
      refine v_astore_n (lv' := [(3, .ref q), (0, .ref (E.1 0)), (1, .int ch), (2, .ref (E.1 33))]) C (Nat.le_of_ble_eq_true rfl) rfl dL_appendCharacter_15 ?_
      refine v_iconst (v := (2 : Int32)) C (by decide) dL_appendCharacter_16 ?_
      exact v_Q hQ (v_iret C () trivial (by rw [h]; rfl) (by rw [if_neg hne]) (Nat.le_of_ble_eq_true rfl) (Nat.le_of_ble_eq_true rfl) dL_appendCharacter_17)
  · refine v_i2l C dL_appendCharacter_7 ?_
    refine v_out C dL_appendCharacter_8 ?_
    refine v_goto (tgt := 18) C (by decide) dL_appendCharacter_9 ?_
    refine v_iconst (v := (0 : Int32)) C (by decide) dL_appendCharacter_18 ?_
    exact v_Q hQ (v_iret C () trivial (by rw [hX]; rfl) (by rw [if_pos hX]) (Nat.le_of_ble_eq_true rfl) (Nat.le_of_ble_eq_true rfl) dL_appendCharacter_19)
theorem xr_cancel (σ : Sg) (n : Int32) : X_X9_cancel σ n = 0 ∨ X_X9_cancel σ n = 3 ∨ X_X9_cancel σ n = 2 := by
  unfold X_X9_cancel
  rcases F_X6_find σ n with _ | i <;> simp only [Option.elim] <;> (repeat' split) <;> first | decide | (rcases xr_requireBlock _ with h | h <;> rw [h] <;> decide) | (rcases xr_requireFewPending _ with h | h <;> rw [h] <;> decide) | (rcases xr_requireTimeToAccess _ with h | h <;> rw [h] <;> decide)
abbrev rm_L_cancel : Room := { frames := 10, cells := 2, slots := 12, locals := 184 }
set_option maxRecDepth 100000 in
set_option maxHeartbeats 1000000 in
theorem m_L_cancel (l : Launch) (G : GG) (E : EE) (σ μ : Sg) (Y : va_W) (htr : l.stackTraces = false) (n : Int32) (hK : CNT E σ) : KH (S := Unit) l G yL_cancel cL_cancel 3 (some .int) [(0, 5, 8, 36), (0, 5, 11, 30)] rm_L_cancel [.ref (E.1 0), .int n] (Wd G E σ μ Y) (fun _ => some (.int (hcd [3, 2] (X_X9_cancel σ n)))) (fun _ => Wd G E (F_X9_cancel σ n) μ Y) (fun _ => True) := by
  refine KH.of (by decide) (Nat.le_of_ble_eq_true rfl) ?_
  intro zp ze zs zm za zb zt zc zA C htab
  generalize hQ : MQ zb _ za zs _ _ zA = Q
  show V zp l ze rm_L_cancel zs zm za zb zt zc 3 G zA 0 0 Q 0 [(0, .ref (E.1 0)), (1, .int n)] [] (Wd G E σ μ Y)
  refine v_aload_n C 0 rfl dL_cancel_0 ?_
  refine v_iload_n C 1 rfl dL_cancel_1 ?_
  refine v_callVC (rest := []) C htab mv_RL_75 (m_X9_cancel l G E σ μ Y htr n hK) 0 g_0 rfl rfl rfl rfl (Nat.le_of_ble_eq_true rfl) ⟨(Nat.le_of_ble_eq_true rfl), (Nat.le_of_ble_eq_true rfl)⟩ ⟨(Nat.le_of_ble_eq_true rfl), (Nat.le_of_ble_eq_true rfl)⟩ dL_cancel_2 (fun Ex hE => ?_) (fun _ hX => ?_)
  · obtain ⟨hEx, hne⟩ := hE
    rcases xr_cancel σ n with h | h | h
    · exact absurd h hne
    · rw [hEx, h]
      refine ⟨8, ⟨tableOf [], _, tableOf [(0, 5, 11, 30)], rfl, (fun z hz => absurd hz List.not_mem_nil), by decide, by decide, w_562, List.mem_of_getElem? (i := 2) rfl, rfl⟩, fun q => ?_⟩
      refine v_astore_n (lv' := [(2, .ref q), (0, .ref (E.1 0)), (1, .int n)]) C (Nat.le_of_ble_eq_true rfl) rfl dL_cancel_8 ?_
      refine v_iconst (v := (1 : Int32)) C (by decide) dL_cancel_9 ?_
      exact v_Q hQ (v_iret C () trivial (by rw [h]; rfl) (by rfl) (Nat.le_of_ble_eq_true rfl) (Nat.le_of_ble_eq_true rfl) dL_cancel_10)
    · rw [hEx, h]
      refine ⟨11, ⟨tableOf [(0, 5, 8, 36)], _, tableOf [], rfl, (fun z hz => by cases List.mem_singleton.mp hz; exact ⟨by decide, _, w_562, List.mem_of_getElem? (i := 0) rfl⟩), by decide, by decide, w_538, List.mem_of_getElem? (i := 1) rfl, rfl⟩, fun q => ?_⟩
      refine v_astore_n (lv' := [(2, .ref q), (0, .ref (E.1 0)), (1, .int n)]) C (Nat.le_of_ble_eq_true rfl) rfl dL_cancel_11 ?_
      refine v_iconst (v := (2 : Int32)) C (by decide) dL_cancel_12 ?_
      exact v_Q hQ (v_iret C () trivial (by rw [h]; rfl) (by rfl) (Nat.le_of_ble_eq_true rfl) (Nat.le_of_ble_eq_true rfl) dL_cancel_13)
  · refine v_goto (tgt := 14) C (by decide) dL_cancel_5 ?_
    refine v_iconst (v := (0 : Int32)) C (by decide) dL_cancel_14 ?_
    exact v_Q hQ (v_iret C () trivial (by rw [hX]; rfl) (by rfl) (Nat.le_of_ble_eq_true rfl) (Nat.le_of_ble_eq_true rfl) dL_cancel_15)
theorem xr_serveFor (σ : Sg) (tk : Int32) : X_X9_serveFor σ tk = 0 ∨ X_X9_serveFor σ tk = 1 ∨ X_X9_serveFor σ tk = 2 := by
  unfold X_X9_serveFor
  (repeat' split) <;> first | decide | (rcases xr_requireBlock _ with h | h <;> rw [h] <;> decide) | (rcases xr_requireFewPending _ with h | h <;> rw [h] <;> decide) | (rcases xr_requireTimeToAccess _ with h | h <;> rw [h] <;> decide)
abbrev rm_L_serveFor : Room := { frames := 145, cells := 2, slots := 12, locals := 5720 }
set_option maxRecDepth 100000 in
set_option maxHeartbeats 1000000 in
theorem m_L_serveFor (l : Launch) (G : GG) (E : EE) (σ μ : Sg) (Y : va_W) (htr : l.stackTraces = false) (tk : Int32) (hK : CNT E σ) : KH (S := Unit) l G yL_serveFor cL_serveFor 4 (some .int) [(0, 9, 12, 13), (0, 9, 15, 30)] rm_L_serveFor [.ref (E.1 0), .int tk, .ref (E.1 33)] (Wd G E σ μ Y) (fun _ => some (.int (hcd [1, 2] (X_X9_serveFor σ tk)))) (fun _ => Wd G (if X_X9_serveFor σ tk = 0 then EO E ((F_X9_serveFor σ tk).1).toInt64 else E) (F_X9_serveFor σ tk).2 μ Y) (fun _ => True) := by
  refine KH.of (by decide) (Nat.le_of_ble_eq_true rfl) ?_
  intro zp ze zs zm za zb zt zc zA C htab
  generalize hQ : MQ zb _ za zs _ _ zA = Q
  show V zp l ze rm_L_serveFor zs zm za zb zt zc 4 G zA 0 0 Q 0 [(0, .ref (E.1 0)), (1, .int tk), (2, .ref (E.1 33))] [] (Wd G E σ μ Y)
  refine v_aload_n C 2 rfl dL_serveFor_0 ?_
  refine v_iconst (v := (0 : Int32)) C (by decide) dL_serveFor_1 ?_
  refine v_aload_n C 0 rfl dL_serveFor_2 ?_
  refine v_iload_n C 1 rfl dL_serveFor_3 ?_
  refine v_callVC (rest := [.int (0 : Int32), .ref (E.1 33)]) C htab mv_RL_87 (m_X9_serveFor l G E σ μ Y htr tk hK) 0 g_0 rfl rfl rfl rfl (Nat.le_of_ble_eq_true rfl) ⟨(Nat.le_of_ble_eq_true rfl), (Nat.le_of_ble_eq_true rfl)⟩ ⟨(Nat.le_of_ble_eq_true rfl), (Nat.le_of_ble_eq_true rfl)⟩ dL_serveFor_4 (fun Ex hE => ?_) (fun _ hX => ?_)
  · obtain ⟨hEx, hne⟩ := hE
    rcases xr_serveFor σ tk with h | h | h
    · exact absurd h hne
    · rw [hEx, h]
      refine ⟨12, ⟨tableOf [], _, tableOf [(0, 9, 15, 30)], rfl, (fun z hz => absurd hz List.not_mem_nil), by decide, by decide, w_433, List.mem_of_getElem? (i := 0) rfl, rfl⟩, fun q => ?_⟩
      refine v_astore_n (lv' := [(3, .ref q), (0, .ref (E.1 0)), (1, .int tk), (2, .ref (E.1 33))]) C (Nat.le_of_ble_eq_true rfl) rfl dL_serveFor_12 ?_
      refine v_iconst (v := (1 : Int32)) C (by decide) dL_serveFor_13 ?_
      exact v_Q hQ (v_iret C () trivial (by rw [h]; rfl) (by rw [if_neg hne]) (Nat.le_of_ble_eq_true rfl) (Nat.le_of_ble_eq_true rfl) dL_serveFor_14)
    · rw [hEx, h]
      refine ⟨15, ⟨tableOf [(0, 9, 12, 13)], _, tableOf [], rfl, (fun z hz => by cases List.mem_singleton.mp hz; exact ⟨by decide, _, w_433, List.mem_of_getElem? (i := 3) rfl⟩), by decide, by decide, w_538, List.mem_of_getElem? (i := 1) rfl, rfl⟩, fun q => ?_⟩
      refine v_astore_n (lv' := [(3, .ref q), (0, .ref (E.1 0)), (1, .int tk), (2, .ref (E.1 33))]) C (Nat.le_of_ble_eq_true rfl) rfl dL_serveFor_15 ?_
      refine v_iconst (v := (2 : Int32)) C (by decide) dL_serveFor_16 ?_
      exact v_Q hQ (v_iret C () trivial (by rw [h]; rfl) (by rw [if_neg hne]) (Nat.le_of_ble_eq_true rfl) (Nat.le_of_ble_eq_true rfl) dL_serveFor_17)
  · refine v_i2l C dL_serveFor_7 ?_
    refine v_out C dL_serveFor_8 ?_
    refine v_goto (tgt := 18) C (by decide) dL_serveFor_9 ?_
    refine v_iconst (v := (0 : Int32)) C (by decide) dL_serveFor_18 ?_
    exact v_Q hQ (v_iret C () trivial (by rw [hX]; rfl) (by rw [if_pos hX]) (Nat.le_of_ble_eq_true rfl) (Nat.le_of_ble_eq_true rfl) dL_serveFor_19)
theorem xr_flush (σ : Sg) : X_X9_flush σ = 0 ∨ X_X9_flush σ = 2 := by
  unfold X_X9_flush
  (repeat' split) <;> first | decide | (rcases xr_requireBlock _ with h | h <;> rw [h] <;> decide) | (rcases xr_requireFewPending _ with h | h <;> rw [h] <;> decide) | (rcases xr_requireTimeToAccess _ with h | h <;> rw [h] <;> decide)
abbrev rm_L_flush : Room := { frames := 8, cells := 2, slots := 12, locals := 161 }
set_option maxRecDepth 100000 in
set_option maxHeartbeats 1000000 in
theorem m_L_flush (l : Launch) (G : GG) (E : EE) (σ μ : Sg) (Y : va_W) (htr : l.stackTraces = false) : KH (S := Unit) l G yL_flush cL_flush 3 (some .int) [(0, 8, 11, 30)] rm_L_flush [.ref (E.1 0), .ref (E.1 33)] (Wd G E σ μ Y) (fun _ => some (.int (hcd [2] (X_X9_flush σ)))) (fun _ => Wd G (if X_X9_flush σ = 0 then EO E ((F_X9_flush σ).1).toInt64 else E) (F_X9_flush σ).2 μ Y) (fun _ => True) := by
  refine KH.of (by decide) (Nat.le_of_ble_eq_true rfl) ?_
  intro zp ze zs zm za zb zt zc zA C htab
  generalize hQ : MQ zb _ za zs _ _ zA = Q
  show V zp l ze rm_L_flush zs zm za zb zt zc 3 G zA 0 0 Q 0 [(0, .ref (E.1 0)), (1, .ref (E.1 33))] [] (Wd G E σ μ Y)
  refine v_aload_n C 1 rfl dL_flush_0 ?_
  refine v_iconst (v := (0 : Int32)) C (by decide) dL_flush_1 ?_
  refine v_aload_n C 0 rfl dL_flush_2 ?_
  refine v_callVC (rest := [.int (0 : Int32), .ref (E.1 33)]) C htab mv_RL_90 (m_X9_flush l G E σ μ Y htr) 0 g_0 rfl rfl rfl rfl (Nat.le_of_ble_eq_true rfl) ⟨(Nat.le_of_ble_eq_true rfl), (Nat.le_of_ble_eq_true rfl)⟩ ⟨(Nat.le_of_ble_eq_true rfl), (Nat.le_of_ble_eq_true rfl)⟩ dL_flush_3 (fun Ex hE => ?_) (fun _ hX => ?_)
  · obtain ⟨hEx, hne⟩ := hE
    rcases xr_flush σ with h | h
    · exact absurd h hne
    · rw [hEx, h]
      refine ⟨11, ⟨tableOf [], _, tableOf [], rfl, (fun z hz => absurd hz List.not_mem_nil), by decide, by decide, w_538, List.mem_of_getElem? (i := 1) rfl, rfl⟩, fun q => ?_⟩
      refine v_astore_n (lv' := [(2, .ref q), (0, .ref (E.1 0)), (1, .ref (E.1 33))]) C (Nat.le_of_ble_eq_true rfl) rfl dL_flush_11 ?_
      refine v_iconst (v := (1 : Int32)) C (by decide) dL_flush_12 ?_
      exact v_Q hQ (v_iret C () trivial (by rw [h]; rfl) (by rw [if_neg hne]) (Nat.le_of_ble_eq_true rfl) (Nat.le_of_ble_eq_true rfl) dL_flush_13)
  · refine v_i2l C dL_flush_6 ?_
    refine v_out C dL_flush_7 ?_
    refine v_goto (tgt := 14) C (by decide) dL_flush_8 ?_
    refine v_iconst (v := (0 : Int32)) C (by decide) dL_flush_14 ?_
    exact v_Q hQ (v_iret C () trivial (by rw [hX]; rfl) (by rw [if_pos hX]) (Nat.le_of_ble_eq_true rfl) (Nat.le_of_ble_eq_true rfl) dL_flush_15)
theorem xr_state (σ : Sg) (n : Int32) : X_X9_state σ n = 0 ∨ X_X9_state σ n = 3 := by
  unfold X_X9_state
  rcases F_X6_find σ n with _ | i <;> simp only [Option.elim] <;> (repeat' split) <;> first | decide | (rcases xr_requireBlock _ with h | h <;> rw [h] <;> decide) | (rcases xr_requireFewPending _ with h | h <;> rw [h] <;> decide) | (rcases xr_requireTimeToAccess _ with h | h <;> rw [h] <;> decide)
abbrev rm_L_state : Room := { frames := 10, cells := 2, slots := 12, locals := 183 }
set_option maxRecDepth 100000 in
set_option maxHeartbeats 1000000 in
theorem m_L_state (l : Launch) (G : GG) (E : EE) (σ μ : Sg) (Y : va_W) (htr : l.stackTraces = false) (n : Int32) (hK : CNT E σ) : KH (S := Unit) l G yL_state cL_state 4 (some .int) [(0, 9, 12, 36)] rm_L_state [.ref (E.1 0), .int n, .ref (E.1 33)] (Wd G E σ μ Y) (fun _ => some (.int (hcd [3] (X_X9_state σ n)))) (fun _ => Wd G (if X_X9_state σ n = 0 then EO E (F_X9_state σ n).toInt64 else E) σ μ Y) (fun _ => True) := by
  refine KH.of (by decide) (Nat.le_of_ble_eq_true rfl) ?_
  intro zp ze zs zm za zb zt zc zA C htab
  generalize hQ : MQ zb _ za zs _ _ zA = Q
  show V zp l ze rm_L_state zs zm za zb zt zc 4 G zA 0 0 Q 0 [(0, .ref (E.1 0)), (1, .int n), (2, .ref (E.1 33))] [] (Wd G E σ μ Y)
  refine v_aload_n C 2 rfl dL_state_0 ?_
  refine v_iconst (v := (0 : Int32)) C (by decide) dL_state_1 ?_
  refine v_aload_n C 0 rfl dL_state_2 ?_
  refine v_iload_n C 1 rfl dL_state_3 ?_
  refine v_callVC (rest := [.int (0 : Int32), .ref (E.1 33)]) C htab mv_RL_93 (m_X9_state l G E σ μ Y htr n hK) 0 g_0 rfl rfl rfl rfl (Nat.le_of_ble_eq_true rfl) ⟨(Nat.le_of_ble_eq_true rfl), (Nat.le_of_ble_eq_true rfl)⟩ ⟨(Nat.le_of_ble_eq_true rfl), (Nat.le_of_ble_eq_true rfl)⟩ dL_state_4 (fun Ex hE => ?_) (fun _ hX => ?_)
  · obtain ⟨hEx, hne⟩ := hE
    rcases xr_state σ n with h | h
    · exact absurd h hne
    · rw [hEx, h]
      refine ⟨12, ⟨tableOf [], _, tableOf [], rfl, (fun z hz => absurd hz List.not_mem_nil), by decide, by decide, w_562, List.mem_of_getElem? (i := 2) rfl, rfl⟩, fun q => ?_⟩
      refine v_astore_n (lv' := [(3, .ref q), (0, .ref (E.1 0)), (1, .int n), (2, .ref (E.1 33))]) C (Nat.le_of_ble_eq_true rfl) rfl dL_state_12 ?_
      refine v_iconst (v := (1 : Int32)) C (by decide) dL_state_13 ?_
      exact v_Q hQ (v_iret C () trivial (by rw [h]; rfl) (by rw [if_neg hne]) (Nat.le_of_ble_eq_true rfl) (Nat.le_of_ble_eq_true rfl) dL_state_14)
  · refine v_i2l C dL_state_7 ?_
    refine v_out C dL_state_8 ?_
    refine v_goto (tgt := 15) C (by decide) dL_state_9 ?_
    refine v_iconst (v := (0 : Int32)) C (by decide) dL_state_15 ?_
    exact v_Q hQ (v_iret C () trivial (by rw [hX]; rfl) (by rw [if_pos hX]) (Nat.le_of_ble_eq_true rfl) (Nat.le_of_ble_eq_true rfl) dL_state_16)
theorem xr_bucket (σ : Sg) (n : Int32) : X_X9_bucket σ n = 0 ∨ X_X9_bucket σ n = 3 ∨ X_X9_bucket σ n = 2 := by
  unfold X_X9_bucket
  rcases F_X6_find σ n with _ | i <;> simp only [Option.elim] <;> (repeat' split) <;> first | decide | (rcases xr_requireBlock _ with h | h <;> rw [h] <;> decide) | (rcases xr_requireFewPending _ with h | h <;> rw [h] <;> decide) | (rcases xr_requireTimeToAccess _ with h | h <;> rw [h] <;> decide)
abbrev rm_L_bucket : Room := { frames := 10, cells := 2, slots := 12, locals := 184 }
set_option maxRecDepth 100000 in
set_option maxHeartbeats 1000000 in
theorem m_L_bucket (l : Launch) (G : GG) (E : EE) (σ μ : Sg) (Y : va_W) (htr : l.stackTraces = false) (n : Int32) (hK : CNT E σ) : KH (S := Unit) l G yL_bucket cL_bucket 4 (some .int) [(0, 9, 12, 36), (0, 9, 15, 30)] rm_L_bucket [.ref (E.1 0), .int n, .ref (E.1 33)] (Wd G E σ μ Y) (fun _ => some (.int (hcd [3, 2] (X_X9_bucket σ n)))) (fun _ => Wd G (if X_X9_bucket σ n = 0 then EO E (F_X9_bucket σ n).toInt64 else E) σ μ Y) (fun _ => True) := by
  refine KH.of (by decide) (Nat.le_of_ble_eq_true rfl) ?_
  intro zp ze zs zm za zb zt zc zA C htab
  generalize hQ : MQ zb _ za zs _ _ zA = Q
  show V zp l ze rm_L_bucket zs zm za zb zt zc 4 G zA 0 0 Q 0 [(0, .ref (E.1 0)), (1, .int n), (2, .ref (E.1 33))] [] (Wd G E σ μ Y)
  refine v_aload_n C 2 rfl dL_bucket_0 ?_
  refine v_iconst (v := (0 : Int32)) C (by decide) dL_bucket_1 ?_
  refine v_aload_n C 0 rfl dL_bucket_2 ?_
  refine v_iload_n C 1 rfl dL_bucket_3 ?_
  refine v_callVC (rest := [.int (0 : Int32), .ref (E.1 33)]) C htab mv_RL_96 (m_X9_bucket l G E σ μ Y htr n hK) 0 g_0 rfl rfl rfl rfl (Nat.le_of_ble_eq_true rfl) ⟨(Nat.le_of_ble_eq_true rfl), (Nat.le_of_ble_eq_true rfl)⟩ ⟨(Nat.le_of_ble_eq_true rfl), (Nat.le_of_ble_eq_true rfl)⟩ dL_bucket_4 (fun Ex hE => ?_) (fun _ hX => ?_)
  · obtain ⟨hEx, hne⟩ := hE
    rcases xr_bucket σ n with h | h | h
    · exact absurd h hne
    · rw [hEx, h]
      refine ⟨12, ⟨tableOf [], _, tableOf [(0, 9, 15, 30)], rfl, (fun z hz => absurd hz List.not_mem_nil), by decide, by decide, w_562, List.mem_of_getElem? (i := 2) rfl, rfl⟩, fun q => ?_⟩
      refine v_astore_n (lv' := [(3, .ref q), (0, .ref (E.1 0)), (1, .int n), (2, .ref (E.1 33))]) C (Nat.le_of_ble_eq_true rfl) rfl dL_bucket_12 ?_
      refine v_iconst (v := (1 : Int32)) C (by decide) dL_bucket_13 ?_
      exact v_Q hQ (v_iret C () trivial (by rw [h]; rfl) (by rw [if_neg hne]) (Nat.le_of_ble_eq_true rfl) (Nat.le_of_ble_eq_true rfl) dL_bucket_14)
    · rw [hEx, h]
      refine ⟨15, ⟨tableOf [(0, 9, 12, 36)], _, tableOf [], rfl, (fun z hz => by cases List.mem_singleton.mp hz; exact ⟨by decide, _, w_562, List.mem_of_getElem? (i := 0) rfl⟩), by decide, by decide, w_538, List.mem_of_getElem? (i := 1) rfl, rfl⟩, fun q => ?_⟩
      refine v_astore_n (lv' := [(3, .ref q), (0, .ref (E.1 0)), (1, .int n), (2, .ref (E.1 33))]) C (Nat.le_of_ble_eq_true rfl) rfl dL_bucket_15 ?_
      refine v_iconst (v := (2 : Int32)) C (by decide) dL_bucket_16 ?_
      exact v_Q hQ (v_iret C () trivial (by rw [h]; rfl) (by rw [if_neg hne]) (Nat.le_of_ble_eq_true rfl) (Nat.le_of_ble_eq_true rfl) dL_bucket_17)
  · refine v_i2l C dL_bucket_7 ?_
    refine v_out C dL_bucket_8 ?_
    refine v_goto (tgt := 18) C (by decide) dL_bucket_9 ?_
    refine v_iconst (v := (0 : Int32)) C (by decide) dL_bucket_18 ?_
    exact v_Q hQ (v_iret C () trivial (by rw [hX]; rfl) (by rw [if_pos hX]) (Nat.le_of_ble_eq_true rfl) (Nat.le_of_ble_eq_true rfl) dL_bucket_19)
theorem xr_finish (σ : Sg) (n : Int32) : X_X9_finish σ n = 0 ∨ X_X9_finish σ n = 3 ∨ X_X9_finish σ n = 2 := by
  unfold X_X9_finish
  rcases F_X6_find σ n with _ | i <;> simp only [Option.elim] <;> (repeat' split) <;> first | decide | (rcases xr_requireBlock _ with h | h <;> rw [h] <;> decide) | (rcases xr_requireFewPending _ with h | h <;> rw [h] <;> decide) | (rcases xr_requireTimeToAccess _ with h | h <;> rw [h] <;> decide)
abbrev rm_L_finish : Room := { frames := 10, cells := 2, slots := 12, locals := 184 }
set_option maxRecDepth 100000 in
set_option maxHeartbeats 1000000 in
theorem m_L_finish (l : Launch) (G : GG) (E : EE) (σ μ : Sg) (Y : va_W) (htr : l.stackTraces = false) (n : Int32) (hK : CNT E σ) : KH (S := Unit) l G yL_finish cL_finish 4 (some .int) [(0, 9, 12, 36), (0, 9, 15, 30)] rm_L_finish [.ref (E.1 0), .int n, .ref (E.1 33)] (Wd G E σ μ Y) (fun _ => some (.int (hcd [3, 2] (X_X9_finish σ n)))) (fun _ => Wd G (if X_X9_finish σ n = 0 then EO E (F_X9_finish σ n).toInt64 else E) σ μ Y) (fun _ => True) := by
  refine KH.of (by decide) (Nat.le_of_ble_eq_true rfl) ?_
  intro zp ze zs zm za zb zt zc zA C htab
  generalize hQ : MQ zb _ za zs _ _ zA = Q
  show V zp l ze rm_L_finish zs zm za zb zt zc 4 G zA 0 0 Q 0 [(0, .ref (E.1 0)), (1, .int n), (2, .ref (E.1 33))] [] (Wd G E σ μ Y)
  refine v_aload_n C 2 rfl dL_finish_0 ?_
  refine v_iconst (v := (0 : Int32)) C (by decide) dL_finish_1 ?_
  refine v_aload_n C 0 rfl dL_finish_2 ?_
  refine v_iload_n C 1 rfl dL_finish_3 ?_
  refine v_callVC (rest := [.int (0 : Int32), .ref (E.1 33)]) C htab mv_RL_99 (m_X9_finish l G E σ μ Y htr n hK) 0 g_0 rfl rfl rfl rfl (Nat.le_of_ble_eq_true rfl) ⟨(Nat.le_of_ble_eq_true rfl), (Nat.le_of_ble_eq_true rfl)⟩ ⟨(Nat.le_of_ble_eq_true rfl), (Nat.le_of_ble_eq_true rfl)⟩ dL_finish_4 (fun Ex hE => ?_) (fun _ hX => ?_)
  · obtain ⟨hEx, hne⟩ := hE
    rcases xr_finish σ n with h | h | h
    · exact absurd h hne
    · rw [hEx, h]
      refine ⟨12, ⟨tableOf [], _, tableOf [(0, 9, 15, 30)], rfl, (fun z hz => absurd hz List.not_mem_nil), by decide, by decide, w_562, List.mem_of_getElem? (i := 2) rfl, rfl⟩, fun q => ?_⟩
      refine v_astore_n (lv' := [(3, .ref q), (0, .ref (E.1 0)), (1, .int n), (2, .ref (E.1 33))]) C (Nat.le_of_ble_eq_true rfl) rfl dL_finish_12 ?_
      refine v_iconst (v := (1 : Int32)) C (by decide) dL_finish_13 ?_
      exact v_Q hQ (v_iret C () trivial (by rw [h]; rfl) (by rw [if_neg hne]) (Nat.le_of_ble_eq_true rfl) (Nat.le_of_ble_eq_true rfl) dL_finish_14)
    · rw [hEx, h]
      refine ⟨15, ⟨tableOf [(0, 9, 12, 36)], _, tableOf [], rfl, (fun z hz => by cases List.mem_singleton.mp hz; exact ⟨by decide, _, w_562, List.mem_of_getElem? (i := 0) rfl⟩), by decide, by decide, w_538, List.mem_of_getElem? (i := 1) rfl, rfl⟩, fun q => ?_⟩
      refine v_astore_n (lv' := [(3, .ref q), (0, .ref (E.1 0)), (1, .int n), (2, .ref (E.1 33))]) C (Nat.le_of_ble_eq_true rfl) rfl dL_finish_15 ?_
      refine v_iconst (v := (2 : Int32)) C (by decide) dL_finish_16 ?_
      exact v_Q hQ (v_iret C () trivial (by rw [h]; rfl) (by rw [if_neg hne]) (Nat.le_of_ble_eq_true rfl) (Nat.le_of_ble_eq_true rfl) dL_finish_17)
  · refine v_i2l C dL_finish_7 ?_
    refine v_out C dL_finish_8 ?_
    refine v_goto (tgt := 18) C (by decide) dL_finish_9 ?_
    refine v_iconst (v := (0 : Int32)) C (by decide) dL_finish_18 ?_
    exact v_Q hQ (v_iret C () trivial (by rw [hX]; rfl) (by rw [if_pos hX]) (Nat.le_of_ble_eq_true rfl) (Nat.le_of_ble_eq_true rfl) dL_finish_19)
theorem xr_isLate (σ : Sg) (n : Int32) : X_X9_isLate σ n = 0 ∨ X_X9_isLate σ n = 3 ∨ X_X9_isLate σ n = 2 ∨ X_X9_isLate σ n = 4 := by
  unfold X_X9_isLate
  rcases F_X6_find σ n with _ | i <;> simp only [Option.elim] <;> (repeat' split) <;> first | decide | (rcases xr_requireBlock _ with h | h <;> rw [h] <;> decide) | (rcases xr_requireFewPending _ with h | h <;> rw [h] <;> decide) | (rcases xr_requireTimeToAccess _ with h | h <;> rw [h] <;> decide)
abbrev rm_L_isLate : Room := { frames := 10, cells := 2, slots := 12, locals := 184 }
set_option maxRecDepth 100000 in
set_option maxHeartbeats 1000000 in
theorem m_L_isLate (l : Launch) (G : GG) (E : EE) (σ μ : Sg) (Y : va_W) (htr : l.stackTraces = false) (n : Int32) (hK : CNT E σ) : KH (S := Unit) l G yL_isLate cL_isLate 4 (some .int) [(0, 16, 19, 36), (0, 16, 22, 30), (0, 16, 25, 56)] rm_L_isLate [.ref (E.1 0), .int n, .ref (E.1 33)] (Wd G E σ μ Y) (fun _ => some (.int (hcd [3, 2, 4] (X_X9_isLate σ n)))) (fun _ => Wd G (if X_X9_isLate σ n = 0 then EO E (if (F_X9_isLate σ n) = 0 then (0 : Int64) else 1) else E) σ μ Y) (fun _ => True) := by
  refine KH.of (by decide) (Nat.le_of_ble_eq_true rfl) ?_
  intro zp ze zs zm za zb zt zc zA C htab
  generalize hQ : MQ zb _ za zs _ _ zA = Q
  show V zp l ze rm_L_isLate zs zm za zb zt zc 4 G zA 0 0 Q 0 [(0, .ref (E.1 0)), (1, .int n), (2, .ref (E.1 33))] [] (Wd G E σ μ Y)
  refine v_aload_n C 2 rfl dL_isLate_0 ?_
  refine v_iconst (v := (0 : Int32)) C (by decide) dL_isLate_1 ?_
  refine v_aload_n C 0 rfl dL_isLate_2 ?_
  refine v_iload_n C 1 rfl dL_isLate_3 ?_
  refine v_callVC (rest := [.int (0 : Int32), .ref (E.1 33)]) C htab mv_RL_102 (m_X9_isLate l G E σ μ Y htr n hK) 0 g_0 rfl rfl rfl rfl (Nat.le_of_ble_eq_true rfl) ⟨(Nat.le_of_ble_eq_true rfl), (Nat.le_of_ble_eq_true rfl)⟩ ⟨(Nat.le_of_ble_eq_true rfl), (Nat.le_of_ble_eq_true rfl)⟩ dL_isLate_4 (fun Ex hE => ?_) (fun _ hX => ?_)
  · obtain ⟨hEx, hne⟩ := hE
    rcases xr_isLate σ n with h | h | h | h
    · exact absurd h hne
    · rw [hEx, h]
      refine ⟨19, ⟨tableOf [], _, tableOf [(0, 16, 22, 30), (0, 16, 25, 56)], rfl, (fun z hz => absurd hz List.not_mem_nil), by decide, by decide, w_562, List.mem_of_getElem? (i := 2) rfl, rfl⟩, fun q => ?_⟩
      refine v_astore_n (lv' := [(3, .ref q), (0, .ref (E.1 0)), (1, .int n), (2, .ref (E.1 33))]) C (Nat.le_of_ble_eq_true rfl) rfl dL_isLate_19 ?_
      refine v_iconst (v := (1 : Int32)) C (by decide) dL_isLate_20 ?_
      exact v_Q hQ (v_iret C () trivial (by rw [h]; rfl) (by rw [if_neg hne]) (Nat.le_of_ble_eq_true rfl) (Nat.le_of_ble_eq_true rfl) dL_isLate_21)
    · rw [hEx, h]
      refine ⟨22, ⟨tableOf [(0, 16, 19, 36)], _, tableOf [(0, 16, 25, 56)], rfl, (fun z hz => by cases List.mem_singleton.mp hz; exact ⟨by decide, _, w_562, List.mem_of_getElem? (i := 0) rfl⟩), by decide, by decide, w_538, List.mem_of_getElem? (i := 1) rfl, rfl⟩, fun q => ?_⟩
      refine v_astore_n (lv' := [(3, .ref q), (0, .ref (E.1 0)), (1, .int n), (2, .ref (E.1 33))]) C (Nat.le_of_ble_eq_true rfl) rfl dL_isLate_22 ?_
      refine v_iconst (v := (2 : Int32)) C (by decide) dL_isLate_23 ?_
      exact v_Q hQ (v_iret C () trivial (by rw [h]; rfl) (by rw [if_neg hne]) (Nat.le_of_ble_eq_true rfl) (Nat.le_of_ble_eq_true rfl) dL_isLate_24)
    · rw [hEx, h]
      refine ⟨25, ⟨tableOf [(0, 16, 19, 36), (0, 16, 22, 30)], _, tableOf [], rfl, (fun z hz => by rcases List.mem_cons.mp hz with rfl | hz; exact ⟨by decide, _, w_562, List.mem_of_getElem? (i := 1) rfl⟩; cases List.mem_singleton.mp hz; exact ⟨by decide, _, w_538, List.mem_of_getElem? (i := 2) rfl⟩), by decide, by decide, w_699, List.mem_of_getElem? (i := 3) rfl, rfl⟩, fun q => ?_⟩
      refine v_astore_n (lv' := [(3, .ref q), (0, .ref (E.1 0)), (1, .int n), (2, .ref (E.1 33))]) C (Nat.le_of_ble_eq_true rfl) rfl dL_isLate_25 ?_
      refine v_iconst (v := (3 : Int32)) C (by decide) dL_isLate_26 ?_
      exact v_Q hQ (v_iret C () trivial (by rw [h]; rfl) (by rw [if_neg hne]) (Nat.le_of_ble_eq_true rfl) (Nat.le_of_ble_eq_true rfl) dL_isLate_27)
  · refine v_if_eq (tgt := 14) C (by decide) dL_isLate_7 (fun hz => ?_) (fun hz => ?_)
    · refine v_lconst (v := (0 : Int64)) C (by decide) dL_isLate_14 ?_
      refine v_out C dL_isLate_15 ?_
      refine v_goto (tgt := 28) C (by decide) dL_isLate_16 ?_
      refine v_iconst (v := (0 : Int32)) C (by decide) dL_isLate_28 ?_
      exact v_Q hQ (v_iret C () trivial (by rw [hX]; rfl) (by rw [if_pos hX, if_pos hz]) (Nat.le_of_ble_eq_true rfl) (Nat.le_of_ble_eq_true rfl) dL_isLate_29)
    · refine v_lconst (v := (1 : Int64)) C (by decide) dL_isLate_10 ?_
      refine v_goto (tgt := 15) C (by decide) dL_isLate_11 ?_
      refine v_out C dL_isLate_15 ?_
      refine v_goto (tgt := 28) C (by decide) dL_isLate_16 ?_
      refine v_iconst (v := (0 : Int32)) C (by decide) dL_isLate_28 ?_
      exact v_Q hQ (v_iret C () trivial (by rw [hX]; rfl) (by rw [if_pos hX, if_neg hz]) (Nat.le_of_ble_eq_true rfl) (Nat.le_of_ble_eq_true rfl) dL_isLate_29)
theorem xr_bestFinish (σ : Sg) : X_X9_bestFinish σ = 0 ∨ X_X9_bestFinish σ = 4 := by
  unfold X_X9_bestFinish
  (repeat' split) <;> first | decide | (rcases xr_requireBlock _ with h | h <;> rw [h] <;> decide) | (rcases xr_requireFewPending _ with h | h <;> rw [h] <;> decide) | (rcases xr_requireTimeToAccess _ with h | h <;> rw [h] <;> decide)
abbrev rm_L_bestFinish : Room := { frames := 143, cells := 2, slots := 12, locals := 5666 }
set_option maxRecDepth 100000 in
set_option maxHeartbeats 1000000 in
theorem m_L_bestFinish (l : Launch) (G : GG) (E : EE) (σ μ : Sg) (Y : va_W) (htr : l.stackTraces = false) (hK : CNT E σ) : KH (S := Unit) l G yL_bestFinish cL_bestFinish 3 (some .int) [(0, 8, 11, 56)] rm_L_bestFinish [.ref (E.1 0), .ref (E.1 33)] (Wd G E σ μ Y) (fun _ => some (.int (hcd [4] (X_X9_bestFinish σ)))) (fun _ => Wd G (if X_X9_bestFinish σ = 0 then EO E ((F_X9_bestFinish σ).1).toInt64 else E) (F_X9_bestFinish σ).2 μ Y) (fun _ => True) := by
  refine KH.of (by decide) (Nat.le_of_ble_eq_true rfl) ?_
  intro zp ze zs zm za zb zt zc zA C htab
  generalize hQ : MQ zb _ za zs _ _ zA = Q
  show V zp l ze rm_L_bestFinish zs zm za zb zt zc 3 G zA 0 0 Q 0 [(0, .ref (E.1 0)), (1, .ref (E.1 33))] [] (Wd G E σ μ Y)
  refine v_aload_n C 1 rfl dL_bestFinish_0 ?_
  refine v_iconst (v := (0 : Int32)) C (by decide) dL_bestFinish_1 ?_
  refine v_aload_n C 0 rfl dL_bestFinish_2 ?_
  refine v_callVC (rest := [.int (0 : Int32), .ref (E.1 33)]) C htab mv_RL_106 (m_X9_bestFinish l G E σ μ Y htr hK) 0 g_0 rfl rfl rfl rfl (Nat.le_of_ble_eq_true rfl) ⟨(Nat.le_of_ble_eq_true rfl), (Nat.le_of_ble_eq_true rfl)⟩ ⟨(Nat.le_of_ble_eq_true rfl), (Nat.le_of_ble_eq_true rfl)⟩ dL_bestFinish_3 (fun Ex hE => ?_) (fun _ hX => ?_)
  · obtain ⟨hEx, hne⟩ := hE
    rcases xr_bestFinish σ with h | h
    · exact absurd h hne
    · rw [hEx, h]
      refine ⟨11, ⟨tableOf [], _, tableOf [], rfl, (fun z hz => absurd hz List.not_mem_nil), by decide, by decide, w_699, List.mem_of_getElem? (i := 3) rfl, rfl⟩, fun q => ?_⟩
      refine v_astore_n (lv' := [(2, .ref q), (0, .ref (E.1 0)), (1, .ref (E.1 33))]) C (Nat.le_of_ble_eq_true rfl) rfl dL_bestFinish_11 ?_
      refine v_iconst (v := (1 : Int32)) C (by decide) dL_bestFinish_12 ?_
      exact v_Q hQ (v_iret C () trivial (by rw [h]; rfl) (by rw [if_neg hne]) (Nat.le_of_ble_eq_true rfl) (Nat.le_of_ble_eq_true rfl) dL_bestFinish_13)
  · refine v_i2l C dL_bestFinish_6 ?_
    refine v_out C dL_bestFinish_7 ?_
    refine v_goto (tgt := 14) C (by decide) dL_bestFinish_8 ?_
    refine v_iconst (v := (0 : Int32)) C (by decide) dL_bestFinish_14 ?_
    exact v_Q hQ (v_iret C () trivial (by rw [hX]; rfl) (by rw [if_pos hX]) (Nat.le_of_ble_eq_true rfl) (Nat.le_of_ble_eq_true rfl) dL_bestFinish_15)
theorem xr_bestRequest (σ : Sg) (po : Int32) : X_X9_bestRequest σ po = 0 ∨ X_X9_bestRequest σ po = 4 ∨ X_X9_bestRequest σ po = 3 := by
  unfold X_X9_bestRequest
  (repeat' split) <;> first | decide | (rcases xr_requireBlock _ with h | h <;> rw [h] <;> decide) | (rcases xr_requireFewPending _ with h | h <;> rw [h] <;> decide) | (rcases xr_requireTimeToAccess _ with h | h <;> rw [h] <;> decide)
abbrev rm_L_bestRequest : Room := { frames := 143, cells := 2, slots := 12, locals := 5667 }
set_option maxRecDepth 100000 in
set_option maxHeartbeats 1000000 in
theorem m_L_bestRequest (l : Launch) (G : GG) (E : EE) (σ μ : Sg) (Y : va_W) (htr : l.stackTraces = false) (po : Int32) (hK : CNT E σ) : KH (S := Unit) l G yL_bestRequest cL_bestRequest 4 (some .int) [(0, 9, 12, 56), (0, 9, 15, 36)] rm_L_bestRequest [.ref (E.1 0), .int po, .ref (E.1 33)] (Wd G E σ μ Y) (fun _ => some (.int (hcd [4, 3] (X_X9_bestRequest σ po)))) (fun _ => Wd G (if X_X9_bestRequest σ po = 0 then EO E ((F_X9_bestRequest σ po).1).toInt64 else E) (F_X9_bestRequest σ po).2 μ Y) (fun _ => True) := by
  refine KH.of (by decide) (Nat.le_of_ble_eq_true rfl) ?_
  intro zp ze zs zm za zb zt zc zA C htab
  generalize hQ : MQ zb _ za zs _ _ zA = Q
  show V zp l ze rm_L_bestRequest zs zm za zb zt zc 4 G zA 0 0 Q 0 [(0, .ref (E.1 0)), (1, .int po), (2, .ref (E.1 33))] [] (Wd G E σ μ Y)
  refine v_aload_n C 2 rfl dL_bestRequest_0 ?_
  refine v_iconst (v := (0 : Int32)) C (by decide) dL_bestRequest_1 ?_
  refine v_aload_n C 0 rfl dL_bestRequest_2 ?_
  refine v_iload_n C 1 rfl dL_bestRequest_3 ?_
  refine v_callVC (rest := [.int (0 : Int32), .ref (E.1 33)]) C htab mv_RL_109 (m_X9_bestRequest l G E σ μ Y htr po hK) 0 g_0 rfl rfl rfl rfl (Nat.le_of_ble_eq_true rfl) ⟨(Nat.le_of_ble_eq_true rfl), (Nat.le_of_ble_eq_true rfl)⟩ ⟨(Nat.le_of_ble_eq_true rfl), (Nat.le_of_ble_eq_true rfl)⟩ dL_bestRequest_4 (fun Ex hE => ?_) (fun _ hX => ?_)
  · obtain ⟨hEx, hne⟩ := hE
    rcases xr_bestRequest σ po with h | h | h
    · exact absurd h hne
    · rw [hEx, h]
      refine ⟨12, ⟨tableOf [], _, tableOf [(0, 9, 15, 36)], rfl, (fun z hz => absurd hz List.not_mem_nil), by decide, by decide, w_699, List.mem_of_getElem? (i := 3) rfl, rfl⟩, fun q => ?_⟩
      refine v_astore_n (lv' := [(3, .ref q), (0, .ref (E.1 0)), (1, .int po), (2, .ref (E.1 33))]) C (Nat.le_of_ble_eq_true rfl) rfl dL_bestRequest_12 ?_
      refine v_iconst (v := (1 : Int32)) C (by decide) dL_bestRequest_13 ?_
      exact v_Q hQ (v_iret C () trivial (by rw [h]; rfl) (by rw [if_neg hne]) (Nat.le_of_ble_eq_true rfl) (Nat.le_of_ble_eq_true rfl) dL_bestRequest_14)
    · rw [hEx, h]
      refine ⟨15, ⟨tableOf [(0, 9, 12, 56)], _, tableOf [], rfl, (fun z hz => by cases List.mem_singleton.mp hz; exact ⟨by decide, _, w_699, List.mem_of_getElem? (i := 6) rfl⟩), by decide, by decide, w_562, List.mem_of_getElem? (i := 2) rfl, rfl⟩, fun q => ?_⟩
      refine v_astore_n (lv' := [(3, .ref q), (0, .ref (E.1 0)), (1, .int po), (2, .ref (E.1 33))]) C (Nat.le_of_ble_eq_true rfl) rfl dL_bestRequest_15 ?_
      refine v_iconst (v := (2 : Int32)) C (by decide) dL_bestRequest_16 ?_
      exact v_Q hQ (v_iret C () trivial (by rw [h]; rfl) (by rw [if_neg hne]) (Nat.le_of_ble_eq_true rfl) (Nat.le_of_ble_eq_true rfl) dL_bestRequest_17)
  · refine v_i2l C dL_bestRequest_7 ?_
    refine v_out C dL_bestRequest_8 ?_
    refine v_goto (tgt := 18) C (by decide) dL_bestRequest_9 ?_
    refine v_iconst (v := (0 : Int32)) C (by decide) dL_bestRequest_18 ?_
    exact v_Q hQ (v_iret C () trivial (by rw [hX]; rfl) (by rw [if_pos hX]) (Nat.le_of_ble_eq_true rfl) (Nat.le_of_ble_eq_true rfl) dL_bestRequest_19)
theorem xr_canMeetDeadlines (σ : Sg) : X_X9_canMeetDeadlines σ = 0 ∨ X_X9_canMeetDeadlines σ = 4 := by
  unfold X_X9_canMeetDeadlines
  (repeat' split) <;> first | decide | (rcases xr_requireBlock _ with h | h <;> rw [h] <;> decide) | (rcases xr_requireFewPending _ with h | h <;> rw [h] <;> decide) | (rcases xr_requireTimeToAccess _ with h | h <;> rw [h] <;> decide)
abbrev rm_L_canMeetDeadlines : Room := { frames := 143, cells := 2, slots := 12, locals := 5666 }
set_option maxRecDepth 100000 in
set_option maxHeartbeats 1000000 in
theorem m_L_canMeetDeadlines (l : Launch) (G : GG) (E : EE) (σ μ : Sg) (Y : va_W) (htr : l.stackTraces = false) (hK : CNT E σ) : KH (S := Unit) l G yL_canMeetDeadlines cL_canMeetDeadlines 3 (some .int) [(0, 15, 18, 56)] rm_L_canMeetDeadlines [.ref (E.1 0), .ref (E.1 33)] (Wd G E σ μ Y) (fun _ => some (.int (hcd [4] (X_X9_canMeetDeadlines σ)))) (fun _ => Wd G (if X_X9_canMeetDeadlines σ = 0 then EO E (if ((F_X9_canMeetDeadlines σ).1) = 0 then (0 : Int64) else 1) else E) (F_X9_canMeetDeadlines σ).2 μ Y) (fun _ => True) := by
  refine KH.of (by decide) (Nat.le_of_ble_eq_true rfl) ?_
  intro zp ze zs zm za zb zt zc zA C htab
  generalize hQ : MQ zb _ za zs _ _ zA = Q
  show V zp l ze rm_L_canMeetDeadlines zs zm za zb zt zc 3 G zA 0 0 Q 0 [(0, .ref (E.1 0)), (1, .ref (E.1 33))] [] (Wd G E σ μ Y)
  refine v_aload_n C 1 rfl dL_canMeetDeadlines_0 ?_
  refine v_iconst (v := (0 : Int32)) C (by decide) dL_canMeetDeadlines_1 ?_
  refine v_aload_n C 0 rfl dL_canMeetDeadlines_2 ?_
  refine v_callVC (rest := [.int (0 : Int32), .ref (E.1 33)]) C htab mv_RL_112 (m_X9_canMeetDeadlines l G E σ μ Y htr hK) 0 g_0 rfl rfl rfl rfl (Nat.le_of_ble_eq_true rfl) ⟨(Nat.le_of_ble_eq_true rfl), (Nat.le_of_ble_eq_true rfl)⟩ ⟨(Nat.le_of_ble_eq_true rfl), (Nat.le_of_ble_eq_true rfl)⟩ dL_canMeetDeadlines_3 (fun Ex hE => ?_) (fun _ hX => ?_)
  · obtain ⟨hEx, hne⟩ := hE
    rcases xr_canMeetDeadlines σ with h | h
    · exact absurd h hne
    · rw [hEx, h]
      refine ⟨18, ⟨tableOf [], _, tableOf [], rfl, (fun z hz => absurd hz List.not_mem_nil), by decide, by decide, w_699, List.mem_of_getElem? (i := 3) rfl, rfl⟩, fun q => ?_⟩
      refine v_astore_n (lv' := [(2, .ref q), (0, .ref (E.1 0)), (1, .ref (E.1 33))]) C (Nat.le_of_ble_eq_true rfl) rfl dL_canMeetDeadlines_18 ?_
      refine v_iconst (v := (1 : Int32)) C (by decide) dL_canMeetDeadlines_19 ?_
      exact v_Q hQ (v_iret C () trivial (by rw [h]; rfl) (by rw [if_neg hne]) (Nat.le_of_ble_eq_true rfl) (Nat.le_of_ble_eq_true rfl) dL_canMeetDeadlines_20)
  · refine v_if_eq (tgt := 13) C (by decide) dL_canMeetDeadlines_6 (fun hz => ?_) (fun hz => ?_)
    · refine v_lconst (v := (0 : Int64)) C (by decide) dL_canMeetDeadlines_13 ?_
      refine v_out C dL_canMeetDeadlines_14 ?_
      refine v_goto (tgt := 21) C (by decide) dL_canMeetDeadlines_15 ?_
      refine v_iconst (v := (0 : Int32)) C (by decide) dL_canMeetDeadlines_21 ?_
      exact v_Q hQ (v_iret C () trivial (by rw [hX]; rfl) (by rw [if_pos hX, if_pos hz]) (Nat.le_of_ble_eq_true rfl) (Nat.le_of_ble_eq_true rfl) dL_canMeetDeadlines_22)
    · refine v_lconst (v := (1 : Int64)) C (by decide) dL_canMeetDeadlines_9 ?_
      refine v_goto (tgt := 14) C (by decide) dL_canMeetDeadlines_10 ?_
      refine v_out C dL_canMeetDeadlines_14 ?_
      refine v_goto (tgt := 21) C (by decide) dL_canMeetDeadlines_15 ?_
      refine v_iconst (v := (0 : Int32)) C (by decide) dL_canMeetDeadlines_21 ?_
      exact v_Q hQ (v_iret C () trivial (by rw [hX]; rfl) (by rw [if_pos hX, if_neg hz]) (Nat.le_of_ble_eq_true rfl) (Nat.le_of_ble_eq_true rfl) dL_canMeetDeadlines_22)
theorem xr_total (σ : Sg) (wh : Int32) : X_X9_total σ wh = 0 ∨ X_X9_total σ wh = 1 := by
  unfold X_X9_total
  (repeat' split) <;> first | decide | (rcases xr_requireBlock _ with h | h <;> rw [h] <;> decide) | (rcases xr_requireFewPending _ with h | h <;> rw [h] <;> decide) | (rcases xr_requireTimeToAccess _ with h | h <;> rw [h] <;> decide)
abbrev rm_L_total : Room := { frames := 7, cells := 1, slots := 6, locals := 141 }
set_option maxRecDepth 100000 in
set_option maxHeartbeats 1000000 in
theorem m_L_total (l : Launch) (G : GG) (E : EE) (σ μ : Sg) (Y : va_W) (htr : l.stackTraces = false) (wh : Int32) : KH (S := Unit) l G yL_total cL_total 4 (some .int) [(0, 9, 12, 13)] rm_L_total [.ref (E.1 0), .int wh, .ref (E.1 33)] (Wd G E σ μ Y) (fun _ => some (.int (hcd [1] (X_X9_total σ wh)))) (fun _ => Wd G (if X_X9_total σ wh = 0 then EO E (F_X9_total σ wh).toInt64 else E) σ μ Y) (fun _ => True) := by
  refine KH.of (by decide) (Nat.le_of_ble_eq_true rfl) ?_
  intro zp ze zs zm za zb zt zc zA C htab
  generalize hQ : MQ zb _ za zs _ _ zA = Q
  show V zp l ze rm_L_total zs zm za zb zt zc 4 G zA 0 0 Q 0 [(0, .ref (E.1 0)), (1, .int wh), (2, .ref (E.1 33))] [] (Wd G E σ μ Y)
  refine v_aload_n C 2 rfl dL_total_0 ?_
  refine v_iconst (v := (0 : Int32)) C (by decide) dL_total_1 ?_
  refine v_aload_n C 0 rfl dL_total_2 ?_
  refine v_iload_n C 1 rfl dL_total_3 ?_
  refine v_callVC (rest := [.int (0 : Int32), .ref (E.1 33)]) C htab mv_RL_116 (m_X9_total l G E σ μ Y htr wh) 0 g_0 rfl rfl rfl rfl (Nat.le_of_ble_eq_true rfl) ⟨(Nat.le_of_ble_eq_true rfl), (Nat.le_of_ble_eq_true rfl)⟩ ⟨(Nat.le_of_ble_eq_true rfl), (Nat.le_of_ble_eq_true rfl)⟩ dL_total_4 (fun Ex hE => ?_) (fun _ hX => ?_)
  · obtain ⟨hEx, hne⟩ := hE
    rcases xr_total σ wh with h | h
    · exact absurd h hne
    · rw [hEx, h]
      refine ⟨12, ⟨tableOf [], _, tableOf [], rfl, (fun z hz => absurd hz List.not_mem_nil), by decide, by decide, w_433, List.mem_of_getElem? (i := 0) rfl, rfl⟩, fun q => ?_⟩
      refine v_astore_n (lv' := [(3, .ref q), (0, .ref (E.1 0)), (1, .int wh), (2, .ref (E.1 33))]) C (Nat.le_of_ble_eq_true rfl) rfl dL_total_12 ?_
      refine v_iconst (v := (1 : Int32)) C (by decide) dL_total_13 ?_
      exact v_Q hQ (v_iret C () trivial (by rw [h]; rfl) (by rw [if_neg hne]) (Nat.le_of_ble_eq_true rfl) (Nat.le_of_ble_eq_true rfl) dL_total_14)
  · refine v_i2l C dL_total_7 ?_
    refine v_out C dL_total_8 ?_
    refine v_goto (tgt := 15) C (by decide) dL_total_9 ?_
    refine v_iconst (v := (0 : Int32)) C (by decide) dL_total_15 ?_
    exact v_Q hQ (v_iret C () trivial (by rw [hX]; rfl) (by rw [if_pos hX]) (Nat.le_of_ble_eq_true rfl) (Nat.le_of_ble_eq_true rfl) dL_total_16)
