theorem n_lateShare {σ : Sg} (hF : FNN) (hX : X_X9_lateShare σ = 0) : vf_n32 (F_X9_lateShare σ) := by
  unfold X_X9_lateShare at hX
  unfold F_X9_lateShare
  split
  · rename_i h; rw [if_pos h] at hX; exact absurd hX (by decide)
  · rename_i h; exact hF.2.1 _ _ h
theorem xr_utilization (σ : Sg) : X_X9_utilization σ = 0 ∨ X_X9_utilization σ = 6 := by
  unfold X_X9_utilization
  (repeat' split) <;> first | decide | (rcases xr_requireBlock _ with h | h <;> rw [h] <;> decide) | (rcases xr_requireFewPending _ with h | h <;> rw [h] <;> decide) | (rcases xr_requireTimeToAccess _ with h | h <;> rw [h] <;> decide)
abbrev rm_L_utilization : Room := { frames := 7, cells := 1, slots := 6, locals := 141 }
set_option maxRecDepth 100000 in
set_option maxHeartbeats 1000000 in
theorem m_L_utilization (l : Launch) (G : GG) (E : EE) (σ μ : Sg) (Y : va_W) (htr : l.stackTraces = false) (hF : FNN) : KH (S := Unit) l G yL_utilization cL_utilization 3 (some .int) [(0, 7, 10, 123)] rm_L_utilization [.ref (E.1 0), .ref (E.1 34)] (Wd G E σ μ Y) (fun _ => some (.int (hcd [6] (X_X9_utilization σ)))) (fun _ => Wd G (if X_X9_utilization σ = 0 then ED E (F_X9_utilization σ) else E) σ μ Y) (fun _ => True) := by
  refine KH.of (by decide) (Nat.le_of_ble_eq_true rfl) ?_
  intro zp ze zs zm za zb zt zc zA C htab
  generalize hQ : MQ zb _ za zs _ _ zA = Q
  show V zp l ze rm_L_utilization zs zm za zb zt zc 3 G zA 0 0 Q 0 [(0, .ref (E.1 0)), (1, .ref (E.1 34))] [] (Wd G E σ μ Y)
  refine v_aload_n C 1 rfl dL_utilization_0 ?_
  refine v_iconst (v := (0 : Int32)) C (by decide) dL_utilization_1 ?_
  refine v_aload_n C 0 rfl dL_utilization_2 ?_
  refine v_callVC (rest := [.int (0 : Int32), .ref (E.1 34)]) C htab mv_RL_119 (m_X9_utilization l G E σ μ Y htr hF) 0 g_0 rfl rfl rfl rfl (Nat.le_of_ble_eq_true rfl) ⟨(Nat.le_of_ble_eq_true rfl), (Nat.le_of_ble_eq_true rfl)⟩ ⟨(Nat.le_of_ble_eq_true rfl), (Nat.le_of_ble_eq_true rfl)⟩ dL_utilization_3 (fun Ex hE => ?_) (fun _ hX => ?_)
  · obtain ⟨hEx, hne⟩ := hE
    rcases xr_utilization σ with h | h
    · exact absurd h hne
    · rw [hEx, h]
      refine ⟨10, ⟨tableOf [], _, tableOf [], rfl, (fun z hz => absurd hz List.not_mem_nil), by decide, by decide, w_1091, List.mem_of_getElem? (i := 5) rfl, rfl⟩, fun q => ?_⟩
      refine v_astore_n (lv' := [(2, .ref q), (0, .ref (E.1 0)), (1, .ref (E.1 34))]) C (Nat.le_of_ble_eq_true rfl) rfl dL_utilization_10 ?_
      refine v_iconst (v := (1 : Int32)) C (by decide) dL_utilization_11 ?_
      exact v_Q hQ (v_iret C () trivial (by rw [h]; rfl) (by rw [if_neg hne]) (Nat.le_of_ble_eq_true rfl) (Nat.le_of_ble_eq_true rfl) dL_utilization_12)
  · refine v_outD C dL_utilization_6 ?_
    refine v_goto (tgt := 13) C (by decide) dL_utilization_7 ?_
    refine v_iconst (v := (0 : Int32)) C (by decide) dL_utilization_13 ?_
    exact v_Q hQ (v_iret C () trivial (by rw [hX]; rfl) (by rw [if_pos hX]) (Nat.le_of_ble_eq_true rfl) (Nat.le_of_ble_eq_true rfl) dL_utilization_14)
theorem xr_averageResponse (σ : Sg) : X_X9_averageResponse σ = 0 ∨ X_X9_averageResponse σ = 6 := by
  unfold X_X9_averageResponse
  (repeat' split) <;> first | decide | (rcases xr_requireBlock _ with h | h <;> rw [h] <;> decide) | (rcases xr_requireFewPending _ with h | h <;> rw [h] <;> decide) | (rcases xr_requireTimeToAccess _ with h | h <;> rw [h] <;> decide)
abbrev rm_L_averageResponse : Room := { frames := 7, cells := 1, slots := 6, locals := 141 }
set_option maxRecDepth 100000 in
set_option maxHeartbeats 1000000 in
theorem m_L_averageResponse (l : Launch) (G : GG) (E : EE) (σ μ : Sg) (Y : va_W) (htr : l.stackTraces = false) (hK : CNT E σ) (hF : FNN) : KH (S := Unit) l G yL_averageResponse cL_averageResponse 3 (some .int) [(0, 7, 10, 123)] rm_L_averageResponse [.ref (E.1 0), .ref (E.1 34)] (Wd G E σ μ Y) (fun _ => some (.int (hcd [6] (X_X9_averageResponse σ)))) (fun _ => Wd G (if X_X9_averageResponse σ = 0 then ED E (F_X9_averageResponse σ) else E) σ μ Y) (fun _ => True) := by
  refine KH.of (by decide) (Nat.le_of_ble_eq_true rfl) ?_
  intro zp ze zs zm za zb zt zc zA C htab
  generalize hQ : MQ zb _ za zs _ _ zA = Q
  show V zp l ze rm_L_averageResponse zs zm za zb zt zc 3 G zA 0 0 Q 0 [(0, .ref (E.1 0)), (1, .ref (E.1 34))] [] (Wd G E σ μ Y)
  refine v_aload_n C 1 rfl dL_averageResponse_0 ?_
  refine v_iconst (v := (0 : Int32)) C (by decide) dL_averageResponse_1 ?_
  refine v_aload_n C 0 rfl dL_averageResponse_2 ?_
  refine v_callVC (rest := [.int (0 : Int32), .ref (E.1 34)]) C htab mv_RL_125 (m_X9_averageResponse l G E σ μ Y htr hK hF) 0 g_0 rfl rfl rfl rfl (Nat.le_of_ble_eq_true rfl) ⟨(Nat.le_of_ble_eq_true rfl), (Nat.le_of_ble_eq_true rfl)⟩ ⟨(Nat.le_of_ble_eq_true rfl), (Nat.le_of_ble_eq_true rfl)⟩ dL_averageResponse_3 (fun Ex hE => ?_) (fun _ hX => ?_)
  · obtain ⟨hEx, hne⟩ := hE
    rcases xr_averageResponse σ with h | h
    · exact absurd h hne
    · rw [hEx, h]
      refine ⟨10, ⟨tableOf [], _, tableOf [], rfl, (fun z hz => absurd hz List.not_mem_nil), by decide, by decide, w_1091, List.mem_of_getElem? (i := 5) rfl, rfl⟩, fun q => ?_⟩
      refine v_astore_n (lv' := [(2, .ref q), (0, .ref (E.1 0)), (1, .ref (E.1 34))]) C (Nat.le_of_ble_eq_true rfl) rfl dL_averageResponse_10 ?_
      refine v_iconst (v := (1 : Int32)) C (by decide) dL_averageResponse_11 ?_
      exact v_Q hQ (v_iret C () trivial (by rw [h]; rfl) (by rw [if_neg hne]) (Nat.le_of_ble_eq_true rfl) (Nat.le_of_ble_eq_true rfl) dL_averageResponse_12)
  · refine v_outD C dL_averageResponse_6 ?_
    refine v_goto (tgt := 13) C (by decide) dL_averageResponse_7 ?_
    refine v_iconst (v := (0 : Int32)) C (by decide) dL_averageResponse_13 ?_
    exact v_Q hQ (v_iret C () trivial (by rw [hX]; rfl) (by rw [if_pos hX]) (Nat.le_of_ble_eq_true rfl) (Nat.le_of_ble_eq_true rfl) dL_averageResponse_14)
theorem xr_lateShare (σ : Sg) : X_X9_lateShare σ = 0 ∨ X_X9_lateShare σ = 6 := by
  unfold X_X9_lateShare
  (repeat' split) <;> first | decide | (rcases xr_requireBlock _ with h | h <;> rw [h] <;> decide) | (rcases xr_requireFewPending _ with h | h <;> rw [h] <;> decide) | (rcases xr_requireTimeToAccess _ with h | h <;> rw [h] <;> decide)
abbrev rm_L_lateShare : Room := { frames := 7, cells := 1, slots := 6, locals := 141 }
set_option maxRecDepth 100000 in
set_option maxHeartbeats 1000000 in
theorem m_L_lateShare (l : Launch) (G : GG) (E : EE) (σ μ : Sg) (Y : va_W) (htr : l.stackTraces = false) (hK : CNT E σ) (hF : FNN) : KH (S := Unit) l G yL_lateShare cL_lateShare 3 (some .int) [(0, 8, 11, 123)] rm_L_lateShare [.ref (E.1 0), .ref (E.1 34)] (Wd G E σ μ Y) (fun _ => some (.int (hcd [6] (X_X9_lateShare σ)))) (fun _ => Wd G (if X_X9_lateShare σ = 0 then ED E (FP.f2d (F_X9_lateShare σ)) else E) σ μ Y) (fun _ => True) := by
  refine KH.of (by decide) (Nat.le_of_ble_eq_true rfl) ?_
  intro zp ze zs zm za zb zt zc zA C htab
  generalize hQ : MQ zb _ za zs _ _ zA = Q
  show V zp l ze rm_L_lateShare zs zm za zb zt zc 3 G zA 0 0 Q 0 [(0, .ref (E.1 0)), (1, .ref (E.1 34))] [] (Wd G E σ μ Y)
  refine v_aload_n C 1 rfl dL_lateShare_0 ?_
  refine v_iconst (v := (0 : Int32)) C (by decide) dL_lateShare_1 ?_
  refine v_aload_n C 0 rfl dL_lateShare_2 ?_
  refine v_callVC (rest := [.int (0 : Int32), .ref (E.1 34)]) C htab mv_RL_128 (m_X9_lateShare l G E σ μ Y htr hK hF) 0 g_0 rfl rfl rfl rfl (Nat.le_of_ble_eq_true rfl) ⟨(Nat.le_of_ble_eq_true rfl), (Nat.le_of_ble_eq_true rfl)⟩ ⟨(Nat.le_of_ble_eq_true rfl), (Nat.le_of_ble_eq_true rfl)⟩ dL_lateShare_3 (fun Ex hE => ?_) (fun _ hX => ?_)
  · obtain ⟨hEx, hne⟩ := hE
    rcases xr_lateShare σ with h | h
    · exact absurd h hne
    · rw [hEx, h]
      refine ⟨11, ⟨tableOf [], _, tableOf [], rfl, (fun z hz => absurd hz List.not_mem_nil), by decide, by decide, w_1091, List.mem_of_getElem? (i := 5) rfl, rfl⟩, fun q => ?_⟩
      refine v_astore_n (lv' := [(2, .ref q), (0, .ref (E.1 0)), (1, .ref (E.1 34))]) C (Nat.le_of_ble_eq_true rfl) rfl dL_lateShare_11 ?_
      refine v_iconst (v := (1 : Int32)) C (by decide) dL_lateShare_12 ?_
      exact v_Q hQ (v_iret C () trivial (by rw [h]; rfl) (by rw [if_neg hne]) (Nat.le_of_ble_eq_true rfl) (Nat.le_of_ble_eq_true rfl) dL_lateShare_13)
  · refine v_f2d C (hF.2.2.1 _ (n_lateShare hF hX)) dL_lateShare_6 ?_
    refine v_outD C dL_lateShare_7 ?_
    refine v_goto (tgt := 14) C (by decide) dL_lateShare_8 ?_
    refine v_iconst (v := (0 : Int32)) C (by decide) dL_lateShare_14 ?_
    exact v_Q hQ (v_iret C () trivial (by rw [hX]; rfl) (by rw [if_pos hX]) (Nat.le_of_ble_eq_true rfl) (Nat.le_of_ble_eq_true rfl) dL_lateShare_15)
