def F_X9_next (σ : Sg) : Int32 × Sg := (let r1 := F_X7_choose σ; (if r1.1 = (-1 : Int32) then (0, r1.2) else (r1.1, r1.2)))
def X_X9_next (σ : Sg) : Nat := (let r1 := F_X7_choose σ; (if r1.1 = (-1 : Int32) then 5 else 0))
abbrev rm_X9_next : Room := { frames := 143, cells := 1, slots := 6, locals := 5674 }
set_option maxRecDepth 100000 in
set_option maxHeartbeats 4000000 in
theorem m_X9_next (l : Launch) (G : GG) (E : EE) (σ μ : Sg) (Y : va_W) (htr : l.stackTraces = false) (hK : CNT E σ) : KX (S := Unit) l G yX9_next cX9_next 2 (some .int) rm_X9_next [.ref (E.1 0)] (Wd G E σ μ Y) (fun _ => (some (.int (F_X9_next σ).1))) (fun _ => (Wd G E (F_X9_next σ).2 μ Y)) (fun _ => X_X9_next σ = 0) (Wd G E (F_X9_next σ).2 μ Y) (fun Ex => Ex = exn (X_X9_next σ) ∧ ¬ X_X9_next σ = 0) := by
  refine KX.of (by decide) (Nat.le_of_ble_eq_true rfl) ?_
  intro zp ze zs zm za zb zt zc zA C htab
  let Q := vx_MQ zb (QcW (S := Unit) G zA (fun _ => (some (.int (F_X9_next σ).1))) (fun _ => (Wd G E (F_X9_next σ).2 μ Y)) (fun _ => X_X9_next σ = 0)) (XcW G zA (Wd G E (F_X9_next σ).2 μ Y) (fun Ex => Ex = exn (X_X9_next σ) ∧ ¬ X_X9_next σ = 0)) za zs rm_X9_next.cells rm_X9_next.slots zA
  show V zp l ze rm_X9_next zs zm za zb zt zc 2 G zA 0 0 Q 0 [(0, .ref (E.1 0))] [] (Wd G E σ μ Y)
  refine v_aload_n C 0 rfl dX9_next_0 ?_
  refine v_get (v := .ref (E.1 1)) C fl_RX9_10 0 g_0 rfl dX9_next_1 ?_
  refine v_get (v := .ref (E.1 7)) C fl_RX9_64 1 g_1 rfl dX9_next_4 ?_
  refine v_aload_n C 0 rfl dX9_next_7 ?_
  refine v_get (v := .ref (E.1 1)) C fl_RX9_10 0 g_0 rfl dX9_next_8 ?_
  refine v_get (v := .ref (E.1 5)) C fl_RX9_219 1 g_1 rfl dX9_next_11 ?_
  refine v_aload_n C 0 rfl dX9_next_14 ?_
  refine v_get (v := .ref (E.1 1)) C fl_RX9_10 0 g_0 rfl dX9_next_15 ?_
  refine v_get (v := .ref (E.1 2)) C fl_RX9_41 1 g_1 rfl dX9_next_18 ?_
  refine v_aload_n C 0 rfl dX9_next_21 ?_
  refine v_get (v := .ref (E.1 10)) C fl_RX9_19 0 g_0 rfl dX9_next_22 ?_
  refine v_cV1 (rest := []) C mv_RX9_229 (m_X7_choose l G E σ μ Y hK) 7 g_7 rfl rfl rfl rfl (Nat.le_of_ble_eq_true rfl) ⟨Nat.le_of_ble_eq_true rfl, Nat.le_of_ble_eq_true rfl⟩ ⟨rfl, rfl⟩ ⟨Nat.le_of_ble_eq_true rfl, Nat.le_of_ble_eq_true rfl⟩ dX9_next_25 ?_
  generalize hr1 : F_X7_choose σ = r1
  refine v_istore_n (lv' := [(1, .int r1.1), (0, .ref (E.1 0))]) C (Nat.le_of_ble_eq_true rfl) rfl dX9_next_28 ?_
  refine v_iload_n C 0 rfl dX9_next_29 ?_
  refine v_iconst (v := (-1 : Int32)) C (by decide) dX9_next_30 ?_
  refine v_icmp_ne (tgt := 44) C (by decide) dX9_next_31 (fun h1 => ?_) (fun h1 => ?_)
  · refine v_iload_n C 0 rfl dX9_next_44 ?_
    have e1 : F_X9_next σ = (r1.1, r1.2) := by rw [F_X9_next]; simp only [hr1, if_neg h1]
    have e2 : X_X9_next σ = 0 := by rw [X_X9_next]; simp only [hr1, if_neg h1]
    exact v_X (v_iret C () e2 (by rw [e1]) (by rw [e1]) (Nat.le_of_ble_eq_true rfl) (Nat.le_of_ble_eq_true rfl) dX9_next_45)
  · have e1 : F_X9_next σ = (0, r1.2) := by rw [F_X9_next]; simp only [hr1, if_pos h1]
    have e2 : X_X9_next σ = 5 := by rw [X_X9_next]; simp only [hr1, if_pos h1]
    exact v_throwN C htab htr (List.mem_of_getElem? (i := 18) rfl) (by show _ = _ ∧ _; rw [e2]; exact ⟨rfl, by decide⟩) (by first | with_reducible rfl | rw [e1]) dX9_next_34 dX9_next_37 dX9_next_38 dX9_next_40 dX9_next_43 ⟨Nat.le_of_ble_eq_true rfl, Nat.le_of_ble_eq_true rfl, Nat.le_of_ble_eq_true rfl, Nat.le_of_ble_eq_true rfl⟩ ⟨Nat.le_of_ble_eq_true rfl, Nat.le_of_ble_eq_true rfl⟩
def F_X9_serve (σ : Sg) : Int32 × Sg := (if (σ 5 1) = 0 then (0, σ) else (if (X_X9_requireTimeToAccess σ) = 0 then (let r1 := F_X8_serveChosen σ; (r1.1, r1.2)) else (0, σ)))
def X_X9_serve (σ : Sg) : Nat := (if (σ 5 1) = 0 then 5 else (if (X_X9_requireTimeToAccess σ) = 0 then (let r1 := F_X8_serveChosen σ; 0) else (X_X9_requireTimeToAccess σ)))
abbrev rm_X9_serve : Room := { frames := 144, cells := 2, slots := 12, locals := 5697 }
set_option maxRecDepth 100000 in
set_option maxHeartbeats 4000000 in
theorem m_X9_serve (l : Launch) (G : GG) (E : EE) (σ μ : Sg) (Y : va_W) (htr : l.stackTraces = false) (hK : CNT E σ) : KX (S := Unit) l G yX9_serve cX9_serve 1 (some .int) rm_X9_serve [.ref (E.1 0)] (Wd G E σ μ Y) (fun _ => (some (.int (F_X9_serve σ).1))) (fun _ => (Wd G E (F_X9_serve σ).2 μ Y)) (fun _ => X_X9_serve σ = 0) (Wd G E (F_X9_serve σ).2 μ Y) (fun Ex => Ex = exn (X_X9_serve σ) ∧ ¬ X_X9_serve σ = 0) := by
  refine KX.of (by decide) (Nat.le_of_ble_eq_true rfl) ?_
  intro zp ze zs zm za zb zt zc zA C htab
  let Q := vx_MQ zb (QcW (S := Unit) G zA (fun _ => (some (.int (F_X9_serve σ).1))) (fun _ => (Wd G E (F_X9_serve σ).2 μ Y)) (fun _ => X_X9_serve σ = 0)) (XcW G zA (Wd G E (F_X9_serve σ).2 μ Y) (fun Ex => Ex = exn (X_X9_serve σ) ∧ ¬ X_X9_serve σ = 0)) za zs rm_X9_serve.cells rm_X9_serve.slots zA
  show V zp l ze rm_X9_serve zs zm za zb zt zc 1 G zA 0 0 Q 0 [(0, .ref (E.1 0))] [] (Wd G E σ μ Y)
  refine v_aload_n C 0 rfl dX9_serve_0 ?_
  refine v_get (v := .ref (E.1 1)) C fl_RX9_10 0 g_0 rfl dX9_serve_1 ?_
  refine v_get (v := .ref (E.1 5)) C fl_RX9_219 1 g_1 rfl dX9_serve_4 ?_
  refine v_get (v := .int (σ 5 1)) C fl_RX9_238 5 g_5 rfl dX9_serve_7 ?_
  refine v_if_ne (tgt := 23) C (by decide) dX9_serve_10 (fun h1 => ?_) (fun h1 => ?_)
  · refine v_aload_n C 0 rfl dX9_serve_23 ?_
    refine v_callVX (rest := []) C htab mv_RX9_241 (m_X9_requireTimeToAccess l G E σ μ Y htr) (fun Ex hE => ?_) 0 g_0 rfl rfl rfl rfl (Nat.le_of_ble_eq_true rfl) ⟨Nat.le_of_ble_eq_true rfl, Nat.le_of_ble_eq_true rfl⟩ ⟨Nat.le_of_ble_eq_true rfl, Nat.le_of_ble_eq_true rfl⟩ ⟨Nat.le_of_ble_eq_true rfl, Nat.le_of_ble_eq_true rfl⟩ dX9_serve_24 (fun _ h2 => ?_)
    · have e1 : F_X9_serve σ = (0, σ) := by rw [F_X9_serve, if_neg h1, if_neg hE.2]
      have e2 : X_X9_serve σ = X_X9_requireTimeToAccess σ := by rw [X_X9_serve, if_neg h1, if_neg hE.2]
      exact ⟨(by show _ = _ ∧ _; rw [e2]; exact hE), (by first | with_reducible rfl | rw [e1])⟩
    · refine v_aload_n C 0 rfl dX9_serve_27 ?_
      refine v_get (v := .ref (E.1 1)) C fl_RX9_10 0 g_0 rfl dX9_serve_28 ?_
      refine v_aload_n C 0 rfl dX9_serve_31 ?_
      refine v_get (v := .ref (E.1 10)) C fl_RX9_19 0 g_0 rfl dX9_serve_32 ?_
      refine v_cV1 (rest := []) C mv_RX9_244 (m_X8_serveChosen l G E σ μ Y hK) 1 g_1 rfl rfl rfl rfl (Nat.le_of_ble_eq_true rfl) ⟨Nat.le_of_ble_eq_true rfl, Nat.le_of_ble_eq_true rfl⟩ ⟨rfl, rfl⟩ ⟨Nat.le_of_ble_eq_true rfl, Nat.le_of_ble_eq_true rfl⟩ dX9_serve_35 ?_
      generalize hr1 : F_X8_serveChosen σ = r1
      have e1 : F_X9_serve σ = (r1.1, r1.2) := by rw [F_X9_serve]; simp only [if_neg h1, if_pos h2, hr1]
      have e2 : X_X9_serve σ = 0 := by rw [X_X9_serve]; simp only [if_neg h1, if_pos h2, hr1]
      exact v_X (v_iret C () e2 (by rw [e1]) (by rw [e1]) (Nat.le_of_ble_eq_true rfl) (Nat.le_of_ble_eq_true rfl) dX9_serve_38)
  · have e1 : F_X9_serve σ = (0, σ) := by rw [F_X9_serve, if_pos h1]
    have e2 : X_X9_serve σ = 5 := by rw [X_X9_serve, if_pos h1]
    exact v_throwN C htab htr (List.mem_of_getElem? (i := 18) rfl) (by show _ = _ ∧ _; rw [e2]; exact ⟨rfl, by decide⟩) (by first | with_reducible rfl | rw [e1]) dX9_serve_13 dX9_serve_16 dX9_serve_17 dX9_serve_19 dX9_serve_22 ⟨Nat.le_of_ble_eq_true rfl, Nat.le_of_ble_eq_true rfl, Nat.le_of_ble_eq_true rfl, Nat.le_of_ble_eq_true rfl⟩ ⟨Nat.le_of_ble_eq_true rfl, Nat.le_of_ble_eq_true rfl⟩
theorem xr_next (σ : Sg) : X_X9_next σ = 0 ∨ X_X9_next σ = 5 := by
  unfold X_X9_next
  simp only []
  (repeat' split) <;> first | decide | (rcases xr_requireBlock _ with h | h <;> rw [h] <;> decide) | (rcases xr_requireFewPending _ with h | h <;> rw [h] <;> decide) | (rcases xr_requireTimeToAccess _ with h | h <;> rw [h] <;> decide)
abbrev rm_L_next : Room := { frames := 144, cells := 1, slots := 6, locals := 5695 }
set_option maxRecDepth 100000 in
set_option maxHeartbeats 1000000 in
theorem m_L_next (l : Launch) (G : GG) (E : EE) (σ μ : Sg) (Y : va_W) (htr : l.stackTraces = false) (hK : CNT E σ) : KH (S := Unit) l G yL_next cL_next 3 (some .int) [(0, 8, 11, 82)] rm_L_next [.ref (E.1 0), .ref (E.1 33)] (Wd G E σ μ Y) (fun _ => some (.int (hcd [5] (X_X9_next σ)))) (fun _ => Wd G (if X_X9_next σ = 0 then EO E ((F_X9_next σ).1).toInt64 else E) (F_X9_next σ).2 μ Y) (fun _ => True) := by
  refine KH.of (by decide) (Nat.le_of_ble_eq_true rfl) ?_
  intro zp ze zs zm za zb zt zc zA C htab
  generalize hQ : MQ zb _ za zs _ _ zA = Q
  show V zp l ze rm_L_next zs zm za zb zt zc 3 G zA 0 0 Q 0 [(0, .ref (E.1 0)), (1, .ref (E.1 33))] [] (Wd G E σ μ Y)
  refine v_aload_n C 1 rfl dL_next_0 ?_
  refine v_iconst (v := (0 : Int32)) C (by decide) dL_next_1 ?_
  refine v_aload_n C 0 rfl dL_next_2 ?_
  refine v_callVC (rest := [.int (0 : Int32), .ref (E.1 33)]) C htab mv_RL_79 (m_X9_next l G E σ μ Y htr hK) 0 g_0 rfl rfl rfl rfl (Nat.le_of_ble_eq_true rfl) ⟨(Nat.le_of_ble_eq_true rfl), (Nat.le_of_ble_eq_true rfl)⟩ ⟨(Nat.le_of_ble_eq_true rfl), (Nat.le_of_ble_eq_true rfl)⟩ dL_next_3 (fun Ex hE => ?_) (fun _ hX => ?_)
  · obtain ⟨hEx, hne⟩ := hE
    rcases xr_next σ with h | h
    · exact absurd h hne
    · rw [hEx, h]
      refine ⟨11, ⟨tableOf [], _, tableOf [], rfl, (fun z hz => absurd hz List.not_mem_nil), by decide, by decide, w_865, List.mem_of_getElem? (i := 4) rfl, rfl⟩, fun q => ?_⟩
      refine v_astore_n (lv' := [(2, .ref q), (0, .ref (E.1 0)), (1, .ref (E.1 33))]) C (Nat.le_of_ble_eq_true rfl) rfl dL_next_11 ?_
      refine v_iconst (v := (1 : Int32)) C (by decide) dL_next_12 ?_
      exact v_Q hQ (v_iret C () trivial (by rw [h]; rfl) (by rw [if_neg hne]) (Nat.le_of_ble_eq_true rfl) (Nat.le_of_ble_eq_true rfl) dL_next_13)
  · refine v_i2l C dL_next_6 ?_
    refine v_out C dL_next_7 ?_
    refine v_goto (tgt := 14) C (by decide) dL_next_8 ?_
    refine v_iconst (v := (0 : Int32)) C (by decide) dL_next_14 ?_
    exact v_Q hQ (v_iret C () trivial (by rw [hX]; rfl) (by rw [if_pos hX]) (Nat.le_of_ble_eq_true rfl) (Nat.le_of_ble_eq_true rfl) dL_next_15)
theorem xr_serve (σ : Sg) : X_X9_serve σ = 0 ∨ X_X9_serve σ = 5 ∨ X_X9_serve σ = 2 := by
  unfold X_X9_serve
  simp only []
  (repeat' split) <;> first | decide | (rcases xr_requireBlock _ with h | h <;> rw [h] <;> decide) | (rcases xr_requireFewPending _ with h | h <;> rw [h] <;> decide) | (rcases xr_requireTimeToAccess _ with h | h <;> rw [h] <;> decide)
abbrev rm_L_serve : Room := { frames := 145, cells := 2, slots := 12, locals := 5717 }
set_option maxRecDepth 100000 in
set_option maxHeartbeats 1000000 in
theorem m_L_serve (l : Launch) (G : GG) (E : EE) (σ μ : Sg) (Y : va_W) (htr : l.stackTraces = false) (hK : CNT E σ) : KH (S := Unit) l G yL_serve cL_serve 3 (some .int) [(0, 8, 11, 82), (0, 8, 14, 30)] rm_L_serve [.ref (E.1 0), .ref (E.1 33)] (Wd G E σ μ Y) (fun _ => some (.int (hcd [5, 2] (X_X9_serve σ)))) (fun _ => Wd G (if X_X9_serve σ = 0 then EO E ((F_X9_serve σ).1).toInt64 else E) (F_X9_serve σ).2 μ Y) (fun _ => True) := by
  refine KH.of (by decide) (Nat.le_of_ble_eq_true rfl) ?_
  intro zp ze zs zm za zb zt zc zA C htab
  generalize hQ : MQ zb _ za zs _ _ zA = Q
  show V zp l ze rm_L_serve zs zm za zb zt zc 3 G zA 0 0 Q 0 [(0, .ref (E.1 0)), (1, .ref (E.1 33))] [] (Wd G E σ μ Y)
  refine v_aload_n C 1 rfl dL_serve_0 ?_
  refine v_iconst (v := (0 : Int32)) C (by decide) dL_serve_1 ?_
  refine v_aload_n C 0 rfl dL_serve_2 ?_
  refine v_callVC (rest := [.int (0 : Int32), .ref (E.1 33)]) C htab mv_RL_84 (m_X9_serve l G E σ μ Y htr hK) 0 g_0 rfl rfl rfl rfl (Nat.le_of_ble_eq_true rfl) ⟨(Nat.le_of_ble_eq_true rfl), (Nat.le_of_ble_eq_true rfl)⟩ ⟨(Nat.le_of_ble_eq_true rfl), (Nat.le_of_ble_eq_true rfl)⟩ dL_serve_3 (fun Ex hE => ?_) (fun _ hX => ?_)
  · obtain ⟨hEx, hne⟩ := hE
    rcases xr_serve σ with h | h | h
    · exact absurd h hne
    · rw [hEx, h]
      refine ⟨11, ⟨tableOf [], _, tableOf [(0, 8, 14, 30)], rfl, (fun z hz => absurd hz List.not_mem_nil), by decide, by decide, w_865, List.mem_of_getElem? (i := 4) rfl, rfl⟩, fun q => ?_⟩
      refine v_astore_n (lv' := [(2, .ref q), (0, .ref (E.1 0)), (1, .ref (E.1 33))]) C (Nat.le_of_ble_eq_true rfl) rfl dL_serve_11 ?_
      refine v_iconst (v := (1 : Int32)) C (by decide) dL_serve_12 ?_
      exact v_Q hQ (v_iret C () trivial (by rw [h]; rfl) (by rw [if_neg hne]) (Nat.le_of_ble_eq_true rfl) (Nat.le_of_ble_eq_true rfl) dL_serve_13)
    · rw [hEx, h]
      refine ⟨14, ⟨tableOf [(0, 8, 11, 82)], _, tableOf [], rfl, (fun z hz => by cases List.mem_singleton.mp hz; exact ⟨by decide, _, w_865, List.mem_of_getElem? (i := 5) rfl⟩), by decide, by decide, w_538, List.mem_of_getElem? (i := 1) rfl, rfl⟩, fun q => ?_⟩
      refine v_astore_n (lv' := [(2, .ref q), (0, .ref (E.1 0)), (1, .ref (E.1 33))]) C (Nat.le_of_ble_eq_true rfl) rfl dL_serve_14 ?_
      refine v_iconst (v := (2 : Int32)) C (by decide) dL_serve_15 ?_
      exact v_Q hQ (v_iret C () trivial (by rw [h]; rfl) (by rw [if_neg hne]) (Nat.le_of_ble_eq_true rfl) (Nat.le_of_ble_eq_true rfl) dL_serve_16)
  · refine v_i2l C dL_serve_6 ?_
    refine v_out C dL_serve_7 ?_
    refine v_goto (tgt := 17) C (by decide) dL_serve_8 ?_
    refine v_iconst (v := (0 : Int32)) C (by decide) dL_serve_17 ?_
    exact v_Q hQ (v_iret C () trivial (by rw [hX]; rfl) (by rw [if_pos hX]) (Nat.le_of_ble_eq_true rfl) (Nat.le_of_ble_eq_true rfl) dL_serve_18)
