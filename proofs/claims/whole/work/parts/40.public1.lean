def F_X9_requireBlock (b : Int32) : Unit := (if (F_X9_isBlock b) = 0 then () else ())
def X_X9_requireBlock (b : Int32) : Nat := (if (F_X9_isBlock b) = 0 then 3 else 0)
abbrev rm_X9_requireBlock : Room := { frames := 6, cells := 1, slots := 6, locals := 120 }
set_option maxRecDepth 100000 in
set_option maxHeartbeats 4000000 in
theorem m_X9_requireBlock (l : Launch) (G : GG) (E : EE) (σ μ : Sg) (Y : va_W) (htr : l.stackTraces = false) (b : Int32) : KX (S := Unit) l G yX9_requireBlock cX9_requireBlock 1 none rm_X9_requireBlock [.int b] (Wd G E σ μ Y) (fun _ => none) (fun _ => (Wd G E σ μ Y)) (fun _ => X_X9_requireBlock b = 0) (Wd G E σ μ Y) (fun Ex => Ex = exn (X_X9_requireBlock b) ∧ ¬ X_X9_requireBlock b = 0) := by
  refine KX.of (by decide) (Nat.le_of_ble_eq_true rfl) ?_
  intro zp ze zs zm za zb zt zc zA C htab
  let Q := vx_MQ zb (QcW (S := Unit) G zA (fun _ => none) (fun _ => (Wd G E σ μ Y)) (fun _ => X_X9_requireBlock b = 0)) (XcW G zA (Wd G E σ μ Y) (fun Ex => Ex = exn (X_X9_requireBlock b) ∧ ¬ X_X9_requireBlock b = 0)) za zs rm_X9_requireBlock.cells rm_X9_requireBlock.slots zA
  show V zp l ze rm_X9_requireBlock zs zm za zb zt zc 1 G zA 0 0 Q 0 [(0, .int b)] [] (Wd G E σ μ Y)
  refine v_iload_n C 0 rfl dX9_requireBlock_0 ?_
  refine v_cS1 (rest := []) C ms_RX9_196 (m_X9_isBlock l G E σ μ Y b) rfl rfl (Nat.le_of_ble_eq_true rfl) ⟨Nat.le_of_ble_eq_true rfl, Nat.le_of_ble_eq_true rfl⟩ ⟨rfl, rfl⟩ ⟨Nat.le_of_ble_eq_true rfl, Nat.le_of_ble_eq_true rfl⟩ dX9_requireBlock_1 ?_
  refine v_if_ne (tgt := 18) C (by decide) dX9_requireBlock_4 (fun h1 => ?_) (fun h1 => ?_)
  · have e1 : F_X9_requireBlock b = () := by rw [F_X9_requireBlock, if_neg h1]
    have e2 : X_X9_requireBlock b = 0 := by rw [X_X9_requireBlock, if_neg h1]
    exact v_X (v_vret C () e2 rfl rfl (Nat.le_of_ble_eq_true rfl) (Nat.le_of_ble_eq_true rfl) dX9_requireBlock_18)
  · have e1 : F_X9_requireBlock b = () := by rw [F_X9_requireBlock, if_pos h1]
    have e2 : X_X9_requireBlock b = 3 := by rw [X_X9_requireBlock, if_pos h1]
    exact v_throwSW C htab htr tx_3 (List.mem_of_getElem? (i := 6) rfl) (by show _ = _ ∧ _; rw [e2]; exact ⟨rfl, by decide⟩) (by first | with_reducible rfl | rw [e1]) dX9_requireBlock_7 dX9_requireBlock_10 dX9_requireBlock_11 dX9_requireBlock_14 dX9_requireBlock_17 ⟨Nat.le_of_ble_eq_true rfl, Nat.le_of_ble_eq_true rfl, Nat.le_of_ble_eq_true rfl, Nat.le_of_ble_eq_true rfl⟩ ⟨Nat.le_of_ble_eq_true rfl, Nat.le_of_ble_eq_true rfl⟩
def F_X9_requireFewPending (σ : Sg) : Unit := (if (σ 5 1) ≤ (6 : Int32) then () else ())
def X_X9_requireFewPending (σ : Sg) : Nat := (if (σ 5 1) ≤ (6 : Int32) then 0 else 4)
abbrev rm_X9_requireFewPending : Room := { frames := 6, cells := 1, slots := 6, locals := 120 }
set_option maxRecDepth 100000 in
set_option maxHeartbeats 4000000 in
theorem m_X9_requireFewPending (l : Launch) (G : GG) (E : EE) (σ μ : Sg) (Y : va_W) (htr : l.stackTraces = false) : KX (S := Unit) l G yX9_requireFewPending cX9_requireFewPending 1 none rm_X9_requireFewPending [.ref (E.1 0)] (Wd G E σ μ Y) (fun _ => none) (fun _ => (Wd G E σ μ Y)) (fun _ => X_X9_requireFewPending σ = 0) (Wd G E σ μ Y) (fun Ex => Ex = exn (X_X9_requireFewPending σ) ∧ ¬ X_X9_requireFewPending σ = 0) := by
  refine KX.of (by decide) (Nat.le_of_ble_eq_true rfl) ?_
  intro zp ze zs zm za zb zt zc zA C htab
  let Q := vx_MQ zb (QcW (S := Unit) G zA (fun _ => none) (fun _ => (Wd G E σ μ Y)) (fun _ => X_X9_requireFewPending σ = 0)) (XcW G zA (Wd G E σ μ Y) (fun Ex => Ex = exn (X_X9_requireFewPending σ) ∧ ¬ X_X9_requireFewPending σ = 0)) za zs rm_X9_requireFewPending.cells rm_X9_requireFewPending.slots zA
  show V zp l ze rm_X9_requireFewPending zs zm za zb zt zc 1 G zA 0 0 Q 0 [(0, .ref (E.1 0))] [] (Wd G E σ μ Y)
  refine v_aload_n C 0 rfl dX9_requireFewPending_0 ?_
  refine v_get (v := .ref (E.1 1)) C fl_RX9_10 0 g_0 rfl dX9_requireFewPending_1 ?_
  refine v_get (v := .ref (E.1 5)) C fl_RX9_219 1 g_1 rfl dX9_requireFewPending_4 ?_
  refine v_get (v := .int (σ 5 1)) C fl_RX9_238 5 g_5 rfl dX9_requireFewPending_7 ?_
  refine v_bipush (v := (6 : Int32)) C (by decide) dX9_requireFewPending_10 ?_
  refine v_icmp_le (tgt := 26) C (by decide) dX9_requireFewPending_12 (fun h1 => ?_) (fun h1 => ?_)
  · have e1 : F_X9_requireFewPending σ = () := by rw [F_X9_requireFewPending, if_pos h1]
    have e2 : X_X9_requireFewPending σ = 0 := by rw [X_X9_requireFewPending, if_pos h1]
    exact v_X (v_vret C () e2 rfl rfl (Nat.le_of_ble_eq_true rfl) (Nat.le_of_ble_eq_true rfl) dX9_requireFewPending_26)
  · have e1 : F_X9_requireFewPending σ = () := by rw [F_X9_requireFewPending, if_neg h1]
    have e2 : X_X9_requireFewPending σ = 4 := by rw [X_X9_requireFewPending, if_neg h1]
    exact v_throwSW C htab htr tx_4 (List.mem_of_getElem? (i := 22) rfl) (by show _ = _ ∧ _; rw [e2]; exact ⟨rfl, by decide⟩) (by first | with_reducible rfl | rw [e1]) dX9_requireFewPending_15 dX9_requireFewPending_18 dX9_requireFewPending_19 dX9_requireFewPending_22 dX9_requireFewPending_25 ⟨Nat.le_of_ble_eq_true rfl, Nat.le_of_ble_eq_true rfl, Nat.le_of_ble_eq_true rfl, Nat.le_of_ble_eq_true rfl⟩ ⟨Nat.le_of_ble_eq_true rfl, Nat.le_of_ble_eq_true rfl⟩
def F_X9_requireTimeToAccess (σ : Sg) : Unit := (if (σ 2 4) ≤ (100000 : Int32) then () else ())
def X_X9_requireTimeToAccess (σ : Sg) : Nat := (if (σ 2 4) ≤ (100000 : Int32) then 0 else 2)
abbrev rm_X9_requireTimeToAccess : Room := { frames := 6, cells := 1, slots := 6, locals := 120 }
set_option maxRecDepth 100000 in
set_option maxHeartbeats 4000000 in
theorem m_X9_requireTimeToAccess (l : Launch) (G : GG) (E : EE) (σ μ : Sg) (Y : va_W) (htr : l.stackTraces = false) : KX (S := Unit) l G yX9_requireTimeToAccess cX9_requireTimeToAccess 1 none rm_X9_requireTimeToAccess [.ref (E.1 0)] (Wd G E σ μ Y) (fun _ => none) (fun _ => (Wd G E σ μ Y)) (fun _ => X_X9_requireTimeToAccess σ = 0) (Wd G E σ μ Y) (fun Ex => Ex = exn (X_X9_requireTimeToAccess σ) ∧ ¬ X_X9_requireTimeToAccess σ = 0) := by
  refine KX.of (by decide) (Nat.le_of_ble_eq_true rfl) ?_
  intro zp ze zs zm za zb zt zc zA C htab
  let Q := vx_MQ zb (QcW (S := Unit) G zA (fun _ => none) (fun _ => (Wd G E σ μ Y)) (fun _ => X_X9_requireTimeToAccess σ = 0)) (XcW G zA (Wd G E σ μ Y) (fun Ex => Ex = exn (X_X9_requireTimeToAccess σ) ∧ ¬ X_X9_requireTimeToAccess σ = 0)) za zs rm_X9_requireTimeToAccess.cells rm_X9_requireTimeToAccess.slots zA
  show V zp l ze rm_X9_requireTimeToAccess zs zm za zb zt zc 1 G zA 0 0 Q 0 [(0, .ref (E.1 0))] [] (Wd G E σ μ Y)
  refine v_aload_n C 0 rfl dX9_requireTimeToAccess_0 ?_
  refine v_get (v := .ref (E.1 1)) C fl_RX9_10 0 g_0 rfl dX9_requireTimeToAccess_1 ?_
  refine v_get (v := .ref (E.1 2)) C fl_RX9_41 1 g_1 rfl dX9_requireTimeToAccess_4 ?_
  refine v_get (v := .int (σ 2 4)) C fl_RX9_146 2 g_2 rfl dX9_requireTimeToAccess_7 ?_
  refine v_ldc (v := (100000 : Int32)) C w_746 dX9_requireTimeToAccess_10 ?_
  refine v_icmp_le (tgt := 26) C (by decide) dX9_requireTimeToAccess_12 (fun h1 => ?_) (fun h1 => ?_)
  · have e1 : F_X9_requireTimeToAccess σ = () := by rw [F_X9_requireTimeToAccess, if_pos h1]
    have e2 : X_X9_requireTimeToAccess σ = 0 := by rw [X_X9_requireTimeToAccess, if_pos h1]
    exact v_X (v_vret C () e2 rfl rfl (Nat.le_of_ble_eq_true rfl) (Nat.le_of_ble_eq_true rfl) dX9_requireTimeToAccess_26)
  · have e1 : F_X9_requireTimeToAccess σ = () := by rw [F_X9_requireTimeToAccess, if_neg h1]
    have e2 : X_X9_requireTimeToAccess σ = 2 := by rw [X_X9_requireTimeToAccess, if_neg h1]
    exact v_throwSW C htab htr tx_2 (List.mem_of_getElem? (i := 19) rfl) (by show _ = _ ∧ _; rw [e2]; exact ⟨rfl, by decide⟩) (by first | with_reducible rfl | rw [e1]) dX9_requireTimeToAccess_15 dX9_requireTimeToAccess_18 dX9_requireTimeToAccess_19 dX9_requireTimeToAccess_22 dX9_requireTimeToAccess_25 ⟨Nat.le_of_ble_eq_true rfl, Nat.le_of_ble_eq_true rfl, Nat.le_of_ble_eq_true rfl, Nat.le_of_ble_eq_true rfl⟩ ⟨Nat.le_of_ble_eq_true rfl, Nat.le_of_ble_eq_true rfl⟩
def F_X9_setCurve (σ : Sg) (s : Int32) (r : Int32) (li : Int32) : Sg := (if (F_X9_isWithin s (0 : Int32) (50 : Int32)) = 0 then σ else (if (F_X9_isWithin r (0 : Int32) (20 : Int32)) = 0 then σ else (if (F_X9_isWithin li (0 : Int32) (9 : Int32)) = 0 then σ else (s2 (s2 (s2 σ 2 0 s) 2 1 r) 2 2 li))))
def X_X9_setCurve (σ : Sg) (s : Int32) (r : Int32) (li : Int32) : Nat := (if (F_X9_isWithin s (0 : Int32) (50 : Int32)) = 0 then 1 else (if (F_X9_isWithin r (0 : Int32) (20 : Int32)) = 0 then 1 else (if (F_X9_isWithin li (0 : Int32) (9 : Int32)) = 0 then 1 else 0)))
abbrev rm_X9_setCurve : Room := { frames := 6, cells := 1, slots := 6, locals := 120 }
set_option maxRecDepth 100000 in
set_option maxHeartbeats 4000000 in
theorem m_X9_setCurve (l : Launch) (G : GG) (E : EE) (σ μ : Sg) (Y : va_W) (htr : l.stackTraces = false) (s : Int32) (r : Int32) (li : Int32) : KX (S := Unit) l G yX9_setCurve cX9_setCurve 4 none rm_X9_setCurve [.ref (E.1 0), .int s, .int r, .int li] (Wd G E σ μ Y) (fun _ => none) (fun _ => (Wd G E (F_X9_setCurve σ s r li) μ Y)) (fun _ => X_X9_setCurve σ s r li = 0) (Wd G E (F_X9_setCurve σ s r li) μ Y) (fun Ex => Ex = exn (X_X9_setCurve σ s r li) ∧ ¬ X_X9_setCurve σ s r li = 0) := by
  refine KX.of (by decide) (Nat.le_of_ble_eq_true rfl) ?_
  intro zp ze zs zm za zb zt zc zA C htab
  let Q := vx_MQ zb (QcW (S := Unit) G zA (fun _ => none) (fun _ => (Wd G E (F_X9_setCurve σ s r li) μ Y)) (fun _ => X_X9_setCurve σ s r li = 0)) (XcW G zA (Wd G E (F_X9_setCurve σ s r li) μ Y) (fun Ex => Ex = exn (X_X9_setCurve σ s r li) ∧ ¬ X_X9_setCurve σ s r li = 0)) za zs rm_X9_setCurve.cells rm_X9_setCurve.slots zA
  show V zp l ze rm_X9_setCurve zs zm za zb zt zc 4 G zA 0 0 Q 0 [(0, .ref (E.1 0)), (1, .int s), (2, .int r), (3, .int li)] [] (Wd G E σ μ Y)
  refine v_iload_n C 1 rfl dX9_setCurve_0 ?_
  refine v_iconst (v := (0 : Int32)) C (by decide) dX9_setCurve_1 ?_
  refine v_bipush (v := (50 : Int32)) C (by decide) dX9_setCurve_2 ?_
  refine v_cS1 (rest := []) C ms_RX9_30 (m_X9_isWithin l G E σ μ Y s (0 : Int32) (50 : Int32)) rfl rfl (Nat.le_of_ble_eq_true rfl) ⟨Nat.le_of_ble_eq_true rfl, Nat.le_of_ble_eq_true rfl⟩ ⟨rfl, rfl⟩ ⟨Nat.le_of_ble_eq_true rfl, Nat.le_of_ble_eq_true rfl⟩ dX9_setCurve_4 ?_
  refine v_if_eq (tgt := 30) C (by decide) dX9_setCurve_7 (fun h1 => ?_) (fun h1 => ?_)
  · have e1 : F_X9_setCurve σ s r li = σ := by rw [F_X9_setCurve, if_pos h1]
    have e2 : X_X9_setCurve σ s r li = 1 := by rw [X_X9_setCurve, if_pos h1]
    exact v_throwS C htab htr tx_1 (List.mem_of_getElem? (i := 0) rfl) (by show _ = _ ∧ _; rw [e2]; exact ⟨rfl, by decide⟩) (by first | with_reducible rfl | rw [e1]) dX9_setCurve_30 dX9_setCurve_33 dX9_setCurve_34 dX9_setCurve_36 dX9_setCurve_39 ⟨Nat.le_of_ble_eq_true rfl, Nat.le_of_ble_eq_true rfl, Nat.le_of_ble_eq_true rfl, Nat.le_of_ble_eq_true rfl⟩ ⟨Nat.le_of_ble_eq_true rfl, Nat.le_of_ble_eq_true rfl⟩
  · refine v_iload_n C 2 rfl dX9_setCurve_10 ?_
    refine v_iconst (v := (0 : Int32)) C (by decide) dX9_setCurve_11 ?_
    refine v_bipush (v := (20 : Int32)) C (by decide) dX9_setCurve_12 ?_
    refine v_cS1 (rest := []) C ms_RX9_30 (m_X9_isWithin l G E σ μ Y r (0 : Int32) (20 : Int32)) rfl rfl (Nat.le_of_ble_eq_true rfl) ⟨Nat.le_of_ble_eq_true rfl, Nat.le_of_ble_eq_true rfl⟩ ⟨rfl, rfl⟩ ⟨Nat.le_of_ble_eq_true rfl, Nat.le_of_ble_eq_true rfl⟩ dX9_setCurve_14 ?_
    refine v_if_eq (tgt := 30) C (by decide) dX9_setCurve_17 (fun h2 => ?_) (fun h2 => ?_)
    · have e1 : F_X9_setCurve σ s r li = σ := by rw [F_X9_setCurve, if_neg h1, if_pos h2]
      have e2 : X_X9_setCurve σ s r li = 1 := by rw [X_X9_setCurve, if_neg h1, if_pos h2]
      exact v_throwS C htab htr tx_1 (List.mem_of_getElem? (i := 0) rfl) (by show _ = _ ∧ _; rw [e2]; exact ⟨rfl, by decide⟩) (by first | with_reducible rfl | rw [e1]) dX9_setCurve_30 dX9_setCurve_33 dX9_setCurve_34 dX9_setCurve_36 dX9_setCurve_39 ⟨Nat.le_of_ble_eq_true rfl, Nat.le_of_ble_eq_true rfl, Nat.le_of_ble_eq_true rfl, Nat.le_of_ble_eq_true rfl⟩ ⟨Nat.le_of_ble_eq_true rfl, Nat.le_of_ble_eq_true rfl⟩
    · refine v_iload_n C 3 rfl dX9_setCurve_20 ?_
      refine v_iconst (v := (0 : Int32)) C (by decide) dX9_setCurve_21 ?_
      refine v_bipush (v := (9 : Int32)) C (by decide) dX9_setCurve_22 ?_
      refine v_cS1 (rest := []) C ms_RX9_30 (m_X9_isWithin l G E σ μ Y li (0 : Int32) (9 : Int32)) rfl rfl (Nat.le_of_ble_eq_true rfl) ⟨Nat.le_of_ble_eq_true rfl, Nat.le_of_ble_eq_true rfl⟩ ⟨rfl, rfl⟩ ⟨Nat.le_of_ble_eq_true rfl, Nat.le_of_ble_eq_true rfl⟩ dX9_setCurve_24 ?_
      refine v_if_ne (tgt := 40) C (by decide) dX9_setCurve_27 (fun h3 => ?_) (fun h3 => ?_)
      · refine v_aload_n C 0 rfl dX9_setCurve_40 ?_
        refine v_get (v := .ref (E.1 1)) C fl_RX9_10 0 g_0 rfl dX9_setCurve_41 ?_
        refine v_get (v := .ref (E.1 2)) C fl_RX9_41 1 g_1 rfl dX9_setCurve_44 ?_
        refine v_iload_n C 1 rfl dX9_setCurve_47 ?_
        refine v_put C fp_RX9_45 2 g_2 rfl rfl (Nat.le_of_ble_eq_true rfl) (p_2_0 _) dX9_setCurve_48 ?_
        refine v_aload_n C 0 rfl dX9_setCurve_51 ?_
        refine v_get (v := .ref (E.1 1)) C fl_RX9_10 0 g_0 rfl dX9_setCurve_52 ?_
        refine v_get (v := .ref (E.1 2)) C fl_RX9_41 1 g_1 rfl dX9_setCurve_55 ?_
        refine v_iload_n C 2 rfl dX9_setCurve_58 ?_
        refine v_put C fp_RX9_51 2 g_2 rfl rfl (Nat.le_of_ble_eq_true rfl) (p_2_1 _) dX9_setCurve_59 ?_
        refine v_aload_n C 0 rfl dX9_setCurve_62 ?_
        refine v_get (v := .ref (E.1 1)) C fl_RX9_10 0 g_0 rfl dX9_setCurve_63 ?_
        refine v_get (v := .ref (E.1 2)) C fl_RX9_41 1 g_1 rfl dX9_setCurve_66 ?_
        refine v_iload_n C 3 rfl dX9_setCurve_69 ?_
        refine v_put C fp_RX9_54 2 g_2 rfl rfl (Nat.le_of_ble_eq_true rfl) (p_2_2 _) dX9_setCurve_70 ?_
        have e1 : F_X9_setCurve σ s r li = (s2 (s2 (s2 σ 2 0 s) 2 1 r) 2 2 li) := by rw [F_X9_setCurve, if_neg h1, if_neg h2, if_neg h3]
        have e2 : X_X9_setCurve σ s r li = 0 := by rw [X_X9_setCurve, if_neg h1, if_neg h2, if_neg h3]
        exact v_X (v_vret C () e2 rfl (by rw [e1]) (Nat.le_of_ble_eq_true rfl) (Nat.le_of_ble_eq_true rfl) dX9_setCurve_73)
      · have e1 : F_X9_setCurve σ s r li = σ := by rw [F_X9_setCurve, if_neg h1, if_neg h2, if_pos h3]
        have e2 : X_X9_setCurve σ s r li = 1 := by rw [X_X9_setCurve, if_neg h1, if_neg h2, if_pos h3]
        exact v_throwS C htab htr tx_1 (List.mem_of_getElem? (i := 0) rfl) (by show _ = _ ∧ _; rw [e2]; exact ⟨rfl, by decide⟩) (by first | with_reducible rfl | rw [e1]) dX9_setCurve_30 dX9_setCurve_33 dX9_setCurve_34 dX9_setCurve_36 dX9_setCurve_39 ⟨Nat.le_of_ble_eq_true rfl, Nat.le_of_ble_eq_true rfl, Nat.le_of_ble_eq_true rfl, Nat.le_of_ble_eq_true rfl⟩ ⟨Nat.le_of_ble_eq_true rfl, Nat.le_of_ble_eq_true rfl⟩
def F_X9_setSkew (σ : Sg) (s : Int32) : Int32 × Sg := (if (F_X9_isWithin s (0 : Int32) (40 : Int32)) = 0 then (0, σ) else (σ 2 3, (s2 σ 2 3 s)))
def X_X9_setSkew (σ : Sg) (s : Int32) : Nat := (if (F_X9_isWithin s (0 : Int32) (40 : Int32)) = 0 then 1 else 0)
abbrev rm_X9_setSkew : Room := { frames := 6, cells := 1, slots := 6, locals := 120 }
set_option maxRecDepth 100000 in
set_option maxHeartbeats 4000000 in
theorem m_X9_setSkew (l : Launch) (G : GG) (E : EE) (σ μ : Sg) (Y : va_W) (htr : l.stackTraces = false) (s : Int32) : KX (S := Unit) l G yX9_setSkew cX9_setSkew 3 (some .int) rm_X9_setSkew [.ref (E.1 0), .int s] (Wd G E σ μ Y) (fun _ => (some (.int (F_X9_setSkew σ s).1))) (fun _ => (Wd G E (F_X9_setSkew σ s).2 μ Y)) (fun _ => X_X9_setSkew σ s = 0) (Wd G E (F_X9_setSkew σ s).2 μ Y) (fun Ex => Ex = exn (X_X9_setSkew σ s) ∧ ¬ X_X9_setSkew σ s = 0) := by
  refine KX.of (by decide) (Nat.le_of_ble_eq_true rfl) ?_
  intro zp ze zs zm za zb zt zc zA C htab
  let Q := vx_MQ zb (QcW (S := Unit) G zA (fun _ => (some (.int (F_X9_setSkew σ s).1))) (fun _ => (Wd G E (F_X9_setSkew σ s).2 μ Y)) (fun _ => X_X9_setSkew σ s = 0)) (XcW G zA (Wd G E (F_X9_setSkew σ s).2 μ Y) (fun Ex => Ex = exn (X_X9_setSkew σ s) ∧ ¬ X_X9_setSkew σ s = 0)) za zs rm_X9_setSkew.cells rm_X9_setSkew.slots zA
  show V zp l ze rm_X9_setSkew zs zm za zb zt zc 3 G zA 0 0 Q 0 [(0, .ref (E.1 0)), (1, .int s)] [] (Wd G E σ μ Y)
  refine v_iload_n C 1 rfl dX9_setSkew_0 ?_
  refine v_iconst (v := (0 : Int32)) C (by decide) dX9_setSkew_1 ?_
  refine v_bipush (v := (40 : Int32)) C (by decide) dX9_setSkew_2 ?_
  refine v_cS1 (rest := []) C ms_RX9_30 (m_X9_isWithin l G E σ μ Y s (0 : Int32) (40 : Int32)) rfl rfl (Nat.le_of_ble_eq_true rfl) ⟨Nat.le_of_ble_eq_true rfl, Nat.le_of_ble_eq_true rfl⟩ ⟨rfl, rfl⟩ ⟨Nat.le_of_ble_eq_true rfl, Nat.le_of_ble_eq_true rfl⟩ dX9_setSkew_4 ?_
  refine v_if_ne (tgt := 20) C (by decide) dX9_setSkew_7 (fun h1 => ?_) (fun h1 => ?_)
  · refine v_aload_n C 0 rfl dX9_setSkew_20 ?_
    refine v_get (v := .ref (E.1 1)) C fl_RX9_10 0 g_0 rfl dX9_setSkew_21 ?_
    refine v_get (v := .ref (E.1 2)) C fl_RX9_41 1 g_1 rfl dX9_setSkew_24 ?_
    refine v_get (v := .int (σ 2 3)) C fl_RX9_59 2 g_2 rfl dX9_setSkew_27 ?_
    refine v_istore_n (lv' := [(2, .int (σ 2 3)), (0, .ref (E.1 0)), (1, .int s)]) C (Nat.le_of_ble_eq_true rfl) rfl dX9_setSkew_30 ?_
    refine v_aload_n C 1 rfl dX9_setSkew_31 ?_
    refine v_get (v := .ref (E.1 1)) C fl_RX9_10 0 g_0 rfl dX9_setSkew_32 ?_
    refine v_get (v := .ref (E.1 2)) C fl_RX9_41 1 g_1 rfl dX9_setSkew_35 ?_
    refine v_iload_n C 2 rfl dX9_setSkew_38 ?_
    refine v_put C fp_RX9_59 2 g_2 rfl rfl (Nat.le_of_ble_eq_true rfl) (p_2_3 _) dX9_setSkew_39 ?_
    refine v_iload_n C 0 rfl dX9_setSkew_42 ?_
    have e1 : F_X9_setSkew σ s = (σ 2 3, (s2 σ 2 3 s)) := by rw [F_X9_setSkew, if_neg h1]
    have e2 : X_X9_setSkew σ s = 0 := by rw [X_X9_setSkew, if_neg h1]
    exact v_X (v_iret C () e2 (by rw [e1]) (by rw [e1]) (Nat.le_of_ble_eq_true rfl) (Nat.le_of_ble_eq_true rfl) dX9_setSkew_43)
  · have e1 : F_X9_setSkew σ s = (0, σ) := by rw [F_X9_setSkew, if_pos h1]
    have e2 : X_X9_setSkew σ s = 1 := by rw [X_X9_setSkew, if_pos h1]
    exact v_throwS C htab htr tx_1 (List.mem_of_getElem? (i := 1) rfl) (by show _ = _ ∧ _; rw [e2]; exact ⟨rfl, by decide⟩) (by first | with_reducible rfl | rw [e1]) dX9_setSkew_10 dX9_setSkew_13 dX9_setSkew_14 dX9_setSkew_16 dX9_setSkew_19 ⟨Nat.le_of_ble_eq_true rfl, Nat.le_of_ble_eq_true rfl, Nat.le_of_ble_eq_true rfl, Nat.le_of_ble_eq_true rfl⟩ ⟨Nat.le_of_ble_eq_true rfl, Nat.le_of_ble_eq_true rfl⟩
def F_X9_setPolicy (σ : Sg) (po : Int32) : Int32 × Sg := (if (F_X9_isWithin po (0 : Int32) (6 : Int32)) = 0 then (0, σ) else (σ 7 0, (s2 σ 7 0 po)))
def X_X9_setPolicy (σ : Sg) (po : Int32) : Nat := (if (F_X9_isWithin po (0 : Int32) (6 : Int32)) = 0 then 1 else 0)
abbrev rm_X9_setPolicy : Room := { frames := 6, cells := 1, slots := 6, locals := 120 }
set_option maxRecDepth 100000 in
set_option maxHeartbeats 4000000 in
theorem m_X9_setPolicy (l : Launch) (G : GG) (E : EE) (σ μ : Sg) (Y : va_W) (htr : l.stackTraces = false) (po : Int32) : KX (S := Unit) l G yX9_setPolicy cX9_setPolicy 3 (some .int) rm_X9_setPolicy [.ref (E.1 0), .int po] (Wd G E σ μ Y) (fun _ => (some (.int (F_X9_setPolicy σ po).1))) (fun _ => (Wd G E (F_X9_setPolicy σ po).2 μ Y)) (fun _ => X_X9_setPolicy σ po = 0) (Wd G E (F_X9_setPolicy σ po).2 μ Y) (fun Ex => Ex = exn (X_X9_setPolicy σ po) ∧ ¬ X_X9_setPolicy σ po = 0) := by
  refine KX.of (by decide) (Nat.le_of_ble_eq_true rfl) ?_
  intro zp ze zs zm za zb zt zc zA C htab
  let Q := vx_MQ zb (QcW (S := Unit) G zA (fun _ => (some (.int (F_X9_setPolicy σ po).1))) (fun _ => (Wd G E (F_X9_setPolicy σ po).2 μ Y)) (fun _ => X_X9_setPolicy σ po = 0)) (XcW G zA (Wd G E (F_X9_setPolicy σ po).2 μ Y) (fun Ex => Ex = exn (X_X9_setPolicy σ po) ∧ ¬ X_X9_setPolicy σ po = 0)) za zs rm_X9_setPolicy.cells rm_X9_setPolicy.slots zA
  show V zp l ze rm_X9_setPolicy zs zm za zb zt zc 3 G zA 0 0 Q 0 [(0, .ref (E.1 0)), (1, .int po)] [] (Wd G E σ μ Y)
  refine v_iload_n C 1 rfl dX9_setPolicy_0 ?_
  refine v_iconst (v := (0 : Int32)) C (by decide) dX9_setPolicy_1 ?_
  refine v_bipush (v := (6 : Int32)) C (by decide) dX9_setPolicy_2 ?_
  refine v_cS1 (rest := []) C ms_RX9_30 (m_X9_isWithin l G E σ μ Y po (0 : Int32) (6 : Int32)) rfl rfl (Nat.le_of_ble_eq_true rfl) ⟨Nat.le_of_ble_eq_true rfl, Nat.le_of_ble_eq_true rfl⟩ ⟨rfl, rfl⟩ ⟨Nat.le_of_ble_eq_true rfl, Nat.le_of_ble_eq_true rfl⟩ dX9_setPolicy_4 ?_
  refine v_if_ne (tgt := 20) C (by decide) dX9_setPolicy_7 (fun h1 => ?_) (fun h1 => ?_)
  · refine v_aload_n C 0 rfl dX9_setPolicy_20 ?_
    refine v_get (v := .ref (E.1 1)) C fl_RX9_10 0 g_0 rfl dX9_setPolicy_21 ?_
    refine v_get (v := .ref (E.1 7)) C fl_RX9_64 1 g_1 rfl dX9_setPolicy_24 ?_
    refine v_get (v := .int (σ 7 0)) C fl_RX9_68 7 g_7 rfl dX9_setPolicy_27 ?_
    refine v_istore_n (lv' := [(2, .int (σ 7 0)), (0, .ref (E.1 0)), (1, .int po)]) C (Nat.le_of_ble_eq_true rfl) rfl dX9_setPolicy_30 ?_
    refine v_aload_n C 1 rfl dX9_setPolicy_31 ?_
    refine v_get (v := .ref (E.1 1)) C fl_RX9_10 0 g_0 rfl dX9_setPolicy_32 ?_
    refine v_get (v := .ref (E.1 7)) C fl_RX9_64 1 g_1 rfl dX9_setPolicy_35 ?_
    refine v_iload_n C 2 rfl dX9_setPolicy_38 ?_
    refine v_put C fp_RX9_68 7 g_7 rfl rfl (Nat.le_of_ble_eq_true rfl) (p_7_0 _) dX9_setPolicy_39 ?_
    refine v_iload_n C 0 rfl dX9_setPolicy_42 ?_
    have e1 : F_X9_setPolicy σ po = (σ 7 0, (s2 σ 7 0 po)) := by rw [F_X9_setPolicy, if_neg h1]
    have e2 : X_X9_setPolicy σ po = 0 := by rw [X_X9_setPolicy, if_neg h1]
    exact v_X (v_iret C () e2 (by rw [e1]) (by rw [e1]) (Nat.le_of_ble_eq_true rfl) (Nat.le_of_ble_eq_true rfl) dX9_setPolicy_43)
  · have e1 : F_X9_setPolicy σ po = (0, σ) := by rw [F_X9_setPolicy, if_pos h1]
    have e2 : X_X9_setPolicy σ po = 1 := by rw [X_X9_setPolicy, if_pos h1]
    exact v_throwS C htab htr tx_1 (List.mem_of_getElem? (i := 2) rfl) (by show _ = _ ∧ _; rw [e2]; exact ⟨rfl, by decide⟩) (by first | with_reducible rfl | rw [e1]) dX9_setPolicy_10 dX9_setPolicy_13 dX9_setPolicy_14 dX9_setPolicy_16 dX9_setPolicy_19 ⟨Nat.le_of_ble_eq_true rfl, Nat.le_of_ble_eq_true rfl, Nat.le_of_ble_eq_true rfl, Nat.le_of_ble_eq_true rfl⟩ ⟨Nat.le_of_ble_eq_true rfl, Nat.le_of_ble_eq_true rfl⟩
def F_X9_setBuckets (σ : Sg) (wi : Int32) (ag : Int32) : Sg := (if (F_X9_isWithin wi (1 : Int32) (999 : Int32)) = 0 then σ else (if (F_X9_isWithin ag (1 : Int32) (9999 : Int32)) = 0 then σ else (s2 (s2 σ 7 2 wi) 7 3 ag)))
def X_X9_setBuckets (σ : Sg) (wi : Int32) (ag : Int32) : Nat := (if (F_X9_isWithin wi (1 : Int32) (999 : Int32)) = 0 then 1 else (if (F_X9_isWithin ag (1 : Int32) (9999 : Int32)) = 0 then 1 else 0))
abbrev rm_X9_setBuckets : Room := { frames := 6, cells := 1, slots := 6, locals := 120 }
set_option maxRecDepth 100000 in
set_option maxHeartbeats 4000000 in
theorem m_X9_setBuckets (l : Launch) (G : GG) (E : EE) (σ μ : Sg) (Y : va_W) (htr : l.stackTraces = false) (wi : Int32) (ag : Int32) : KX (S := Unit) l G yX9_setBuckets cX9_setBuckets 3 none rm_X9_setBuckets [.ref (E.1 0), .int wi, .int ag] (Wd G E σ μ Y) (fun _ => none) (fun _ => (Wd G E (F_X9_setBuckets σ wi ag) μ Y)) (fun _ => X_X9_setBuckets σ wi ag = 0) (Wd G E (F_X9_setBuckets σ wi ag) μ Y) (fun Ex => Ex = exn (X_X9_setBuckets σ wi ag) ∧ ¬ X_X9_setBuckets σ wi ag = 0) := by
  refine KX.of (by decide) (Nat.le_of_ble_eq_true rfl) ?_
  intro zp ze zs zm za zb zt zc zA C htab
  let Q := vx_MQ zb (QcW (S := Unit) G zA (fun _ => none) (fun _ => (Wd G E (F_X9_setBuckets σ wi ag) μ Y)) (fun _ => X_X9_setBuckets σ wi ag = 0)) (XcW G zA (Wd G E (F_X9_setBuckets σ wi ag) μ Y) (fun Ex => Ex = exn (X_X9_setBuckets σ wi ag) ∧ ¬ X_X9_setBuckets σ wi ag = 0)) za zs rm_X9_setBuckets.cells rm_X9_setBuckets.slots zA
  show V zp l ze rm_X9_setBuckets zs zm za zb zt zc 3 G zA 0 0 Q 0 [(0, .ref (E.1 0)), (1, .int wi), (2, .int ag)] [] (Wd G E σ μ Y)
  refine v_iload_n C 1 rfl dX9_setBuckets_0 ?_
  refine v_iconst (v := (1 : Int32)) C (by decide) dX9_setBuckets_1 ?_
  refine v_sipush (v := (999 : Int32)) C (by decide) dX9_setBuckets_2 ?_
  refine v_cS1 (rest := []) C ms_RX9_30 (m_X9_isWithin l G E σ μ Y wi (1 : Int32) (999 : Int32)) rfl rfl (Nat.le_of_ble_eq_true rfl) ⟨Nat.le_of_ble_eq_true rfl, Nat.le_of_ble_eq_true rfl⟩ ⟨rfl, rfl⟩ ⟨Nat.le_of_ble_eq_true rfl, Nat.le_of_ble_eq_true rfl⟩ dX9_setBuckets_5 ?_
  refine v_if_eq (tgt := 22) C (by decide) dX9_setBuckets_8 (fun h1 => ?_) (fun h1 => ?_)
  · have e1 : F_X9_setBuckets σ wi ag = σ := by rw [F_X9_setBuckets, if_pos h1]
    have e2 : X_X9_setBuckets σ wi ag = 1 := by rw [X_X9_setBuckets, if_pos h1]
    exact v_throwS C htab htr tx_1 (List.mem_of_getElem? (i := 3) rfl) (by show _ = _ ∧ _; rw [e2]; exact ⟨rfl, by decide⟩) (by first | with_reducible rfl | rw [e1]) dX9_setBuckets_22 dX9_setBuckets_25 dX9_setBuckets_26 dX9_setBuckets_28 dX9_setBuckets_31 ⟨Nat.le_of_ble_eq_true rfl, Nat.le_of_ble_eq_true rfl, Nat.le_of_ble_eq_true rfl, Nat.le_of_ble_eq_true rfl⟩ ⟨Nat.le_of_ble_eq_true rfl, Nat.le_of_ble_eq_true rfl⟩
  · refine v_iload_n C 2 rfl dX9_setBuckets_11 ?_
    refine v_iconst (v := (1 : Int32)) C (by decide) dX9_setBuckets_12 ?_
    refine v_sipush (v := (9999 : Int32)) C (by decide) dX9_setBuckets_13 ?_
    refine v_cS1 (rest := []) C ms_RX9_30 (m_X9_isWithin l G E σ μ Y ag (1 : Int32) (9999 : Int32)) rfl rfl (Nat.le_of_ble_eq_true rfl) ⟨Nat.le_of_ble_eq_true rfl, Nat.le_of_ble_eq_true rfl⟩ ⟨rfl, rfl⟩ ⟨Nat.le_of_ble_eq_true rfl, Nat.le_of_ble_eq_true rfl⟩ dX9_setBuckets_16 ?_
    refine v_if_ne (tgt := 32) C (by decide) dX9_setBuckets_19 (fun h2 => ?_) (fun h2 => ?_)
    · refine v_aload_n C 0 rfl dX9_setBuckets_32 ?_
      refine v_get (v := .ref (E.1 1)) C fl_RX9_10 0 g_0 rfl dX9_setBuckets_33 ?_
      refine v_get (v := .ref (E.1 7)) C fl_RX9_64 1 g_1 rfl dX9_setBuckets_36 ?_
      refine v_iload_n C 1 rfl dX9_setBuckets_39 ?_
      refine v_put C fp_RX9_75 7 g_7 rfl rfl (Nat.le_of_ble_eq_true rfl) (p_7_2 _) dX9_setBuckets_40 ?_
      refine v_aload_n C 0 rfl dX9_setBuckets_43 ?_
      refine v_get (v := .ref (E.1 1)) C fl_RX9_10 0 g_0 rfl dX9_setBuckets_44 ?_
      refine v_get (v := .ref (E.1 7)) C fl_RX9_64 1 g_1 rfl dX9_setBuckets_47 ?_
      refine v_iload_n C 2 rfl dX9_setBuckets_50 ?_
      refine v_put C fp_RX9_78 7 g_7 rfl rfl (Nat.le_of_ble_eq_true rfl) (p_7_3 _) dX9_setBuckets_51 ?_
      have e1 : F_X9_setBuckets σ wi ag = (s2 (s2 σ 7 2 wi) 7 3 ag) := by rw [F_X9_setBuckets, if_neg h1, if_neg h2]
      have e2 : X_X9_setBuckets σ wi ag = 0 := by rw [X_X9_setBuckets, if_neg h1, if_neg h2]
      exact v_X (v_vret C () e2 rfl (by rw [e1]) (Nat.le_of_ble_eq_true rfl) (Nat.le_of_ble_eq_true rfl) dX9_setBuckets_54)
    · have e1 : F_X9_setBuckets σ wi ag = σ := by rw [F_X9_setBuckets, if_neg h1, if_pos h2]
      have e2 : X_X9_setBuckets σ wi ag = 1 := by rw [X_X9_setBuckets, if_neg h1, if_pos h2]
      exact v_throwS C htab htr tx_1 (List.mem_of_getElem? (i := 3) rfl) (by show _ = _ ∧ _; rw [e2]; exact ⟨rfl, by decide⟩) (by first | with_reducible rfl | rw [e1]) dX9_setBuckets_22 dX9_setBuckets_25 dX9_setBuckets_26 dX9_setBuckets_28 dX9_setBuckets_31 ⟨Nat.le_of_ble_eq_true rfl, Nat.le_of_ble_eq_true rfl, Nat.le_of_ble_eq_true rfl, Nat.le_of_ble_eq_true rfl⟩ ⟨Nat.le_of_ble_eq_true rfl, Nat.le_of_ble_eq_true rfl⟩
def F_X9_seekTime (σ : Sg) (fr : Int32) (to : Int32) : Int32 := (if (F_X9_isWithin fr (0 : Int32) (63 : Int32)) = 0 then 0 else (if (F_X9_isWithin to (0 : Int32) (63 : Int32)) = 0 then 0 else F_X1_ticksOfSeek σ fr to))
def X_X9_seekTime (σ : Sg) (fr : Int32) (to : Int32) : Nat := (if (F_X9_isWithin fr (0 : Int32) (63 : Int32)) = 0 then 3 else (if (F_X9_isWithin to (0 : Int32) (63 : Int32)) = 0 then 3 else 0))
abbrev rm_X9_seekTime : Room := { frames := 6, cells := 1, slots := 6, locals := 120 }
set_option maxRecDepth 100000 in
set_option maxHeartbeats 4000000 in
theorem m_X9_seekTime (l : Launch) (G : GG) (E : EE) (σ μ : Sg) (Y : va_W) (htr : l.stackTraces = false) (fr : Int32) (to : Int32) : KX (S := Unit) l G yX9_seekTime cX9_seekTime 3 (some .int) rm_X9_seekTime [.ref (E.1 0), .int fr, .int to] (Wd G E σ μ Y) (fun _ => (some (.int (F_X9_seekTime σ fr to)))) (fun _ => (Wd G E σ μ Y)) (fun _ => X_X9_seekTime σ fr to = 0) (Wd G E σ μ Y) (fun Ex => Ex = exn (X_X9_seekTime σ fr to) ∧ ¬ X_X9_seekTime σ fr to = 0) := by
  refine KX.of (by decide) (Nat.le_of_ble_eq_true rfl) ?_
  intro zp ze zs zm za zb zt zc zA C htab
  let Q := vx_MQ zb (QcW (S := Unit) G zA (fun _ => (some (.int (F_X9_seekTime σ fr to)))) (fun _ => (Wd G E σ μ Y)) (fun _ => X_X9_seekTime σ fr to = 0)) (XcW G zA (Wd G E σ μ Y) (fun Ex => Ex = exn (X_X9_seekTime σ fr to) ∧ ¬ X_X9_seekTime σ fr to = 0)) za zs rm_X9_seekTime.cells rm_X9_seekTime.slots zA
  show V zp l ze rm_X9_seekTime zs zm za zb zt zc 3 G zA 0 0 Q 0 [(0, .ref (E.1 0)), (1, .int fr), (2, .int to)] [] (Wd G E σ μ Y)
  refine v_iload_n C 1 rfl dX9_seekTime_0 ?_
  refine v_iconst (v := (0 : Int32)) C (by decide) dX9_seekTime_1 ?_
  refine v_bipush (v := (63 : Int32)) C (by decide) dX9_seekTime_2 ?_
  refine v_cS1 (rest := []) C ms_RX9_30 (m_X9_isWithin l G E σ μ Y fr (0 : Int32) (63 : Int32)) rfl rfl (Nat.le_of_ble_eq_true rfl) ⟨Nat.le_of_ble_eq_true rfl, Nat.le_of_ble_eq_true rfl⟩ ⟨rfl, rfl⟩ ⟨Nat.le_of_ble_eq_true rfl, Nat.le_of_ble_eq_true rfl⟩ dX9_seekTime_4 ?_
  refine v_if_eq (tgt := 20) C (by decide) dX9_seekTime_7 (fun h1 => ?_) (fun h1 => ?_)
  · have e1 : F_X9_seekTime σ fr to = 0 := by rw [F_X9_seekTime, if_pos h1]
    have e2 : X_X9_seekTime σ fr to = 3 := by rw [X_X9_seekTime, if_pos h1]
    exact v_throwS C htab htr tx_3 (List.mem_of_getElem? (i := 5) rfl) (by show _ = _ ∧ _; rw [e2]; exact ⟨rfl, by decide⟩) (by first | with_reducible rfl | rw [e1]) dX9_seekTime_20 dX9_seekTime_23 dX9_seekTime_24 dX9_seekTime_26 dX9_seekTime_29 ⟨Nat.le_of_ble_eq_true rfl, Nat.le_of_ble_eq_true rfl, Nat.le_of_ble_eq_true rfl, Nat.le_of_ble_eq_true rfl⟩ ⟨Nat.le_of_ble_eq_true rfl, Nat.le_of_ble_eq_true rfl⟩
  · refine v_iload_n C 2 rfl dX9_seekTime_10 ?_
    refine v_iconst (v := (0 : Int32)) C (by decide) dX9_seekTime_11 ?_
    refine v_bipush (v := (63 : Int32)) C (by decide) dX9_seekTime_12 ?_
    refine v_cS1 (rest := []) C ms_RX9_30 (m_X9_isWithin l G E σ μ Y to (0 : Int32) (63 : Int32)) rfl rfl (Nat.le_of_ble_eq_true rfl) ⟨Nat.le_of_ble_eq_true rfl, Nat.le_of_ble_eq_true rfl⟩ ⟨rfl, rfl⟩ ⟨Nat.le_of_ble_eq_true rfl, Nat.le_of_ble_eq_true rfl⟩ dX9_seekTime_14 ?_
    refine v_if_ne (tgt := 30) C (by decide) dX9_seekTime_17 (fun h2 => ?_) (fun h2 => ?_)
    · refine v_aload_n C 0 rfl dX9_seekTime_30 ?_
      refine v_get (v := .ref (E.1 1)) C fl_RX9_10 0 g_0 rfl dX9_seekTime_31 ?_
      refine v_get (v := .ref (E.1 2)) C fl_RX9_41 1 g_1 rfl dX9_seekTime_34 ?_
      refine v_iload_n C 1 rfl dX9_seekTime_37 ?_
      refine v_iload_n C 2 rfl dX9_seekTime_38 ?_
      refine v_cV1 (rest := []) C mv_RX9_104 (m_X1_ticksOfSeek l G E σ μ Y fr to) 2 g_2 rfl rfl rfl rfl (Nat.le_of_ble_eq_true rfl) ⟨Nat.le_of_ble_eq_true rfl, Nat.le_of_ble_eq_true rfl⟩ ⟨rfl, rfl⟩ ⟨Nat.le_of_ble_eq_true rfl, Nat.le_of_ble_eq_true rfl⟩ dX9_seekTime_39 ?_
      have e1 : F_X9_seekTime σ fr to = F_X1_ticksOfSeek σ fr to := by rw [F_X9_seekTime, if_neg h1, if_neg h2]
      have e2 : X_X9_seekTime σ fr to = 0 := by rw [X_X9_seekTime, if_neg h1, if_neg h2]
      exact v_X (v_iret C () e2 (by rw [e1]) rfl (Nat.le_of_ble_eq_true rfl) (Nat.le_of_ble_eq_true rfl) dX9_seekTime_42)
    · have e1 : F_X9_seekTime σ fr to = 0 := by rw [F_X9_seekTime, if_neg h1, if_pos h2]
      have e2 : X_X9_seekTime σ fr to = 3 := by rw [X_X9_seekTime, if_neg h1, if_pos h2]
      exact v_throwS C htab htr tx_3 (List.mem_of_getElem? (i := 5) rfl) (by show _ = _ ∧ _; rw [e2]; exact ⟨rfl, by decide⟩) (by first | with_reducible rfl | rw [e1]) dX9_seekTime_20 dX9_seekTime_23 dX9_seekTime_24 dX9_seekTime_26 dX9_seekTime_29 ⟨Nat.le_of_ble_eq_true rfl, Nat.le_of_ble_eq_true rfl, Nat.le_of_ble_eq_true rfl, Nat.le_of_ble_eq_true rfl⟩ ⟨Nat.le_of_ble_eq_true rfl, Nat.le_of_ble_eq_true rfl⟩
def F_X9_placeOf (σ : Sg) (b : Int32) : Int32 := (if (X_X9_requireBlock b) = 0 then F_X1_placeOfBlock σ b else 0)
def X_X9_placeOf (σ : Sg) (b : Int32) : Nat := (if (X_X9_requireBlock b) = 0 then 0 else (X_X9_requireBlock b))
abbrev rm_X9_placeOf : Room := { frames := 7, cells := 2, slots := 12, locals := 140 }
set_option maxRecDepth 100000 in
set_option maxHeartbeats 4000000 in
theorem m_X9_placeOf (l : Launch) (G : GG) (E : EE) (σ μ : Sg) (Y : va_W) (htr : l.stackTraces = false) (b : Int32) : KX (S := Unit) l G yX9_placeOf cX9_placeOf 2 (some .int) rm_X9_placeOf [.ref (E.1 0), .int b] (Wd G E σ μ Y) (fun _ => (some (.int (F_X9_placeOf σ b)))) (fun _ => (Wd G E σ μ Y)) (fun _ => X_X9_placeOf σ b = 0) (Wd G E σ μ Y) (fun Ex => Ex = exn (X_X9_placeOf σ b) ∧ ¬ X_X9_placeOf σ b = 0) := by
  refine KX.of (by decide) (Nat.le_of_ble_eq_true rfl) ?_
  intro zp ze zs zm za zb zt zc zA C htab
  let Q := vx_MQ zb (QcW (S := Unit) G zA (fun _ => (some (.int (F_X9_placeOf σ b)))) (fun _ => (Wd G E σ μ Y)) (fun _ => X_X9_placeOf σ b = 0)) (XcW G zA (Wd G E σ μ Y) (fun Ex => Ex = exn (X_X9_placeOf σ b) ∧ ¬ X_X9_placeOf σ b = 0)) za zs rm_X9_placeOf.cells rm_X9_placeOf.slots zA
  show V zp l ze rm_X9_placeOf zs zm za zb zt zc 2 G zA 0 0 Q 0 [(0, .ref (E.1 0)), (1, .int b)] [] (Wd G E σ μ Y)
  refine v_iload_n C 1 rfl dX9_placeOf_0 ?_
  refine v_callSX (rest := []) C htab ms_RX9_108 (m_X9_requireBlock l G E σ μ Y htr b) (fun Ex hE => ?_) rfl rfl (Nat.le_of_ble_eq_true rfl) ⟨Nat.le_of_ble_eq_true rfl, Nat.le_of_ble_eq_true rfl⟩ ⟨Nat.le_of_ble_eq_true rfl, Nat.le_of_ble_eq_true rfl⟩ ⟨Nat.le_of_ble_eq_true rfl, Nat.le_of_ble_eq_true rfl⟩ dX9_placeOf_1 (fun _ h1 => ?_)
  · have e1 : F_X9_placeOf σ b = 0 := by rw [F_X9_placeOf, if_neg hE.2]
    have e2 : X_X9_placeOf σ b = X_X9_requireBlock b := by rw [X_X9_placeOf, if_neg hE.2]
    exact ⟨(by show _ = _ ∧ _; rw [e2]; exact hE), (by first | with_reducible rfl | rw [e1])⟩
  · refine v_aload_n C 0 rfl dX9_placeOf_4 ?_
    refine v_get (v := .ref (E.1 1)) C fl_RX9_10 0 g_0 rfl dX9_placeOf_5 ?_
    refine v_get (v := .ref (E.1 2)) C fl_RX9_41 1 g_1 rfl dX9_placeOf_8 ?_
    refine v_iload_n C 1 rfl dX9_placeOf_11 ?_
    refine v_cV1 (rest := []) C mv_RX9_112 (m_X1_placeOfBlock l G E σ μ Y b) 2 g_2 rfl rfl rfl rfl (Nat.le_of_ble_eq_true rfl) ⟨Nat.le_of_ble_eq_true rfl, Nat.le_of_ble_eq_true rfl⟩ ⟨rfl, rfl⟩ ⟨Nat.le_of_ble_eq_true rfl, Nat.le_of_ble_eq_true rfl⟩ dX9_placeOf_12 ?_
    have e1 : F_X9_placeOf σ b = F_X1_placeOfBlock σ b := by rw [F_X9_placeOf, if_pos h1]
    have e2 : X_X9_placeOf σ b = 0 := by rw [X_X9_placeOf, if_pos h1]
    exact v_X (v_iret C () e2 (by rw [e1]) rfl (Nat.le_of_ble_eq_true rfl) (Nat.le_of_ble_eq_true rfl) dX9_placeOf_15)
def F_X9_cylinderOf (σ : Sg) (b : Int32) : Int32 := (if (X_X9_requireBlock b) = 0 then F_X2_cylinderOfPlace (F_X1_placeOfBlock σ b) else 0)
def X_X9_cylinderOf (σ : Sg) (b : Int32) : Nat := (if (X_X9_requireBlock b) = 0 then 0 else (X_X9_requireBlock b))
abbrev rm_X9_cylinderOf : Room := { frames := 7, cells := 2, slots := 12, locals := 140 }
set_option maxRecDepth 100000 in
set_option maxHeartbeats 4000000 in
theorem m_X9_cylinderOf (l : Launch) (G : GG) (E : EE) (σ μ : Sg) (Y : va_W) (htr : l.stackTraces = false) (b : Int32) : KX (S := Unit) l G yX9_cylinderOf cX9_cylinderOf 2 (some .int) rm_X9_cylinderOf [.ref (E.1 0), .int b] (Wd G E σ μ Y) (fun _ => (some (.int (F_X9_cylinderOf σ b)))) (fun _ => (Wd G E σ μ Y)) (fun _ => X_X9_cylinderOf σ b = 0) (Wd G E σ μ Y) (fun Ex => Ex = exn (X_X9_cylinderOf σ b) ∧ ¬ X_X9_cylinderOf σ b = 0) := by
  refine KX.of (by decide) (Nat.le_of_ble_eq_true rfl) ?_
  intro zp ze zs zm za zb zt zc zA C htab
  let Q := vx_MQ zb (QcW (S := Unit) G zA (fun _ => (some (.int (F_X9_cylinderOf σ b)))) (fun _ => (Wd G E σ μ Y)) (fun _ => X_X9_cylinderOf σ b = 0)) (XcW G zA (Wd G E σ μ Y) (fun Ex => Ex = exn (X_X9_cylinderOf σ b) ∧ ¬ X_X9_cylinderOf σ b = 0)) za zs rm_X9_cylinderOf.cells rm_X9_cylinderOf.slots zA
  show V zp l ze rm_X9_cylinderOf zs zm za zb zt zc 2 G zA 0 0 Q 0 [(0, .ref (E.1 0)), (1, .int b)] [] (Wd G E σ μ Y)
  refine v_iload_n C 1 rfl dX9_cylinderOf_0 ?_
  refine v_callSX (rest := []) C htab ms_RX9_108 (m_X9_requireBlock l G E σ μ Y htr b) (fun Ex hE => ?_) rfl rfl (Nat.le_of_ble_eq_true rfl) ⟨Nat.le_of_ble_eq_true rfl, Nat.le_of_ble_eq_true rfl⟩ ⟨Nat.le_of_ble_eq_true rfl, Nat.le_of_ble_eq_true rfl⟩ ⟨Nat.le_of_ble_eq_true rfl, Nat.le_of_ble_eq_true rfl⟩ dX9_cylinderOf_1 (fun _ h1 => ?_)
  · have e1 : F_X9_cylinderOf σ b = 0 := by rw [F_X9_cylinderOf, if_neg hE.2]
    have e2 : X_X9_cylinderOf σ b = X_X9_requireBlock b := by rw [X_X9_cylinderOf, if_neg hE.2]
    exact ⟨(by show _ = _ ∧ _; rw [e2]; exact hE), (by first | with_reducible rfl | rw [e1])⟩
  · refine v_aload_n C 0 rfl dX9_cylinderOf_4 ?_
    refine v_get (v := .ref (E.1 1)) C fl_RX9_10 0 g_0 rfl dX9_cylinderOf_5 ?_
    refine v_get (v := .ref (E.1 2)) C fl_RX9_41 1 g_1 rfl dX9_cylinderOf_8 ?_
    refine v_iload_n C 1 rfl dX9_cylinderOf_11 ?_
    refine v_cV1 (rest := []) C mv_RX9_112 (m_X1_placeOfBlock l G E σ μ Y b) 2 g_2 rfl rfl rfl rfl (Nat.le_of_ble_eq_true rfl) ⟨Nat.le_of_ble_eq_true rfl, Nat.le_of_ble_eq_true rfl⟩ ⟨rfl, rfl⟩ ⟨Nat.le_of_ble_eq_true rfl, Nat.le_of_ble_eq_true rfl⟩ dX9_cylinderOf_12 ?_
    refine v_cS1 (rest := []) C ms_RX9_116 (m_X2_cylinderOfPlace l G E σ μ Y (F_X1_placeOfBlock σ b)) rfl rfl (Nat.le_of_ble_eq_true rfl) ⟨Nat.le_of_ble_eq_true rfl, Nat.le_of_ble_eq_true rfl⟩ ⟨rfl, rfl⟩ ⟨Nat.le_of_ble_eq_true rfl, Nat.le_of_ble_eq_true rfl⟩ dX9_cylinderOf_15 ?_
    have e1 : F_X9_cylinderOf σ b = F_X2_cylinderOfPlace (F_X1_placeOfBlock σ b) := by rw [F_X9_cylinderOf, if_pos h1]
    have e2 : X_X9_cylinderOf σ b = 0 := by rw [X_X9_cylinderOf, if_pos h1]
    exact v_X (v_iret C () e2 (by rw [e1]) rfl (Nat.le_of_ble_eq_true rfl) (Nat.le_of_ble_eq_true rfl) dX9_cylinderOf_18)
def F_X9_sectorOf (σ : Sg) (b : Int32) : Int32 := (if (X_X9_requireBlock b) = 0 then F_X2_sectorOfPlace (F_X1_placeOfBlock σ b) else 0)
def X_X9_sectorOf (σ : Sg) (b : Int32) : Nat := (if (X_X9_requireBlock b) = 0 then 0 else (X_X9_requireBlock b))
abbrev rm_X9_sectorOf : Room := { frames := 7, cells := 2, slots := 12, locals := 140 }
set_option maxRecDepth 100000 in
set_option maxHeartbeats 4000000 in
theorem m_X9_sectorOf (l : Launch) (G : GG) (E : EE) (σ μ : Sg) (Y : va_W) (htr : l.stackTraces = false) (b : Int32) : KX (S := Unit) l G yX9_sectorOf cX9_sectorOf 2 (some .int) rm_X9_sectorOf [.ref (E.1 0), .int b] (Wd G E σ μ Y) (fun _ => (some (.int (F_X9_sectorOf σ b)))) (fun _ => (Wd G E σ μ Y)) (fun _ => X_X9_sectorOf σ b = 0) (Wd G E σ μ Y) (fun Ex => Ex = exn (X_X9_sectorOf σ b) ∧ ¬ X_X9_sectorOf σ b = 0) := by
  refine KX.of (by decide) (Nat.le_of_ble_eq_true rfl) ?_
  intro zp ze zs zm za zb zt zc zA C htab
  let Q := vx_MQ zb (QcW (S := Unit) G zA (fun _ => (some (.int (F_X9_sectorOf σ b)))) (fun _ => (Wd G E σ μ Y)) (fun _ => X_X9_sectorOf σ b = 0)) (XcW G zA (Wd G E σ μ Y) (fun Ex => Ex = exn (X_X9_sectorOf σ b) ∧ ¬ X_X9_sectorOf σ b = 0)) za zs rm_X9_sectorOf.cells rm_X9_sectorOf.slots zA
  show V zp l ze rm_X9_sectorOf zs zm za zb zt zc 2 G zA 0 0 Q 0 [(0, .ref (E.1 0)), (1, .int b)] [] (Wd G E σ μ Y)
  refine v_iload_n C 1 rfl dX9_sectorOf_0 ?_
  refine v_callSX (rest := []) C htab ms_RX9_108 (m_X9_requireBlock l G E σ μ Y htr b) (fun Ex hE => ?_) rfl rfl (Nat.le_of_ble_eq_true rfl) ⟨Nat.le_of_ble_eq_true rfl, Nat.le_of_ble_eq_true rfl⟩ ⟨Nat.le_of_ble_eq_true rfl, Nat.le_of_ble_eq_true rfl⟩ ⟨Nat.le_of_ble_eq_true rfl, Nat.le_of_ble_eq_true rfl⟩ dX9_sectorOf_1 (fun _ h1 => ?_)
  · have e1 : F_X9_sectorOf σ b = 0 := by rw [F_X9_sectorOf, if_neg hE.2]
    have e2 : X_X9_sectorOf σ b = X_X9_requireBlock b := by rw [X_X9_sectorOf, if_neg hE.2]
    exact ⟨(by show _ = _ ∧ _; rw [e2]; exact hE), (by first | with_reducible rfl | rw [e1])⟩
  · refine v_aload_n C 0 rfl dX9_sectorOf_4 ?_
    refine v_get (v := .ref (E.1 1)) C fl_RX9_10 0 g_0 rfl dX9_sectorOf_5 ?_
    refine v_get (v := .ref (E.1 2)) C fl_RX9_41 1 g_1 rfl dX9_sectorOf_8 ?_
    refine v_iload_n C 1 rfl dX9_sectorOf_11 ?_
    refine v_cV1 (rest := []) C mv_RX9_112 (m_X1_placeOfBlock l G E σ μ Y b) 2 g_2 rfl rfl rfl rfl (Nat.le_of_ble_eq_true rfl) ⟨Nat.le_of_ble_eq_true rfl, Nat.le_of_ble_eq_true rfl⟩ ⟨rfl, rfl⟩ ⟨Nat.le_of_ble_eq_true rfl, Nat.le_of_ble_eq_true rfl⟩ dX9_sectorOf_12 ?_
    refine v_cS1 (rest := []) C ms_RX9_121 (m_X2_sectorOfPlace l G E σ μ Y (F_X1_placeOfBlock σ b)) rfl rfl (Nat.le_of_ble_eq_true rfl) ⟨Nat.le_of_ble_eq_true rfl, Nat.le_of_ble_eq_true rfl⟩ ⟨rfl, rfl⟩ ⟨Nat.le_of_ble_eq_true rfl, Nat.le_of_ble_eq_true rfl⟩ dX9_sectorOf_15 ?_
    have e1 : F_X9_sectorOf σ b = F_X2_sectorOfPlace (F_X1_placeOfBlock σ b) := by rw [F_X9_sectorOf, if_pos h1]
    have e2 : X_X9_sectorOf σ b = 0 := by rw [X_X9_sectorOf, if_pos h1]
    exact v_X (v_iret C () e2 (by rw [e1]) rfl (Nat.le_of_ble_eq_true rfl) (Nat.le_of_ble_eq_true rfl) dX9_sectorOf_18)
def F_X9_startAngle (σ : Sg) (b : Int32) : Int32 := (if (X_X9_requireBlock b) = 0 then F_X1_angleOfPlace σ (F_X1_placeOfBlock σ b) else 0)
def X_X9_startAngle (σ : Sg) (b : Int32) : Nat := (if (X_X9_requireBlock b) = 0 then 0 else (X_X9_requireBlock b))
abbrev rm_X9_startAngle : Room := { frames := 7, cells := 2, slots := 12, locals := 140 }
set_option maxRecDepth 100000 in
set_option maxHeartbeats 4000000 in
theorem m_X9_startAngle (l : Launch) (G : GG) (E : EE) (σ μ : Sg) (Y : va_W) (htr : l.stackTraces = false) (b : Int32) : KX (S := Unit) l G yX9_startAngle cX9_startAngle 2 (some .int) rm_X9_startAngle [.ref (E.1 0), .int b] (Wd G E σ μ Y) (fun _ => (some (.int (F_X9_startAngle σ b)))) (fun _ => (Wd G E σ μ Y)) (fun _ => X_X9_startAngle σ b = 0) (Wd G E σ μ Y) (fun Ex => Ex = exn (X_X9_startAngle σ b) ∧ ¬ X_X9_startAngle σ b = 0) := by
  refine KX.of (by decide) (Nat.le_of_ble_eq_true rfl) ?_
  intro zp ze zs zm za zb zt zc zA C htab
  let Q := vx_MQ zb (QcW (S := Unit) G zA (fun _ => (some (.int (F_X9_startAngle σ b)))) (fun _ => (Wd G E σ μ Y)) (fun _ => X_X9_startAngle σ b = 0)) (XcW G zA (Wd G E σ μ Y) (fun Ex => Ex = exn (X_X9_startAngle σ b) ∧ ¬ X_X9_startAngle σ b = 0)) za zs rm_X9_startAngle.cells rm_X9_startAngle.slots zA
  show V zp l ze rm_X9_startAngle zs zm za zb zt zc 2 G zA 0 0 Q 0 [(0, .ref (E.1 0)), (1, .int b)] [] (Wd G E σ μ Y)
  refine v_iload_n C 1 rfl dX9_startAngle_0 ?_
  refine v_callSX (rest := []) C htab ms_RX9_108 (m_X9_requireBlock l G E σ μ Y htr b) (fun Ex hE => ?_) rfl rfl (Nat.le_of_ble_eq_true rfl) ⟨Nat.le_of_ble_eq_true rfl, Nat.le_of_ble_eq_true rfl⟩ ⟨Nat.le_of_ble_eq_true rfl, Nat.le_of_ble_eq_true rfl⟩ ⟨Nat.le_of_ble_eq_true rfl, Nat.le_of_ble_eq_true rfl⟩ dX9_startAngle_1 (fun _ h1 => ?_)
  · have e1 : F_X9_startAngle σ b = 0 := by rw [F_X9_startAngle, if_neg hE.2]
    have e2 : X_X9_startAngle σ b = X_X9_requireBlock b := by rw [X_X9_startAngle, if_neg hE.2]
    exact ⟨(by show _ = _ ∧ _; rw [e2]; exact hE), (by first | with_reducible rfl | rw [e1])⟩
  · refine v_aload_n C 0 rfl dX9_startAngle_4 ?_
    refine v_get (v := .ref (E.1 1)) C fl_RX9_10 0 g_0 rfl dX9_startAngle_5 ?_
    refine v_get (v := .ref (E.1 2)) C fl_RX9_41 1 g_1 rfl dX9_startAngle_8 ?_
    refine v_aload_n C 0 rfl dX9_startAngle_11 ?_
    refine v_get (v := .ref (E.1 1)) C fl_RX9_10 0 g_0 rfl dX9_startAngle_12 ?_
    refine v_get (v := .ref (E.1 2)) C fl_RX9_41 1 g_1 rfl dX9_startAngle_15 ?_
    refine v_iload_n C 1 rfl dX9_startAngle_18 ?_
    refine v_cV1 (rest := [.ref (E.1 2)]) C mv_RX9_112 (m_X1_placeOfBlock l G E σ μ Y b) 2 g_2 rfl rfl rfl rfl (Nat.le_of_ble_eq_true rfl) ⟨Nat.le_of_ble_eq_true rfl, Nat.le_of_ble_eq_true rfl⟩ ⟨rfl, rfl⟩ ⟨Nat.le_of_ble_eq_true rfl, Nat.le_of_ble_eq_true rfl⟩ dX9_startAngle_19 ?_
    refine v_cV1 (rest := []) C mv_RX9_124 (m_X1_angleOfPlace l G E σ μ Y (F_X1_placeOfBlock σ b)) 2 g_2 rfl rfl rfl rfl (Nat.le_of_ble_eq_true rfl) ⟨Nat.le_of_ble_eq_true rfl, Nat.le_of_ble_eq_true rfl⟩ ⟨rfl, rfl⟩ ⟨Nat.le_of_ble_eq_true rfl, Nat.le_of_ble_eq_true rfl⟩ dX9_startAngle_22 ?_
    have e1 : F_X9_startAngle σ b = F_X1_angleOfPlace σ (F_X1_placeOfBlock σ b) := by rw [F_X9_startAngle, if_pos h1]
    have e2 : X_X9_startAngle σ b = 0 := by rw [X_X9_startAngle, if_pos h1]
    exact v_X (v_iret C () e2 (by rw [e1]) rfl (Nat.le_of_ble_eq_true rfl) (Nat.le_of_ble_eq_true rfl) dX9_startAngle_25)
def F_X9_accessTime (σ : Sg) (b : Int32) : Int32 := (if (X_X9_requireBlock b) = 0 then F_X1_ticksToAccess σ (F_X1_placeOfBlock σ b) else 0)
def X_X9_accessTime (σ : Sg) (b : Int32) : Nat := (if (X_X9_requireBlock b) = 0 then 0 else (X_X9_requireBlock b))
abbrev rm_X9_accessTime : Room := { frames := 7, cells := 2, slots := 12, locals := 140 }
set_option maxRecDepth 100000 in
set_option maxHeartbeats 4000000 in
theorem m_X9_accessTime (l : Launch) (G : GG) (E : EE) (σ μ : Sg) (Y : va_W) (htr : l.stackTraces = false) (b : Int32) : KX (S := Unit) l G yX9_accessTime cX9_accessTime 2 (some .int) rm_X9_accessTime [.ref (E.1 0), .int b] (Wd G E σ μ Y) (fun _ => (some (.int (F_X9_accessTime σ b)))) (fun _ => (Wd G E σ μ Y)) (fun _ => X_X9_accessTime σ b = 0) (Wd G E σ μ Y) (fun Ex => Ex = exn (X_X9_accessTime σ b) ∧ ¬ X_X9_accessTime σ b = 0) := by
  refine KX.of (by decide) (Nat.le_of_ble_eq_true rfl) ?_
  intro zp ze zs zm za zb zt zc zA C htab
  let Q := vx_MQ zb (QcW (S := Unit) G zA (fun _ => (some (.int (F_X9_accessTime σ b)))) (fun _ => (Wd G E σ μ Y)) (fun _ => X_X9_accessTime σ b = 0)) (XcW G zA (Wd G E σ μ Y) (fun Ex => Ex = exn (X_X9_accessTime σ b) ∧ ¬ X_X9_accessTime σ b = 0)) za zs rm_X9_accessTime.cells rm_X9_accessTime.slots zA
  show V zp l ze rm_X9_accessTime zs zm za zb zt zc 2 G zA 0 0 Q 0 [(0, .ref (E.1 0)), (1, .int b)] [] (Wd G E σ μ Y)
  refine v_iload_n C 1 rfl dX9_accessTime_0 ?_
  refine v_callSX (rest := []) C htab ms_RX9_108 (m_X9_requireBlock l G E σ μ Y htr b) (fun Ex hE => ?_) rfl rfl (Nat.le_of_ble_eq_true rfl) ⟨Nat.le_of_ble_eq_true rfl, Nat.le_of_ble_eq_true rfl⟩ ⟨Nat.le_of_ble_eq_true rfl, Nat.le_of_ble_eq_true rfl⟩ ⟨Nat.le_of_ble_eq_true rfl, Nat.le_of_ble_eq_true rfl⟩ dX9_accessTime_1 (fun _ h1 => ?_)
  · have e1 : F_X9_accessTime σ b = 0 := by rw [F_X9_accessTime, if_neg hE.2]
    have e2 : X_X9_accessTime σ b = X_X9_requireBlock b := by rw [X_X9_accessTime, if_neg hE.2]
    exact ⟨(by show _ = _ ∧ _; rw [e2]; exact hE), (by first | with_reducible rfl | rw [e1])⟩
  · refine v_aload_n C 0 rfl dX9_accessTime_4 ?_
    refine v_get (v := .ref (E.1 1)) C fl_RX9_10 0 g_0 rfl dX9_accessTime_5 ?_
    refine v_get (v := .ref (E.1 2)) C fl_RX9_41 1 g_1 rfl dX9_accessTime_8 ?_
    refine v_aload_n C 0 rfl dX9_accessTime_11 ?_
    refine v_get (v := .ref (E.1 1)) C fl_RX9_10 0 g_0 rfl dX9_accessTime_12 ?_
    refine v_get (v := .ref (E.1 2)) C fl_RX9_41 1 g_1 rfl dX9_accessTime_15 ?_
    refine v_iload_n C 1 rfl dX9_accessTime_18 ?_
    refine v_cV1 (rest := [.ref (E.1 2)]) C mv_RX9_112 (m_X1_placeOfBlock l G E σ μ Y b) 2 g_2 rfl rfl rfl rfl (Nat.le_of_ble_eq_true rfl) ⟨Nat.le_of_ble_eq_true rfl, Nat.le_of_ble_eq_true rfl⟩ ⟨rfl, rfl⟩ ⟨Nat.le_of_ble_eq_true rfl, Nat.le_of_ble_eq_true rfl⟩ dX9_accessTime_19 ?_
    refine v_cV1 (rest := []) C mv_RX9_127 (m_X1_ticksToAccess l G E σ μ Y (F_X1_placeOfBlock σ b)) 2 g_2 rfl rfl rfl rfl (Nat.le_of_ble_eq_true rfl) ⟨Nat.le_of_ble_eq_true rfl, Nat.le_of_ble_eq_true rfl⟩ ⟨rfl, rfl⟩ ⟨Nat.le_of_ble_eq_true rfl, Nat.le_of_ble_eq_true rfl⟩ dX9_accessTime_22 ?_
    have e1 : F_X9_accessTime σ b = F_X1_ticksToAccess σ (F_X1_placeOfBlock σ b) := by rw [F_X9_accessTime, if_pos h1]
    have e2 : X_X9_accessTime σ b = 0 := by rw [X_X9_accessTime, if_pos h1]
    exact v_X (v_iret C () e2 (by rw [e1]) rfl (Nat.le_of_ble_eq_true rfl) (Nat.le_of_ble_eq_true rfl) dX9_accessTime_25)
def F_X9_accessesOf (σ : Sg) (b : Int32) : Int32 := (if (X_X9_requireBlock b) = 0 then F_X1_accessesAt σ (F_X1_placeOfBlock σ b) else 0)
def X_X9_accessesOf (σ : Sg) (b : Int32) : Nat := (if (X_X9_requireBlock b) = 0 then 0 else (X_X9_requireBlock b))
abbrev rm_X9_accessesOf : Room := { frames := 7, cells := 2, slots := 12, locals := 140 }
set_option maxRecDepth 100000 in
set_option maxHeartbeats 4000000 in
theorem m_X9_accessesOf (l : Launch) (G : GG) (E : EE) (σ μ : Sg) (Y : va_W) (htr : l.stackTraces = false) (b : Int32) : KX (S := Unit) l G yX9_accessesOf cX9_accessesOf 2 (some .int) rm_X9_accessesOf [.ref (E.1 0), .int b] (Wd G E σ μ Y) (fun _ => (some (.int (F_X9_accessesOf σ b)))) (fun _ => (Wd G E σ μ Y)) (fun _ => X_X9_accessesOf σ b = 0) (Wd G E σ μ Y) (fun Ex => Ex = exn (X_X9_accessesOf σ b) ∧ ¬ X_X9_accessesOf σ b = 0) := by
  refine KX.of (by decide) (Nat.le_of_ble_eq_true rfl) ?_
  intro zp ze zs zm za zb zt zc zA C htab
  let Q := vx_MQ zb (QcW (S := Unit) G zA (fun _ => (some (.int (F_X9_accessesOf σ b)))) (fun _ => (Wd G E σ μ Y)) (fun _ => X_X9_accessesOf σ b = 0)) (XcW G zA (Wd G E σ μ Y) (fun Ex => Ex = exn (X_X9_accessesOf σ b) ∧ ¬ X_X9_accessesOf σ b = 0)) za zs rm_X9_accessesOf.cells rm_X9_accessesOf.slots zA
  show V zp l ze rm_X9_accessesOf zs zm za zb zt zc 2 G zA 0 0 Q 0 [(0, .ref (E.1 0)), (1, .int b)] [] (Wd G E σ μ Y)
  refine v_iload_n C 1 rfl dX9_accessesOf_0 ?_
  refine v_callSX (rest := []) C htab ms_RX9_108 (m_X9_requireBlock l G E σ μ Y htr b) (fun Ex hE => ?_) rfl rfl (Nat.le_of_ble_eq_true rfl) ⟨Nat.le_of_ble_eq_true rfl, Nat.le_of_ble_eq_true rfl⟩ ⟨Nat.le_of_ble_eq_true rfl, Nat.le_of_ble_eq_true rfl⟩ ⟨Nat.le_of_ble_eq_true rfl, Nat.le_of_ble_eq_true rfl⟩ dX9_accessesOf_1 (fun _ h1 => ?_)
  · have e1 : F_X9_accessesOf σ b = 0 := by rw [F_X9_accessesOf, if_neg hE.2]
    have e2 : X_X9_accessesOf σ b = X_X9_requireBlock b := by rw [X_X9_accessesOf, if_neg hE.2]
    exact ⟨(by show _ = _ ∧ _; rw [e2]; exact hE), (by first | with_reducible rfl | rw [e1])⟩
  · refine v_aload_n C 0 rfl dX9_accessesOf_4 ?_
    refine v_get (v := .ref (E.1 1)) C fl_RX9_10 0 g_0 rfl dX9_accessesOf_5 ?_
    refine v_get (v := .ref (E.1 2)) C fl_RX9_41 1 g_1 rfl dX9_accessesOf_8 ?_
    refine v_aload_n C 0 rfl dX9_accessesOf_11 ?_
    refine v_get (v := .ref (E.1 1)) C fl_RX9_10 0 g_0 rfl dX9_accessesOf_12 ?_
    refine v_get (v := .ref (E.1 2)) C fl_RX9_41 1 g_1 rfl dX9_accessesOf_15 ?_
    refine v_iload_n C 1 rfl dX9_accessesOf_18 ?_
    refine v_cV1 (rest := [.ref (E.1 2)]) C mv_RX9_112 (m_X1_placeOfBlock l G E σ μ Y b) 2 g_2 rfl rfl rfl rfl (Nat.le_of_ble_eq_true rfl) ⟨Nat.le_of_ble_eq_true rfl, Nat.le_of_ble_eq_true rfl⟩ ⟨rfl, rfl⟩ ⟨Nat.le_of_ble_eq_true rfl, Nat.le_of_ble_eq_true rfl⟩ dX9_accessesOf_19 ?_
    refine v_cV1 (rest := []) C mv_RX9_143 (m_X1_accessesAt l G E σ μ Y (F_X1_placeOfBlock σ b)) 2 g_2 rfl rfl rfl rfl (Nat.le_of_ble_eq_true rfl) ⟨Nat.le_of_ble_eq_true rfl, Nat.le_of_ble_eq_true rfl⟩ ⟨rfl, rfl⟩ ⟨Nat.le_of_ble_eq_true rfl, Nat.le_of_ble_eq_true rfl⟩ dX9_accessesOf_22 ?_
    have e1 : F_X9_accessesOf σ b = F_X1_accessesAt σ (F_X1_placeOfBlock σ b) := by rw [F_X9_accessesOf, if_pos h1]
    have e2 : X_X9_accessesOf σ b = 0 := by rw [X_X9_accessesOf, if_pos h1]
    exact v_X (v_iret C () e2 (by rw [e1]) rfl (Nat.le_of_ble_eq_true rfl) (Nat.le_of_ble_eq_true rfl) dX9_accessesOf_25)
def F_X9_moveToSpare (σ : Sg) (b : Int32) : Int32 × Sg := (if (X_X9_requireBlock b) = 0 then (if (F_X1_spareOfBlock σ b) = (-1 : Int32) then (if ((F_X1_takeSpare σ b).1) = (-1 : Int32) then (0, (F_X1_takeSpare σ b).2) else ((F_X1_takeSpare σ b).1, (F_X1_takeSpare σ b).2)) else (0, σ)) else (0, σ))
def X_X9_moveToSpare (σ : Sg) (b : Int32) : Nat := (if (X_X9_requireBlock b) = 0 then (if (F_X1_spareOfBlock σ b) = (-1 : Int32) then (if ((F_X1_takeSpare σ b).1) = (-1 : Int32) then 4 else 0) else 2) else (X_X9_requireBlock b))
abbrev rm_X9_moveToSpare : Room := { frames := 7, cells := 2, slots := 12, locals := 140 }
set_option maxRecDepth 100000 in
set_option maxHeartbeats 4000000 in
theorem m_X9_moveToSpare (l : Launch) (G : GG) (E : EE) (σ μ : Sg) (Y : va_W) (htr : l.stackTraces = false) (b : Int32) : KX (S := Unit) l G yX9_moveToSpare cX9_moveToSpare 3 (some .int) rm_X9_moveToSpare [.ref (E.1 0), .int b] (Wd G E σ μ Y) (fun _ => (some (.int (F_X9_moveToSpare σ b).1))) (fun _ => (Wd G E (F_X9_moveToSpare σ b).2 μ Y)) (fun _ => X_X9_moveToSpare σ b = 0) (Wd G E (F_X9_moveToSpare σ b).2 μ Y) (fun Ex => Ex = exn (X_X9_moveToSpare σ b) ∧ ¬ X_X9_moveToSpare σ b = 0) := by
  refine KX.of (by decide) (Nat.le_of_ble_eq_true rfl) ?_
  intro zp ze zs zm za zb zt zc zA C htab
  let Q := vx_MQ zb (QcW (S := Unit) G zA (fun _ => (some (.int (F_X9_moveToSpare σ b).1))) (fun _ => (Wd G E (F_X9_moveToSpare σ b).2 μ Y)) (fun _ => X_X9_moveToSpare σ b = 0)) (XcW G zA (Wd G E (F_X9_moveToSpare σ b).2 μ Y) (fun Ex => Ex = exn (X_X9_moveToSpare σ b) ∧ ¬ X_X9_moveToSpare σ b = 0)) za zs rm_X9_moveToSpare.cells rm_X9_moveToSpare.slots zA
  show V zp l ze rm_X9_moveToSpare zs zm za zb zt zc 3 G zA 0 0 Q 0 [(0, .ref (E.1 0)), (1, .int b)] [] (Wd G E σ μ Y)
  refine v_iload_n C 1 rfl dX9_moveToSpare_0 ?_
  refine v_callSX (rest := []) C htab ms_RX9_108 (m_X9_requireBlock l G E σ μ Y htr b) (fun Ex hE => ?_) rfl rfl (Nat.le_of_ble_eq_true rfl) ⟨Nat.le_of_ble_eq_true rfl, Nat.le_of_ble_eq_true rfl⟩ ⟨Nat.le_of_ble_eq_true rfl, Nat.le_of_ble_eq_true rfl⟩ ⟨Nat.le_of_ble_eq_true rfl, Nat.le_of_ble_eq_true rfl⟩ dX9_moveToSpare_1 (fun _ h1 => ?_)
  · have e1 : F_X9_moveToSpare σ b = (0, σ) := by rw [F_X9_moveToSpare, if_neg hE.2]
    have e2 : X_X9_moveToSpare σ b = X_X9_requireBlock b := by rw [X_X9_moveToSpare, if_neg hE.2]
    exact ⟨(by show _ = _ ∧ _; rw [e2]; exact hE), (by first | with_reducible rfl | rw [e1])⟩
  · refine v_aload_n C 0 rfl dX9_moveToSpare_4 ?_
    refine v_get (v := .ref (E.1 1)) C fl_RX9_10 0 g_0 rfl dX9_moveToSpare_5 ?_
    refine v_get (v := .ref (E.1 2)) C fl_RX9_41 1 g_1 rfl dX9_moveToSpare_8 ?_
    refine v_iload_n C 1 rfl dX9_moveToSpare_11 ?_
    refine v_cV1 (rest := []) C mv_RX9_130 (m_X1_spareOfBlock l G E σ μ Y b) 2 g_2 rfl rfl rfl rfl (Nat.le_of_ble_eq_true rfl) ⟨Nat.le_of_ble_eq_true rfl, Nat.le_of_ble_eq_true rfl⟩ ⟨rfl, rfl⟩ ⟨Nat.le_of_ble_eq_true rfl, Nat.le_of_ble_eq_true rfl⟩ dX9_moveToSpare_12 ?_
    refine v_iconst (v := (-1 : Int32)) C (by decide) dX9_moveToSpare_15 ?_
    refine v_icmp_eq (tgt := 29) C (by decide) dX9_moveToSpare_16 (fun h2 => ?_) (fun h2 => ?_)
    · refine v_aload_n C 0 rfl dX9_moveToSpare_29 ?_
      refine v_get (v := .ref (E.1 1)) C fl_RX9_10 0 g_0 rfl dX9_moveToSpare_30 ?_
      refine v_get (v := .ref (E.1 2)) C fl_RX9_41 1 g_1 rfl dX9_moveToSpare_33 ?_
      refine v_iload_n C 1 rfl dX9_moveToSpare_36 ?_
      refine v_cV1 (rest := []) C mv_RX9_135 (m_X1_takeSpare l G E σ μ Y b) 2 g_2 rfl rfl rfl rfl (Nat.le_of_ble_eq_true rfl) ⟨Nat.le_of_ble_eq_true rfl, Nat.le_of_ble_eq_true rfl⟩ ⟨rfl, rfl⟩ ⟨Nat.le_of_ble_eq_true rfl, Nat.le_of_ble_eq_true rfl⟩ dX9_moveToSpare_37 ?_
      refine v_istore_n (lv' := [(2, .int ((F_X1_takeSpare σ b).1)), (0, .ref (E.1 0)), (1, .int b)]) C (Nat.le_of_ble_eq_true rfl) rfl dX9_moveToSpare_40 ?_
      refine v_iload_n C 0 rfl dX9_moveToSpare_41 ?_
      refine v_iconst (v := (-1 : Int32)) C (by decide) dX9_moveToSpare_42 ?_
      refine v_icmp_ne (tgt := 56) C (by decide) dX9_moveToSpare_43 (fun h3 => ?_) (fun h3 => ?_)
      · refine v_iload_n C 0 rfl dX9_moveToSpare_56 ?_
        have e1 : F_X9_moveToSpare σ b = ((F_X1_takeSpare σ b).1, (F_X1_takeSpare σ b).2) := by rw [F_X9_moveToSpare, if_pos h1, if_pos h2, if_neg h3]
        have e2 : X_X9_moveToSpare σ b = 0 := by rw [X_X9_moveToSpare, if_pos h1, if_pos h2, if_neg h3]
        exact v_X (v_iret C () e2 (by rw [e1]) (by rw [e1]) (Nat.le_of_ble_eq_true rfl) (Nat.le_of_ble_eq_true rfl) dX9_moveToSpare_57)
      · have e1 : F_X9_moveToSpare σ b = (0, (F_X1_takeSpare σ b).2) := by rw [F_X9_moveToSpare, if_pos h1, if_pos h2, if_pos h3]
        have e2 : X_X9_moveToSpare σ b = 4 := by rw [X_X9_moveToSpare, if_pos h1, if_pos h2, if_pos h3]
        exact v_throwS C htab htr tx_4 (List.mem_of_getElem? (i := 8) rfl) (by show _ = _ ∧ _; rw [e2]; exact ⟨rfl, by decide⟩) (by first | with_reducible rfl | rw [e1]) dX9_moveToSpare_46 dX9_moveToSpare_49 dX9_moveToSpare_50 dX9_moveToSpare_52 dX9_moveToSpare_55 ⟨Nat.le_of_ble_eq_true rfl, Nat.le_of_ble_eq_true rfl, Nat.le_of_ble_eq_true rfl, Nat.le_of_ble_eq_true rfl⟩ ⟨Nat.le_of_ble_eq_true rfl, Nat.le_of_ble_eq_true rfl⟩
    · have e1 : F_X9_moveToSpare σ b = (0, σ) := by rw [F_X9_moveToSpare, if_pos h1, if_neg h2]
      have e2 : X_X9_moveToSpare σ b = 2 := by rw [X_X9_moveToSpare, if_pos h1, if_neg h2]
      exact v_throwS C htab htr tx_2 (List.mem_of_getElem? (i := 7) rfl) (by show _ = _ ∧ _; rw [e2]; exact ⟨rfl, by decide⟩) (by first | with_reducible rfl | rw [e1]) dX9_moveToSpare_19 dX9_moveToSpare_22 dX9_moveToSpare_23 dX9_moveToSpare_25 dX9_moveToSpare_28 ⟨Nat.le_of_ble_eq_true rfl, Nat.le_of_ble_eq_true rfl, Nat.le_of_ble_eq_true rfl, Nat.le_of_ble_eq_true rfl⟩ ⟨Nat.le_of_ble_eq_true rfl, Nat.le_of_ble_eq_true rfl⟩
def F_X9_clock (σ : Sg) : Int32 := σ 2 4
abbrev rm_X9_clock : Room := { frames := 0, cells := 0, slots := 0, locals := 0 }
set_option maxRecDepth 100000 in
set_option maxHeartbeats 4000000 in
theorem m_X9_clock (l : Launch) (G : GG) (E : EE) (σ μ : Sg) (Y : va_W) : KK l G yX9_clock cX9_clock 1 (some .int) rm_X9_clock [.ref (E.1 0)] (Wd G E σ μ Y) (some (.int (F_X9_clock σ))) (Wd G E σ μ Y) := by
  refine KE.of (by decide) (Nat.le_of_ble_eq_true rfl) ?_
  intro zp ze zs zm za zb zt zc zA C _
  generalize hQ : MQ zb _ za zs _ _ zA = Q
  show V zp l ze rm_X9_clock zs zm za zb zt zc 1 G zA 0 0 Q 0 [(0, .ref (E.1 0))] [] (Wd G E σ μ Y)
  refine v_aload_n C 0 rfl dX9_clock_0 ?_
  refine v_get (v := .ref (E.1 1)) C fl_RX9_10 0 g_0 rfl dX9_clock_1 ?_
  refine v_get (v := .ref (E.1 2)) C fl_RX9_41 1 g_1 rfl dX9_clock_4 ?_
  refine v_get (v := .int (σ 2 4)) C fl_RX9_146 2 g_2 rfl dX9_clock_7 ?_
  have e1 : F_X9_clock σ = σ 2 4 := by rw [F_X9_clock]
  exact v_Q hQ (v_iret C () trivial (by rw [e1]) rfl (Nat.zero_le _) (Nat.zero_le _) dX9_clock_10)
def F_X9_arm (σ : Sg) : Int32 := σ 2 5
abbrev rm_X9_arm : Room := { frames := 0, cells := 0, slots := 0, locals := 0 }
set_option maxRecDepth 100000 in
set_option maxHeartbeats 4000000 in
theorem m_X9_arm (l : Launch) (G : GG) (E : EE) (σ μ : Sg) (Y : va_W) : KK l G yX9_arm cX9_arm 1 (some .int) rm_X9_arm [.ref (E.1 0)] (Wd G E σ μ Y) (some (.int (F_X9_arm σ))) (Wd G E σ μ Y) := by
  refine KE.of (by decide) (Nat.le_of_ble_eq_true rfl) ?_
  intro zp ze zs zm za zb zt zc zA C _
  generalize hQ : MQ zb _ za zs _ _ zA = Q
  show V zp l ze rm_X9_arm zs zm za zb zt zc 1 G zA 0 0 Q 0 [(0, .ref (E.1 0))] [] (Wd G E σ μ Y)
  refine v_aload_n C 0 rfl dX9_arm_0 ?_
  refine v_get (v := .ref (E.1 1)) C fl_RX9_10 0 g_0 rfl dX9_arm_1 ?_
  refine v_get (v := .ref (E.1 2)) C fl_RX9_41 1 g_1 rfl dX9_arm_4 ?_
  refine v_get (v := .int (σ 2 5)) C fl_RX9_149 2 g_2 rfl dX9_arm_7 ?_
  have e1 : F_X9_arm σ = σ 2 5 := by rw [F_X9_arm]
  exact v_Q hQ (v_iret C () trivial (by rw [e1]) rfl (Nat.zero_le _) (Nat.zero_le _) dX9_arm_10)
def F_X9_faultPosition (σ : Sg) : Int32 := σ 19 1
abbrev rm_X9_faultPosition : Room := { frames := 0, cells := 0, slots := 0, locals := 0 }
set_option maxRecDepth 100000 in
set_option maxHeartbeats 4000000 in
theorem m_X9_faultPosition (l : Launch) (G : GG) (E : EE) (σ μ : Sg) (Y : va_W) : KK l G yX9_faultPosition cX9_faultPosition 1 (some .int) rm_X9_faultPosition [.ref (E.1 0)] (Wd G E σ μ Y) (some (.int (F_X9_faultPosition σ))) (Wd G E σ μ Y) := by
  refine KE.of (by decide) (Nat.le_of_ble_eq_true rfl) ?_
  intro zp ze zs zm za zb zt zc zA C _
  generalize hQ : MQ zb _ za zs _ _ zA = Q
  show V zp l ze rm_X9_faultPosition zs zm za zb zt zc 1 G zA 0 0 Q 0 [(0, .ref (E.1 0))] [] (Wd G E σ μ Y)
  refine v_aload_n C 0 rfl dX9_faultPosition_0 ?_
  refine v_get (v := .ref (E.1 19)) C fl_RX9_26 0 g_0 rfl dX9_faultPosition_1 ?_
  refine v_get (v := .int (σ 19 1)) C fl_RX9_205 19 g_19 rfl dX9_faultPosition_4 ?_
  have e1 : F_X9_faultPosition σ = σ 19 1 := by rw [F_X9_faultPosition]
  exact v_Q hQ (v_iret C () trivial (by rw [e1]) rfl (Nat.zero_le _) (Nat.zero_le _) dX9_faultPosition_7)
def F_X9_dirtyBlocks (σ : Sg) : Int32 := σ 8 1
abbrev rm_X9_dirtyBlocks : Room := { frames := 0, cells := 0, slots := 0, locals := 0 }
set_option maxRecDepth 100000 in
set_option maxHeartbeats 4000000 in
theorem m_X9_dirtyBlocks (l : Launch) (G : GG) (E : EE) (σ μ : Sg) (Y : va_W) : KK l G yX9_dirtyBlocks cX9_dirtyBlocks 1 (some .int) rm_X9_dirtyBlocks [.ref (E.1 0)] (Wd G E σ μ Y) (some (.int (F_X9_dirtyBlocks σ))) (Wd G E σ μ Y) := by
  refine KE.of (by decide) (Nat.le_of_ble_eq_true rfl) ?_
  intro zp ze zs zm za zb zt zc zA C _
  generalize hQ : MQ zb _ za zs _ _ zA = Q
  show V zp l ze rm_X9_dirtyBlocks zs zm za zb zt zc 1 G zA 0 0 Q 0 [(0, .ref (E.1 0))] [] (Wd G E σ μ Y)
  refine v_aload_n C 0 rfl dX9_dirtyBlocks_0 ?_
  refine v_get (v := .ref (E.1 1)) C fl_RX9_10 0 g_0 rfl dX9_dirtyBlocks_1 ?_
  refine v_get (v := .ref (E.1 8)) C fl_RX9_81 1 g_1 rfl dX9_dirtyBlocks_4 ?_
  refine v_get (v := .int (σ 8 1)) C fl_RX9_85 8 g_8 rfl dX9_dirtyBlocks_7 ?_
  have e1 : F_X9_dirtyBlocks σ = σ 8 1 := by rw [F_X9_dirtyBlocks]
  exact v_Q hQ (v_iret C () trivial (by rw [e1]) rfl (Nat.zero_le _) (Nat.zero_le _) dX9_dirtyBlocks_10)
def F_X9_pendingRequests (σ : Sg) : Int32 := σ 5 1
abbrev rm_X9_pendingRequests : Room := { frames := 0, cells := 0, slots := 0, locals := 0 }
set_option maxRecDepth 100000 in
set_option maxHeartbeats 4000000 in
theorem m_X9_pendingRequests (l : Launch) (G : GG) (E : EE) (σ μ : Sg) (Y : va_W) : KK l G yX9_pendingRequests cX9_pendingRequests 1 (some .int) rm_X9_pendingRequests [.ref (E.1 0)] (Wd G E σ μ Y) (some (.int (F_X9_pendingRequests σ))) (Wd G E σ μ Y) := by
  refine KE.of (by decide) (Nat.le_of_ble_eq_true rfl) ?_
  intro zp ze zs zm za zb zt zc zA C _
  generalize hQ : MQ zb _ za zs _ _ zA = Q
  show V zp l ze rm_X9_pendingRequests zs zm za zb zt zc 1 G zA 0 0 Q 0 [(0, .ref (E.1 0))] [] (Wd G E σ μ Y)
  refine v_aload_n C 0 rfl dX9_pendingRequests_0 ?_
  refine v_get (v := .ref (E.1 1)) C fl_RX9_10 0 g_0 rfl dX9_pendingRequests_1 ?_
  refine v_get (v := .ref (E.1 5)) C fl_RX9_219 1 g_1 rfl dX9_pendingRequests_4 ?_
  refine v_get (v := .int (σ 5 1)) C fl_RX9_238 5 g_5 rfl dX9_pendingRequests_7 ?_
  have e1 : F_X9_pendingRequests σ = σ 5 1 := by rw [F_X9_pendingRequests]
  exact v_Q hQ (v_iret C () trivial (by rw [e1]) rfl (Nat.zero_le _) (Nat.zero_le _) dX9_pendingRequests_10)
def F_X9_idle (σ : Sg) (tk : Int32) : Int32 × Sg := (if (F_X9_isWithin tk (1 : Int32) (1000 : Int32)) = 0 then (0, σ) else (if (σ 2 4) ≤ ((100000 : Int32) - tk) then ((σ 2 4) + tk, (s2 σ 2 4 ((σ 2 4) + tk))) else (0, σ)))
def X_X9_idle (σ : Sg) (tk : Int32) : Nat := (if (F_X9_isWithin tk (1 : Int32) (1000 : Int32)) = 0 then 1 else (if (σ 2 4) ≤ ((100000 : Int32) - tk) then 0 else 2))
abbrev rm_X9_idle : Room := { frames := 6, cells := 1, slots := 6, locals := 120 }
set_option maxRecDepth 100000 in
set_option maxHeartbeats 4000000 in
theorem m_X9_idle (l : Launch) (G : GG) (E : EE) (σ μ : Sg) (Y : va_W) (htr : l.stackTraces = false) (tk : Int32) : KX (S := Unit) l G yX9_idle cX9_idle 2 (some .int) rm_X9_idle [.ref (E.1 0), .int tk] (Wd G E σ μ Y) (fun _ => (some (.int (F_X9_idle σ tk).1))) (fun _ => (Wd G E (F_X9_idle σ tk).2 μ Y)) (fun _ => X_X9_idle σ tk = 0) (Wd G E (F_X9_idle σ tk).2 μ Y) (fun Ex => Ex = exn (X_X9_idle σ tk) ∧ ¬ X_X9_idle σ tk = 0) := by
  refine KX.of (by decide) (Nat.le_of_ble_eq_true rfl) ?_
  intro zp ze zs zm za zb zt zc zA C htab
  let Q := vx_MQ zb (QcW (S := Unit) G zA (fun _ => (some (.int (F_X9_idle σ tk).1))) (fun _ => (Wd G E (F_X9_idle σ tk).2 μ Y)) (fun _ => X_X9_idle σ tk = 0)) (XcW G zA (Wd G E (F_X9_idle σ tk).2 μ Y) (fun Ex => Ex = exn (X_X9_idle σ tk) ∧ ¬ X_X9_idle σ tk = 0)) za zs rm_X9_idle.cells rm_X9_idle.slots zA
  show V zp l ze rm_X9_idle zs zm za zb zt zc 2 G zA 0 0 Q 0 [(0, .ref (E.1 0)), (1, .int tk)] [] (Wd G E σ μ Y)
  refine v_iload_n C 1 rfl dX9_idle_0 ?_
  refine v_iconst (v := (1 : Int32)) C (by decide) dX9_idle_1 ?_
  refine v_sipush (v := (1000 : Int32)) C (by decide) dX9_idle_2 ?_
  refine v_cS1 (rest := []) C ms_RX9_30 (m_X9_isWithin l G E σ μ Y tk (1 : Int32) (1000 : Int32)) rfl rfl (Nat.le_of_ble_eq_true rfl) ⟨Nat.le_of_ble_eq_true rfl, Nat.le_of_ble_eq_true rfl⟩ ⟨rfl, rfl⟩ ⟨Nat.le_of_ble_eq_true rfl, Nat.le_of_ble_eq_true rfl⟩ dX9_idle_5 ?_
  refine v_if_ne (tgt := 21) C (by decide) dX9_idle_8 (fun h1 => ?_) (fun h1 => ?_)
  · refine v_aload_n C 0 rfl dX9_idle_21 ?_
    refine v_get (v := .ref (E.1 1)) C fl_RX9_10 0 g_0 rfl dX9_idle_22 ?_
    refine v_get (v := .ref (E.1 2)) C fl_RX9_41 1 g_1 rfl dX9_idle_25 ?_
    refine v_get (v := .int (σ 2 4)) C fl_RX9_146 2 g_2 rfl dX9_idle_28 ?_
    refine v_ldc (v := (100000 : Int32)) C w_746 dX9_idle_31 ?_
    refine v_iload_n C 1 rfl dX9_idle_33 ?_
    refine v_isub C dX9_idle_34 ?_
    refine v_icmp_le (tgt := 48) C (by decide) dX9_idle_35 (fun h2 => ?_) (fun h2 => ?_)
    · refine v_aload_n C 0 rfl dX9_idle_48 ?_
      refine v_get (v := .ref (E.1 1)) C fl_RX9_10 0 g_0 rfl dX9_idle_49 ?_
      refine v_get (v := .ref (E.1 2)) C fl_RX9_41 1 g_1 rfl dX9_idle_52 ?_
      refine v_dup C rfl dX9_idle_55 ?_
      refine v_get (v := .int (σ 2 4)) C fl_RX9_146 2 g_2 rfl dX9_idle_56 ?_
      refine v_iload_n C 1 rfl dX9_idle_59 ?_
      refine v_iadd C dX9_idle_60 ?_
      refine v_put C fp_RX9_146 2 g_2 rfl rfl (Nat.le_of_ble_eq_true rfl) (p_2_4 _) dX9_idle_61 ?_
      refine v_aload_n C 0 rfl dX9_idle_64 ?_
      refine v_get (v := .ref (E.1 1)) C fl_RX9_10 0 g_0 rfl dX9_idle_65 ?_
      refine v_get (v := .ref (E.1 2)) C fl_RX9_41 1 g_1 rfl dX9_idle_68 ?_
      refine v_get (v := .int ((σ 2 4) + tk)) C fl_RX9_146 2 g_2 rfl dX9_idle_71 ?_
      have e1 : F_X9_idle σ tk = ((σ 2 4) + tk, (s2 σ 2 4 ((σ 2 4) + tk))) := by rw [F_X9_idle, if_neg h1, if_pos h2]
      have e2 : X_X9_idle σ tk = 0 := by rw [X_X9_idle, if_neg h1, if_pos h2]
      exact v_X (v_iret C () e2 (by rw [e1]) (by rw [e1]) (Nat.le_of_ble_eq_true rfl) (Nat.le_of_ble_eq_true rfl) dX9_idle_74)
    · have e1 : F_X9_idle σ tk = (0, σ) := by rw [F_X9_idle, if_neg h1, if_neg h2]
      have e2 : X_X9_idle σ tk = 2 := by rw [X_X9_idle, if_neg h1, if_neg h2]
      exact v_throwS C htab htr tx_2 (List.mem_of_getElem? (i := 10) rfl) (by show _ = _ ∧ _; rw [e2]; exact ⟨rfl, by decide⟩) (by first | with_reducible rfl | rw [e1]) dX9_idle_38 dX9_idle_41 dX9_idle_42 dX9_idle_44 dX9_idle_47 ⟨Nat.le_of_ble_eq_true rfl, Nat.le_of_ble_eq_true rfl, Nat.le_of_ble_eq_true rfl, Nat.le_of_ble_eq_true rfl⟩ ⟨Nat.le_of_ble_eq_true rfl, Nat.le_of_ble_eq_true rfl⟩
  · have e1 : F_X9_idle σ tk = (0, σ) := by rw [F_X9_idle, if_pos h1]
    have e2 : X_X9_idle σ tk = 1 := by rw [X_X9_idle, if_pos h1]
    exact v_throwS C htab htr tx_1 (List.mem_of_getElem? (i := 9) rfl) (by show _ = _ ∧ _; rw [e2]; exact ⟨rfl, by decide⟩) (by first | with_reducible rfl | rw [e1]) dX9_idle_11 dX9_idle_14 dX9_idle_15 dX9_idle_17 dX9_idle_20 ⟨Nat.le_of_ble_eq_true rfl, Nat.le_of_ble_eq_true rfl, Nat.le_of_ble_eq_true rfl, Nat.le_of_ble_eq_true rfl⟩ ⟨Nat.le_of_ble_eq_true rfl, Nat.le_of_ble_eq_true rfl⟩
def F_X9_appendCharacter (σ : Sg) (ch : Int32) : Int32 × Sg := (if (F_X9_isWithin ch (33 : Int32) (126 : Int32)) = 0 then (0, σ) else (if ((F_X5_append σ ch).1) = 0 then (0, (F_X5_append σ ch).2) else ((F_X5_append σ ch).2 19 0, (F_X5_append σ ch).2)))
def X_X9_appendCharacter (σ : Sg) (ch : Int32) : Nat := (if (F_X9_isWithin ch (33 : Int32) (126 : Int32)) = 0 then 1 else (if ((F_X5_append σ ch).1) = 0 then 2 else 0))
abbrev rm_X9_appendCharacter : Room := { frames := 6, cells := 1, slots := 6, locals := 120 }
set_option maxRecDepth 100000 in
set_option maxHeartbeats 4000000 in
theorem m_X9_appendCharacter (l : Launch) (G : GG) (E : EE) (σ μ : Sg) (Y : va_W) (htr : l.stackTraces = false) (ch : Int32) : KX (S := Unit) l G yX9_appendCharacter cX9_appendCharacter 2 (some .int) rm_X9_appendCharacter [.ref (E.1 0), .int ch] (Wd G E σ μ Y) (fun _ => (some (.int (F_X9_appendCharacter σ ch).1))) (fun _ => (Wd G E (F_X9_appendCharacter σ ch).2 μ Y)) (fun _ => X_X9_appendCharacter σ ch = 0) (Wd G E (F_X9_appendCharacter σ ch).2 μ Y) (fun Ex => Ex = exn (X_X9_appendCharacter σ ch) ∧ ¬ X_X9_appendCharacter σ ch = 0) := by
  refine KX.of (by decide) (Nat.le_of_ble_eq_true rfl) ?_
  intro zp ze zs zm za zb zt zc zA C htab
  let Q := vx_MQ zb (QcW (S := Unit) G zA (fun _ => (some (.int (F_X9_appendCharacter σ ch).1))) (fun _ => (Wd G E (F_X9_appendCharacter σ ch).2 μ Y)) (fun _ => X_X9_appendCharacter σ ch = 0)) (XcW G zA (Wd G E (F_X9_appendCharacter σ ch).2 μ Y) (fun Ex => Ex = exn (X_X9_appendCharacter σ ch) ∧ ¬ X_X9_appendCharacter σ ch = 0)) za zs rm_X9_appendCharacter.cells rm_X9_appendCharacter.slots zA
  show V zp l ze rm_X9_appendCharacter zs zm za zb zt zc 2 G zA 0 0 Q 0 [(0, .ref (E.1 0)), (1, .int ch)] [] (Wd G E σ μ Y)
  refine v_iload_n C 1 rfl dX9_appendCharacter_0 ?_
  refine v_bipush (v := (33 : Int32)) C (by decide) dX9_appendCharacter_1 ?_
  refine v_bipush (v := (126 : Int32)) C (by decide) dX9_appendCharacter_3 ?_
  refine v_cS1 (rest := []) C ms_RX9_30 (m_X9_isWithin l G E σ μ Y ch (33 : Int32) (126 : Int32)) rfl rfl (Nat.le_of_ble_eq_true rfl) ⟨Nat.le_of_ble_eq_true rfl, Nat.le_of_ble_eq_true rfl⟩ ⟨rfl, rfl⟩ ⟨Nat.le_of_ble_eq_true rfl, Nat.le_of_ble_eq_true rfl⟩ dX9_appendCharacter_5 ?_
  refine v_if_ne (tgt := 21) C (by decide) dX9_appendCharacter_8 (fun h1 => ?_) (fun h1 => ?_)
  · refine v_aload_n C 0 rfl dX9_appendCharacter_21 ?_
    refine v_get (v := .ref (E.1 19)) C fl_RX9_26 0 g_0 rfl dX9_appendCharacter_22 ?_
    refine v_iload_n C 1 rfl dX9_appendCharacter_25 ?_
    refine v_cV1 (rest := []) C mv_RX9_174 (m_X5_append l G E σ μ Y ch) 19 g_19 rfl rfl rfl rfl (Nat.le_of_ble_eq_true rfl) ⟨Nat.le_of_ble_eq_true rfl, Nat.le_of_ble_eq_true rfl⟩ ⟨rfl, rfl⟩ ⟨Nat.le_of_ble_eq_true rfl, Nat.le_of_ble_eq_true rfl⟩ dX9_appendCharacter_26 ?_
    refine v_if_ne (tgt := 42) C (by decide) dX9_appendCharacter_29 (fun h2 => ?_) (fun h2 => ?_)
    · refine v_aload_n C 0 rfl dX9_appendCharacter_42 ?_
      refine v_get (v := .ref (E.1 19)) C fl_RX9_26 0 g_0 rfl dX9_appendCharacter_43 ?_
      refine v_get (v := .int ((F_X5_append σ ch).2 19 0)) C fl_RX9_180 19 g_19 rfl dX9_appendCharacter_46 ?_
      have e1 : F_X9_appendCharacter σ ch = ((F_X5_append σ ch).2 19 0, (F_X5_append σ ch).2) := by rw [F_X9_appendCharacter, if_neg h1, if_neg h2]
      have e2 : X_X9_appendCharacter σ ch = 0 := by rw [X_X9_appendCharacter, if_neg h1, if_neg h2]
      exact v_X (v_iret C () e2 (by rw [e1]) (by rw [e1]) (Nat.le_of_ble_eq_true rfl) (Nat.le_of_ble_eq_true rfl) dX9_appendCharacter_49)
    · have e1 : F_X9_appendCharacter σ ch = (0, (F_X5_append σ ch).2) := by rw [F_X9_appendCharacter, if_neg h1, if_pos h2]
      have e2 : X_X9_appendCharacter σ ch = 2 := by rw [X_X9_appendCharacter, if_neg h1, if_pos h2]
      exact v_throwS C htab htr tx_2 (List.mem_of_getElem? (i := 14) rfl) (by show _ = _ ∧ _; rw [e2]; exact ⟨rfl, by decide⟩) (by first | with_reducible rfl | rw [e1]) dX9_appendCharacter_32 dX9_appendCharacter_35 dX9_appendCharacter_36 dX9_appendCharacter_38 dX9_appendCharacter_41 ⟨Nat.le_of_ble_eq_true rfl, Nat.le_of_ble_eq_true rfl, Nat.le_of_ble_eq_true rfl, Nat.le_of_ble_eq_true rfl⟩ ⟨Nat.le_of_ble_eq_true rfl, Nat.le_of_ble_eq_true rfl⟩
  · have e1 : F_X9_appendCharacter σ ch = (0, σ) := by rw [F_X9_appendCharacter, if_pos h1]
    have e2 : X_X9_appendCharacter σ ch = 1 := by rw [X_X9_appendCharacter, if_pos h1]
    exact v_throwS C htab htr tx_1 (List.mem_of_getElem? (i := 13) rfl) (by show _ = _ ∧ _; rw [e2]; exact ⟨rfl, by decide⟩) (by first | with_reducible rfl | rw [e1]) dX9_appendCharacter_11 dX9_appendCharacter_14 dX9_appendCharacter_15 dX9_appendCharacter_17 dX9_appendCharacter_20 ⟨Nat.le_of_ble_eq_true rfl, Nat.le_of_ble_eq_true rfl, Nat.le_of_ble_eq_true rfl, Nat.le_of_ble_eq_true rfl⟩ ⟨Nat.le_of_ble_eq_true rfl, Nat.le_of_ble_eq_true rfl⟩
