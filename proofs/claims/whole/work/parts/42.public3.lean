theorem access_5 (σ : Sg) (pl : Int32) : F_X1_access σ pl 5 = σ 5 := by unfold F_X1_access; (repeat' split) <;> rfl
theorem turnFor_5 (σ : Sg) (a b : Int32) : F_X7_turnFor σ a b 5 = σ 5 := by unfold F_X7_turnFor; (repeat' split) <;> rfl
theorem finP_5 (σ : Sg) (r : Nat) (ck : Int32) : F_X6_finishPending σ r ck 5 0 = σ 5 0 := rfl
theorem sc_5 (σ : Sg) : (F_X8_serveChosen σ).2 5 0 = σ 5 0 := by
  have hc : (F_X7_choose σ).2 5 = σ 5 := choose_fr (Or.inl (by decide))
  unfold F_X8_serveChosen
  simp only []
  generalize F_X7_choose σ = r at hc ⊢
  rcases F_X6_findPending r.2 r.1 with _ | i
  · exact congrFun hc 0
  · simp only [Option.elim]
    rw [finP_5, access_5, turnFor_5, hc]
theorem room_80 {σ : Sg} {cn : Nat} {k b : Int32} (hc : σ 5 0 = nI cn) (h80 : cn ≤ 80) (h : ¬ F_X8_hasRoomFor σ k b = 0) : cn < 80 := by
  rcases Nat.lt_or_ge cn 80 with q | q
  · exact q
  · exfalso
    apply h
    unfold F_X8_hasRoomFor
    rw [if_pos (by rw [hc, show (80 : Int32) = nI 80 from rfl, nI_leI (by omega) (by omega)]; exact q)]
def F_X9_submit (σ : Sg) (cn : Nat) (ki : Int32) (bk : Int32) (al : Int32) : Int32 × Sg := (if (F_X9_isWithin ki (0 : Int32) (1 : Int32)) = 0 then (0, σ) else (if (F_X9_isWithin al (0 : Int32) (9999 : Int32)) = 0 then (0, σ) else (if (X_X9_requireBlock bk) = 0 then (if (F_X8_hasRoomFor σ ki bk) = 0 then (0, σ) else ((F_X8_accept σ cn ki bk al).1, (F_X8_accept σ cn ki bk al).2)) else (0, σ))))
def X_X9_submit (σ : Sg) (cn : Nat) (ki : Int32) (bk : Int32) (al : Int32) : Nat := (if (F_X9_isWithin ki (0 : Int32) (1 : Int32)) = 0 then 1 else (if (F_X9_isWithin al (0 : Int32) (9999 : Int32)) = 0 then 1 else (if (X_X9_requireBlock bk) = 0 then (if (F_X8_hasRoomFor σ ki bk) = 0 then 2 else 0) else (X_X9_requireBlock bk))))
abbrev rm_X9_submit : Room := { frames := 7, cells := 3, slots := 18, locals := 179 }
set_option maxRecDepth 100000 in
set_option maxHeartbeats 4000000 in
theorem m_X9_submit (l : Launch) (G : GG) (E : EE) (σ μ : Sg) (Y : va_W) (htr : l.stackTraces = false) (cn : Nat) (ki : Int32) (bk : Int32) (al : Int32) (hc : σ 5 0 = nI cn) (h80 : cn ≤ 80) (hjK : cn ≤ E.2.2.1) : KX (S := Nat → Nat) l G yX9_submit cX9_submit 4 (some .int) rm_X9_submit [.ref (E.1 0), .int ki, .int bk, .int al] (Wd G E σ μ Y) (fun _ => (some (.int (F_X9_submit σ cn ki bk al).1))) (fun u => Wd G (EK E u (max E.2.2.1 (cn + 1))) (F_X9_submit σ cn ki bk al).2 μ Y) (fun u => (∀ i, i < E.2.2.1 → u i = E.2.1 i) ∧ X_X9_submit σ cn ki bk al = 0) (Wd G E (F_X9_submit σ cn ki bk al).2 μ Y) (fun Ex => Ex = exn (X_X9_submit σ cn ki bk al) ∧ ¬ X_X9_submit σ cn ki bk al = 0) := by
  refine KX.of (by decide) (Nat.le_of_ble_eq_true rfl) ?_
  intro zp ze zs zm za zb zt zc zA C htab
  let Q := vx_MQ zb (QcW (S := Nat → Nat) G zA (fun _ => (some (.int (F_X9_submit σ cn ki bk al).1))) (fun u => Wd G (EK E u (max E.2.2.1 (cn + 1))) (F_X9_submit σ cn ki bk al).2 μ Y) (fun u => (∀ i, i < E.2.2.1 → u i = E.2.1 i) ∧ X_X9_submit σ cn ki bk al = 0)) (XcW G zA (Wd G E (F_X9_submit σ cn ki bk al).2 μ Y) (fun Ex => Ex = exn (X_X9_submit σ cn ki bk al) ∧ ¬ X_X9_submit σ cn ki bk al = 0)) za zs rm_X9_submit.cells rm_X9_submit.slots zA
  show V zp l ze rm_X9_submit zs zm za zb zt zc 4 G zA 0 0 Q 0 [(0, .ref (E.1 0)), (1, .int ki), (2, .int bk), (3, .int al)] [] (Wd G E σ μ Y)
  refine v_iload_n C 1 rfl dX9_submit_0 ?_
  refine v_iconst (v := (0 : Int32)) C (by decide) dX9_submit_1 ?_
  refine v_iconst (v := (1 : Int32)) C (by decide) dX9_submit_2 ?_
  refine v_cS1 (rest := []) C ms_RX9_30 (m_X9_isWithin l G E σ μ Y ki (0 : Int32) (1 : Int32)) rfl rfl (Nat.le_of_ble_eq_true rfl) ⟨Nat.le_of_ble_eq_true rfl, Nat.le_of_ble_eq_true rfl⟩ ⟨rfl, rfl⟩ ⟨Nat.le_of_ble_eq_true rfl, Nat.le_of_ble_eq_true rfl⟩ dX9_submit_3 ?_
  refine v_if_eq (tgt := 20) C (by decide) dX9_submit_6 (fun h1 => ?_) (fun h1 => ?_)
  · have e1 : F_X9_submit σ cn ki bk al = (0, σ) := by rw [F_X9_submit, if_pos h1]
    have e2 : X_X9_submit σ cn ki bk al = 1 := by rw [X_X9_submit, if_pos h1]
    exact v_throwS C htab htr tx_1 (List.mem_of_getElem? (i := 11) rfl) (by show _ = _ ∧ _; rw [e2]; exact ⟨rfl, by decide⟩) (by first | with_reducible rfl | rw [e1]) dX9_submit_20 dX9_submit_23 dX9_submit_24 dX9_submit_26 dX9_submit_29 ⟨Nat.le_of_ble_eq_true rfl, Nat.le_of_ble_eq_true rfl, Nat.le_of_ble_eq_true rfl, Nat.le_of_ble_eq_true rfl⟩ ⟨Nat.le_of_ble_eq_true rfl, Nat.le_of_ble_eq_true rfl⟩
  · refine v_iload_n C 3 rfl dX9_submit_9 ?_
    refine v_iconst (v := (0 : Int32)) C (by decide) dX9_submit_10 ?_
    refine v_sipush (v := (9999 : Int32)) C (by decide) dX9_submit_11 ?_
    refine v_cS1 (rest := []) C ms_RX9_30 (m_X9_isWithin l G E σ μ Y al (0 : Int32) (9999 : Int32)) rfl rfl (Nat.le_of_ble_eq_true rfl) ⟨Nat.le_of_ble_eq_true rfl, Nat.le_of_ble_eq_true rfl⟩ ⟨rfl, rfl⟩ ⟨Nat.le_of_ble_eq_true rfl, Nat.le_of_ble_eq_true rfl⟩ dX9_submit_14 ?_
    refine v_if_ne (tgt := 30) C (by decide) dX9_submit_17 (fun h2 => ?_) (fun h2 => ?_)
    · refine v_iload_n C 2 rfl dX9_submit_30 ?_
      refine v_callSX (rest := []) C htab ms_RX9_108 (m_X9_requireBlock l G E σ μ Y htr bk) (fun Ex hE => ?_) rfl rfl (Nat.le_of_ble_eq_true rfl) ⟨Nat.le_of_ble_eq_true rfl, Nat.le_of_ble_eq_true rfl⟩ ⟨Nat.le_of_ble_eq_true rfl, Nat.le_of_ble_eq_true rfl⟩ ⟨Nat.le_of_ble_eq_true rfl, Nat.le_of_ble_eq_true rfl⟩ dX9_submit_31 (fun _ h3 => ?_)
      · have e1 : F_X9_submit σ cn ki bk al = (0, σ) := by rw [F_X9_submit, if_neg h1, if_neg h2, if_neg hE.2]
        have e2 : X_X9_submit σ cn ki bk al = X_X9_requireBlock bk := by rw [X_X9_submit, if_neg h1, if_neg h2, if_neg hE.2]
        exact ⟨(by show _ = _ ∧ _; rw [e2]; exact hE), (by first | with_reducible rfl | rw [e1])⟩
      · refine v_aload_n C 0 rfl dX9_submit_34 ?_
        refine v_get (v := .ref (E.1 1)) C fl_RX9_10 0 g_0 rfl dX9_submit_35 ?_
        refine v_iload_n C 1 rfl dX9_submit_38 ?_
        refine v_iload_n C 2 rfl dX9_submit_39 ?_
        refine v_cV1 (rest := []) C mv_RX9_162 (m_X8_hasRoomFor l G E σ μ Y ki bk) 1 g_1 rfl rfl rfl rfl (Nat.le_of_ble_eq_true rfl) ⟨Nat.le_of_ble_eq_true rfl, Nat.le_of_ble_eq_true rfl⟩ ⟨rfl, rfl⟩ ⟨Nat.le_of_ble_eq_true rfl, Nat.le_of_ble_eq_true rfl⟩ dX9_submit_40 ?_
        refine v_if_ne (tgt := 56) C (by decide) dX9_submit_43 (fun h4 => ?_) (fun h4 => ?_)
        · refine v_aload_n C 0 rfl dX9_submit_56 ?_
          refine v_get (v := .ref (E.1 1)) C fl_RX9_10 0 g_0 rfl dX9_submit_57 ?_
          refine v_iload_n C 1 rfl dX9_submit_60 ?_
          refine v_iload_n C 2 rfl dX9_submit_61 ?_
          refine v_iload_n C 3 rfl dX9_submit_62 ?_
          refine v_callV (rest := []) C mv_RX9_168 (m_X8_accept l G E σ μ Y cn ki bk al hc (room_80 hc h80 h4) hjK) 1 g_1 rfl rfl rfl rfl (Nat.le_of_ble_eq_true rfl) ⟨Nat.le_of_ble_eq_true rfl, Nat.le_of_ble_eq_true rfl⟩ ⟨Nat.le_of_ble_eq_true rfl, Nat.le_of_ble_eq_true rfl⟩ dX9_submit_63 (fun u hu => ?_)
          have hlt : cn < (max E.2.2.1 (cn + 1)) := Nat.lt_of_lt_of_le (Nat.lt_succ_self _) (Nat.le_max_right _ _)
          have e1 : F_X9_submit σ cn ki bk al = ((F_X8_accept σ cn ki bk al).1, (F_X8_accept σ cn ki bk al).2) := by rw [F_X9_submit, if_neg h1, if_neg h2, if_pos h3, if_neg h4]
          have e2 : X_X9_submit σ cn ki bk al = 0 := by rw [X_X9_submit, if_neg h1, if_neg h2, if_pos h3, if_neg h4]
          exact v_X (v_iret C u ⟨hu, e2⟩ (by rw [e1]) (by rw [e1]) (Nat.le_of_ble_eq_true rfl) (Nat.le_of_ble_eq_true rfl) dX9_submit_66)
        · have e1 : F_X9_submit σ cn ki bk al = (0, σ) := by rw [F_X9_submit, if_neg h1, if_neg h2, if_pos h3, if_pos h4]
          have e2 : X_X9_submit σ cn ki bk al = 2 := by rw [X_X9_submit, if_neg h1, if_neg h2, if_pos h3, if_pos h4]
          exact v_throwS C htab htr tx_2 (List.mem_of_getElem? (i := 12) rfl) (by show _ = _ ∧ _; rw [e2]; exact ⟨rfl, by decide⟩) (by first | with_reducible rfl | rw [e1]) dX9_submit_46 dX9_submit_49 dX9_submit_50 dX9_submit_52 dX9_submit_55 ⟨Nat.le_of_ble_eq_true rfl, Nat.le_of_ble_eq_true rfl, Nat.le_of_ble_eq_true rfl, Nat.le_of_ble_eq_true rfl⟩ ⟨Nat.le_of_ble_eq_true rfl, Nat.le_of_ble_eq_true rfl⟩
    · have e1 : F_X9_submit σ cn ki bk al = (0, σ) := by rw [F_X9_submit, if_neg h1, if_pos h2]
      have e2 : X_X9_submit σ cn ki bk al = 1 := by rw [X_X9_submit, if_neg h1, if_pos h2]
      exact v_throwS C htab htr tx_1 (List.mem_of_getElem? (i := 11) rfl) (by show _ = _ ∧ _; rw [e2]; exact ⟨rfl, by decide⟩) (by first | with_reducible rfl | rw [e1]) dX9_submit_20 dX9_submit_23 dX9_submit_24 dX9_submit_26 dX9_submit_29 ⟨Nat.le_of_ble_eq_true rfl, Nat.le_of_ble_eq_true rfl, Nat.le_of_ble_eq_true rfl, Nat.le_of_ble_eq_true rfl⟩ ⟨Nat.le_of_ble_eq_true rfl, Nat.le_of_ble_eq_true rfl⟩
def L_X9_serveFor_40 (σ : Sg) (tk : Int32) : Nat → Int32 → Int32 → Sg → Int32 × Sg
  | 0, _, _, _ => (0, σ)
  | n + 1, en, x, σ1 => (if (12 : Int32) ≤ x then (x, σ1) else (if (σ1 5 1) ≤ 0 then (x, σ1) else (if en ≤ (σ1 2 4) then (x, σ1) else L_X9_serveFor_40 σ tk n en (x + (1 : Int32)) (F_X8_serveChosen σ1).2)))
def F_X9_serveFor (σ : Sg) (tk : Int32) : Int32 × Sg := (if (F_X9_isWithin tk (1 : Int32) (9999 : Int32)) = 0 then (0, σ) else (if (X_X9_requireTimeToAccess σ) = 0 then L_X9_serveFor_40 σ tk 13 ((σ 2 4) + tk) (0 : Int32) σ else (0, σ)))
def X_X9_serveFor (σ : Sg) (tk : Int32) : Nat := (if (F_X9_isWithin tk (1 : Int32) (9999 : Int32)) = 0 then 1 else (if (X_X9_requireTimeToAccess σ) = 0 then 0 else (X_X9_requireTimeToAccess σ)))
abbrev rm_X9_serveFor : Room := { frames := 144, cells := 2, slots := 12, locals := 5697 }
set_option maxRecDepth 100000 in
set_option maxHeartbeats 4000000 in
theorem m_X9_serveFor (l : Launch) (G : GG) (E : EE) (σ μ : Sg) (Y : va_W) (htr : l.stackTraces = false) (tk : Int32) (hK : CNT E σ) : KX (S := Unit) l G yX9_serveFor cX9_serveFor 4 (some .int) rm_X9_serveFor [.ref (E.1 0), .int tk] (Wd G E σ μ Y) (fun _ => (some (.int (F_X9_serveFor σ tk).1))) (fun _ => (Wd G E (F_X9_serveFor σ tk).2 μ Y)) (fun _ => X_X9_serveFor σ tk = 0) (Wd G E (F_X9_serveFor σ tk).2 μ Y) (fun Ex => Ex = exn (X_X9_serveFor σ tk) ∧ ¬ X_X9_serveFor σ tk = 0) := by
  refine KX.of (by decide) (Nat.le_of_ble_eq_true rfl) ?_
  intro zp ze zs zm za zb zt zc zA C htab
  let Q := vx_MQ zb (QcW (S := Unit) G zA (fun _ => (some (.int (F_X9_serveFor σ tk).1))) (fun _ => (Wd G E (F_X9_serveFor σ tk).2 μ Y)) (fun _ => X_X9_serveFor σ tk = 0)) (XcW G zA (Wd G E (F_X9_serveFor σ tk).2 μ Y) (fun Ex => Ex = exn (X_X9_serveFor σ tk) ∧ ¬ X_X9_serveFor σ tk = 0)) za zs rm_X9_serveFor.cells rm_X9_serveFor.slots zA
  have loop_40 : ∀ (n : Nat) (en : Int32) (x : Int32) (σ1 : Sg), (CNT E σ1 ∧ ∃ j : Nat, x = nI j ∧ j ≤ 12 ∧ j + n = 13) → F_X9_serveFor σ tk = L_X9_serveFor_40 σ tk n en x σ1 → X_X9_serveFor σ tk = 0 → V zp l ze rm_X9_serveFor zs zm za zb zt zc 4 G zA 1 6 Q 40 [(0, .ref (E.1 0)), (1, .int tk), (2, .int en), (3, .int x)] [] (Wd G E σ1 μ Y) := by
    intro n
    induction n with
    | zero =>
      intro en x σ1 hI hL hX
      exact False.elim (by obtain ⟨_, j, _, h8, h⟩ := hI; omega)
    | succ n ih =>
      intro en x σ1 hI hL hX
      obtain ⟨hK1, hJ⟩ := hI
      refine v_iload_n C 3 rfl dX9_serveFor_40 ?_
      refine v_bipush (v := (12 : Int32)) C (by decide) dX9_serveFor_41 ?_
      refine v_icmp_ge (tgt := 91) C (by decide) dX9_serveFor_43 (fun h1 => ?_) (fun h1 => ?_)
      · refine v_iload_n C 3 rfl dX9_serveFor_91 ?_
        have e1 : F_X9_serveFor σ tk = (x, σ1) := by rw [hL, L_X9_serveFor_40, if_pos h1]
        have e2 : X_X9_serveFor σ tk = 0 := hX
        exact v_X (v_iret C () e2 (by rw [e1]) (by rw [e1]) (Nat.le_of_ble_eq_true rfl) (Nat.le_of_ble_eq_true rfl) dX9_serveFor_92)
      · refine v_aload_n C 0 rfl dX9_serveFor_46 ?_
        refine v_get (v := .ref (E.1 1)) C fl_RX9_10 0 g_0 rfl dX9_serveFor_47 ?_
        refine v_get (v := .ref (E.1 5)) C fl_RX9_219 1 g_1 rfl dX9_serveFor_50 ?_
        refine v_get (v := .int (σ1 5 1)) C fl_RX9_238 5 g_5 rfl dX9_serveFor_53 ?_
        refine v_if_le (tgt := 91) C (by decide) dX9_serveFor_56 (fun h2 => ?_) (fun h2 => ?_)
        · refine v_iload_n C 3 rfl dX9_serveFor_91 ?_
          have e1 : F_X9_serveFor σ tk = (x, σ1) := by rw [hL, L_X9_serveFor_40, if_neg h1, if_pos h2]
          have e2 : X_X9_serveFor σ tk = 0 := hX
          exact v_X (v_iret C () e2 (by rw [e1]) (by rw [e1]) (Nat.le_of_ble_eq_true rfl) (Nat.le_of_ble_eq_true rfl) dX9_serveFor_92)
        · refine v_aload_n C 0 rfl dX9_serveFor_59 ?_
          refine v_get (v := .ref (E.1 1)) C fl_RX9_10 0 g_0 rfl dX9_serveFor_60 ?_
          refine v_get (v := .ref (E.1 2)) C fl_RX9_41 1 g_1 rfl dX9_serveFor_63 ?_
          refine v_get (v := .int (σ1 2 4)) C fl_RX9_146 2 g_2 rfl dX9_serveFor_66 ?_
          refine v_iload_n C 2 rfl dX9_serveFor_69 ?_
          refine v_icmp_ge (tgt := 91) C (by decide) dX9_serveFor_70 (fun h3 => ?_) (fun h3 => ?_)
          · refine v_iload_n C 3 rfl dX9_serveFor_91 ?_
            have e1 : F_X9_serveFor σ tk = (x, σ1) := by rw [hL, L_X9_serveFor_40, if_neg h1, if_neg h2, if_pos h3]
            have e2 : X_X9_serveFor σ tk = 0 := hX
            exact v_X (v_iret C () e2 (by rw [e1]) (by rw [e1]) (Nat.le_of_ble_eq_true rfl) (Nat.le_of_ble_eq_true rfl) dX9_serveFor_92)
          · refine v_aload_n C 0 rfl dX9_serveFor_73 ?_
            refine v_get (v := .ref (E.1 1)) C fl_RX9_10 0 g_0 rfl dX9_serveFor_74 ?_
            refine v_aload_n C 0 rfl dX9_serveFor_77 ?_
            refine v_get (v := .ref (E.1 10)) C fl_RX9_19 0 g_0 rfl dX9_serveFor_78 ?_
            refine v_cV1 (rest := []) C mv_RX9_244 (m_X8_serveChosen l G E σ1 μ Y hK1) 1 g_1 rfl rfl rfl rfl (Nat.le_of_ble_eq_true rfl) ⟨Nat.le_of_ble_eq_true rfl, Nat.le_of_ble_eq_true rfl⟩ ⟨rfl, rfl⟩ ⟨Nat.le_of_ble_eq_true rfl, Nat.le_of_ble_eq_true rfl⟩ dX9_serveFor_81 ?_
            refine v_pop C rfl dX9_serveFor_84 ?_
            refine v_iinc (v := x + (1 : Int32)) (lv' := [(3, .int (x + (1 : Int32))), (0, .ref (E.1 0)), (1, .int tk), (2, .int en)]) C 3 rfl rfl (Nat.le_of_ble_eq_true rfl) rfl dX9_serveFor_85 ?_
            refine v_goto (tgt := 40) C (by decide) dX9_serveFor_88 ?_
            refine v_lv [1, 2, 3, 0] rfl ?_
            exact ih en (x + (1 : Int32)) (F_X8_serveChosen σ1).2 (⟨hK1.same (sc_5 _), up_step (B := 12) rfl (by decide) hJ h1⟩) (by rw [hL, L_X9_serveFor_40, if_neg h1, if_neg h2, if_neg h3]) (hX)
  show V zp l ze rm_X9_serveFor zs zm za zb zt zc 4 G zA 0 0 Q 0 [(0, .ref (E.1 0)), (1, .int tk)] [] (Wd G E σ μ Y)
  refine v_iload_n C 1 rfl dX9_serveFor_0 ?_
  refine v_iconst (v := (1 : Int32)) C (by decide) dX9_serveFor_1 ?_
  refine v_sipush (v := (9999 : Int32)) C (by decide) dX9_serveFor_2 ?_
  refine v_cS1 (rest := []) C ms_RX9_30 (m_X9_isWithin l G E σ μ Y tk (1 : Int32) (9999 : Int32)) rfl rfl (Nat.le_of_ble_eq_true rfl) ⟨Nat.le_of_ble_eq_true rfl, Nat.le_of_ble_eq_true rfl⟩ ⟨rfl, rfl⟩ ⟨Nat.le_of_ble_eq_true rfl, Nat.le_of_ble_eq_true rfl⟩ dX9_serveFor_5 ?_
  refine v_if_ne (tgt := 21) C (by decide) dX9_serveFor_8 (fun h4 => ?_) (fun h4 => ?_)
  · refine v_aload_n C 0 rfl dX9_serveFor_21 ?_
    refine v_callVX (rest := []) C htab mv_RX9_241 (m_X9_requireTimeToAccess l G E σ μ Y htr) (fun Ex hE => ?_) 0 g_0 rfl rfl rfl rfl (Nat.le_of_ble_eq_true rfl) ⟨Nat.le_of_ble_eq_true rfl, Nat.le_of_ble_eq_true rfl⟩ ⟨Nat.le_of_ble_eq_true rfl, Nat.le_of_ble_eq_true rfl⟩ ⟨Nat.le_of_ble_eq_true rfl, Nat.le_of_ble_eq_true rfl⟩ dX9_serveFor_22 (fun _ h5 => ?_)
    · have e1 : F_X9_serveFor σ tk = (0, σ) := by rw [F_X9_serveFor, if_neg h4, if_neg hE.2]
      have e2 : X_X9_serveFor σ tk = X_X9_requireTimeToAccess σ := by rw [X_X9_serveFor, if_neg h4, if_neg hE.2]
      exact ⟨(by show _ = _ ∧ _; rw [e2]; exact hE), (by first | with_reducible rfl | rw [e1])⟩
    · refine v_aload_n C 0 rfl dX9_serveFor_25 ?_
      refine v_get (v := .ref (E.1 1)) C fl_RX9_10 0 g_0 rfl dX9_serveFor_26 ?_
      refine v_get (v := .ref (E.1 2)) C fl_RX9_41 1 g_1 rfl dX9_serveFor_29 ?_
      refine v_get (v := .int (σ 2 4)) C fl_RX9_146 2 g_2 rfl dX9_serveFor_32 ?_
      refine v_iload_n C 1 rfl dX9_serveFor_35 ?_
      refine v_iadd C dX9_serveFor_36 ?_
      refine v_istore_n (lv' := [(2, .int ((σ 2 4) + tk)), (0, .ref (E.1 0)), (1, .int tk)]) C (Nat.le_of_ble_eq_true rfl) rfl dX9_serveFor_37 ?_
      refine v_iconst (v := (0 : Int32)) C (by decide) dX9_serveFor_38 ?_
      refine v_istore_n (lv' := [(3, .int (0 : Int32)), (2, .int ((σ 2 4) + tk)), (0, .ref (E.1 0)), (1, .int tk)]) C (Nat.le_of_ble_eq_true rfl) rfl dX9_serveFor_39 ?_
      refine v_lv [2, 3, 1, 0] rfl ?_
      exact loop_40 13 ((σ 2 4) + tk) (0 : Int32) σ (⟨hK, 0, rfl, by omega, by omega⟩) (by rw [F_X9_serveFor, if_neg h4, if_pos h5]) (by rw [X_X9_serveFor, if_neg h4, if_pos h5])
  · have e1 : F_X9_serveFor σ tk = (0, σ) := by rw [F_X9_serveFor, if_pos h4]
    have e2 : X_X9_serveFor σ tk = 1 := by rw [X_X9_serveFor, if_pos h4]
    exact v_throwS C htab htr tx_1 (List.mem_of_getElem? (i := 9) rfl) (by show _ = _ ∧ _; rw [e2]; exact ⟨rfl, by decide⟩) (by first | with_reducible rfl | rw [e1]) dX9_serveFor_11 dX9_serveFor_14 dX9_serveFor_15 dX9_serveFor_17 dX9_serveFor_20 ⟨Nat.le_of_ble_eq_true rfl, Nat.le_of_ble_eq_true rfl, Nat.le_of_ble_eq_true rfl, Nat.le_of_ble_eq_true rfl⟩ ⟨Nat.le_of_ble_eq_true rfl, Nat.le_of_ble_eq_true rfl⟩
