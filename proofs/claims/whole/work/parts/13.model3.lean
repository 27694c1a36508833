set_option maxRecDepth 100000 in
theorem refusal_ok {μ : Sg} {kd bk al : Int32} (hM : MOKg (μ 25)) (h : F_X10_refusal μ kd bk al ≤ 0) : (∃ m : Nat, m < 80 ∧ μ 25 12 = nI m) ∧ blk bk := by
  obtain ⟨m, hm, em⟩ := hM.2.1
  have n1 : ¬ (1 : Int32) ≤ 0 := by decide
  have n2 : ¬ (2 : Int32) ≤ 0 := by decide
  have n3 : ¬ (3 : Int32) ≤ 0 := by decide
  unfold F_X10_refusal at h
  by_cases h1 : F_X10_in kd 0 1 = 0
  · rw [if_pos h1] at h; exact absurd h n1
  rw [if_neg h1] at h
  by_cases h2 : F_X10_in al 0 9999 = 0
  · rw [if_pos h2] at h; exact absurd h n1
  rw [if_neg h2] at h
  by_cases h3 : F_X10_isBlock bk = 0
  · rw [if_pos h3] at h; exact absurd h n2
  rw [if_neg h3] at h
  refine ⟨⟨m, ?_, em⟩, isBlock_blk h3⟩
  rcases Nat.lt_or_ge m 80 with q | q
  · exact q
  · exfalso
    have e80 : μ 25 12 = (80 : Int32) := by rw [em, show m = 80 by omega]; rfl
    simp only [if_pos e80, ite_self] at h
    exact n3 h
theorem isRequest_rq {μ : Sg} {r : Int32} (hM : MOKg (μ 25)) (h : ¬ F_X10_isRequest μ r = 0) : rq r := by
  obtain ⟨m, hm, em⟩ := hM.2.1
  unfold F_X10_isRequest at h
  obtain ⟨a, b⟩ := in_of h
  rw [em] at b
  rcases Nat.eq_zero_or_pos m with q | q
  · exfalso; subst q
    exact absurd (Int32.le_trans a b) (by decide)
  · have e1 : nI m - (1 : Int32) = nI (m - 1) := by
      have := nI_pred (m - 1)
      rwa [show m - 1 + 1 = m by omega] at this
    rw [e1] at b
    obtain ⟨j, hj, ej⟩ := nI_rng (N := m - 1) (by omega) ⟨a, b⟩
    exact ⟨j, by omega, ej⟩
theorem rq_blk {g : Nat → Int32} {r : Int32} (hM : MOKg g) (hr : rq r) : blk (g ((110 : Int32) + r).toNatClampNeg) := by
  obtain ⟨j, hj, rfl⟩ := hr
  have e : ((110 : Int32) + nI j).toNatClampNeg = 110 + j := by
    rw [show (110 : Int32) = nI 110 from rfl, nI_add, nI_clamp (by omega)]
  rw [e]; exact hM.2.2.2.2.2 j hj
def F_X10_submit (μ : Sg) (kd : Int32) (bk : Int32) (al : Int32) : Int32 × Sg := (if (F_X10_refusal (s2 μ 24 1 (0 : Int32)) kd bk al) ≤ 0 then ((F_X10_comes (s2 μ 24 1 (0 : Int32)) kd bk al).1, (F_X10_comes (s2 μ 24 1 (0 : Int32)) kd bk al).2) else ((F_X10_fails (s2 μ 24 1 (0 : Int32)) (F_X10_refusal (s2 μ 24 1 (0 : Int32)) kd bk al)).1, (F_X10_fails (s2 μ 24 1 (0 : Int32)) (F_X10_refusal (s2 μ 24 1 (0 : Int32)) kd bk al)).2))
abbrev rm_X10_submit : Room := { frames := 3, cells := 0, slots := 0, locals := 67 }
set_option maxRecDepth 100000 in
set_option maxHeartbeats 4000000 in
theorem m_X10_submit (l : Launch) (G : GG) (E : EE) (σ μ : Sg) (Y : va_W) (kd : Int32) (bk : Int32) (al : Int32) (hM : MOKg (μ 25)) : KK l G yX10_submit cX10_submit 5 (some .int) rm_X10_submit [.ref (E.1 24), .int kd, .int bk, .int al] (Wd G E σ μ Y) (some (.int (F_X10_submit μ kd bk al).1)) (Wd G E σ (F_X10_submit μ kd bk al).2 Y) := by
  refine KE.of (by decide) (Nat.le_of_ble_eq_true rfl) ?_
  intro zp ze zs zm za zb zt zc zA C _
  generalize hQ : MQ zb _ za zs _ _ zA = Q
  show V zp l ze rm_X10_submit zs zm za zb zt zc 5 G zA 0 0 Q 0 [(0, .ref (E.1 24)), (1, .int kd), (2, .int bk), (3, .int al)] [] (Wd G E σ μ Y)
  refine v_aload_n C 0 rfl dX10_submit_0 ?_
  refine v_iconst (v := (0 : Int32)) C (by decide) dX10_submit_1 ?_
  refine v_put C fp_RX10_39 24 g_24 rfl rfl (Nat.le_of_ble_eq_true rfl) (p_24_3 _) dX10_submit_2 ?_
  refine v_aload_n C 0 rfl dX10_submit_5 ?_
  refine v_iload_n C 1 rfl dX10_submit_6 ?_
  refine v_iload_n C 2 rfl dX10_submit_7 ?_
  refine v_iload_n C 3 rfl dX10_submit_8 ?_
  refine v_cV1 (rest := []) C mv_RX10_106 (m_X10_refusal l G E σ (s2 μ 24 1 (0 : Int32)) Y kd bk al hM) 24 g_24 rfl rfl rfl rfl (Nat.le_of_ble_eq_true rfl) ⟨Nat.le_of_ble_eq_true rfl, Nat.le_of_ble_eq_true rfl⟩ ⟨rfl, rfl⟩ ⟨Nat.zero_le _, Nat.zero_le _⟩ dX10_submit_9 ?_
  refine v_istore (lv' := [(4, .int (F_X10_refusal (s2 μ 24 1 (0 : Int32)) kd bk al)), (0, .ref (E.1 24)), (1, .int kd), (2, .int bk), (3, .int al)]) C (Nat.le_of_ble_eq_true rfl) rfl dX10_submit_12 ?_
  refine v_iload C 0 rfl dX10_submit_14 ?_
  refine v_if_le (tgt := 28) C (by decide) dX10_submit_16 (fun h1 => ?_) (fun h1 => ?_)
  · refine v_aload_n C 1 rfl dX10_submit_28 ?_
    refine v_iload_n C 2 rfl dX10_submit_29 ?_
    refine v_iload_n C 3 rfl dX10_submit_30 ?_
    refine v_iload_n C 4 rfl dX10_submit_31 ?_
    refine v_cV1 (rest := []) C mv_RX10_109 (m_X10_comes l G E σ (s2 μ 24 1 (0 : Int32)) Y kd bk al ((refusal_ok (μ := s2 μ 24 1 0) hM h1).1) ((refusal_ok (μ := s2 μ 24 1 0) hM h1).2)) 24 g_24 rfl rfl rfl rfl (Nat.le_of_ble_eq_true rfl) ⟨Nat.le_of_ble_eq_true rfl, Nat.le_of_ble_eq_true rfl⟩ ⟨rfl, rfl⟩ ⟨Nat.zero_le _, Nat.zero_le _⟩ dX10_submit_32 ?_
    have e1 : F_X10_submit μ kd bk al = ((F_X10_comes (s2 μ 24 1 (0 : Int32)) kd bk al).1, (F_X10_comes (s2 μ 24 1 (0 : Int32)) kd bk al).2) := by rw [F_X10_submit, if_pos h1]
    exact v_Q hQ (v_iret C () trivial (by rw [e1]) (by rw [e1]) (Nat.zero_le _) (Nat.zero_le _) dX10_submit_35)
  · refine v_aload_n C 1 rfl dX10_submit_19 ?_
    refine v_iload C 0 rfl dX10_submit_20 ?_
    refine v_cV1 (rest := []) C mv_RX10_78 (m_X10_fails l G E σ (s2 μ 24 1 (0 : Int32)) Y (F_X10_refusal (s2 μ 24 1 (0 : Int32)) kd bk al)) 24 g_24 rfl rfl rfl rfl (Nat.le_of_ble_eq_true rfl) ⟨Nat.le_of_ble_eq_true rfl, Nat.le_of_ble_eq_true rfl⟩ ⟨rfl, rfl⟩ ⟨Nat.zero_le _, Nat.zero_le _⟩ dX10_submit_22 ?_
    refine v_goto (tgt := 35) C (by decide) dX10_submit_25 ?_
    have e1 : F_X10_submit μ kd bk al = ((F_X10_fails (s2 μ 24 1 (0 : Int32)) (F_X10_refusal (s2 μ 24 1 (0 : Int32)) kd bk al)).1, (F_X10_fails (s2 μ 24 1 (0 : Int32)) (F_X10_refusal (s2 μ 24 1 (0 : Int32)) kd bk al)).2) := by rw [F_X10_submit, if_neg h1]
    exact v_Q hQ (v_iret C () trivial (by rw [e1]) (by rw [e1]) (Nat.zero_le _) (Nat.zero_le _) dX10_submit_35)
def F_X10_appendCharacter (μ : Sg) (ch : Int32) : Int32 × Sg := (if (F_X10_in ch (33 : Int32) (126 : Int32)) = 0 then ((F_X10_fails (s2 μ 24 1 (0 : Int32)) (1 : Int32)).1, (F_X10_fails (s2 μ 24 1 (0 : Int32)) (1 : Int32)).2) else (if (μ 24 2) = (40 : Int32) then ((F_X10_fails (s2 μ 24 1 (0 : Int32)) (2 : Int32)).1, (F_X10_fails (s2 μ 24 1 (0 : Int32)) (2 : Int32)).2) else ((μ 24 2) + (1 : Int32), (s2 (s2 (s2 μ 24 1 (0 : Int32)) 27 (μ 24 2).toNatClampNeg ch) 24 2 ((μ 24 2) + (1 : Int32))))))
abbrev rm_X10_appendCharacter : Room := { frames := 1, cells := 0, slots := 0, locals := 22 }
set_option maxRecDepth 100000 in
set_option maxHeartbeats 4000000 in
theorem m_X10_appendCharacter (l : Launch) (G : GG) (E : EE) (σ μ : Sg) (Y : va_W) (ch : Int32) (hL : ∃ m : Nat, m ≤ 40 ∧ μ 24 2 = nI m) : KK l G yX10_appendCharacter cX10_appendCharacter 2 (some .int) rm_X10_appendCharacter [.ref (E.1 24), .int ch] (Wd G E σ μ Y) (some (.int (F_X10_appendCharacter μ ch).1)) (Wd G E σ (F_X10_appendCharacter μ ch).2 Y) := by
  refine KE.of (by decide) (Nat.le_of_ble_eq_true rfl) ?_
  intro zp ze zs zm za zb zt zc zA C _
  generalize hQ : MQ zb _ za zs _ _ zA = Q
  show V zp l ze rm_X10_appendCharacter zs zm za zb zt zc 2 G zA 0 0 Q 0 [(0, .ref (E.1 24)), (1, .int ch)] [] (Wd G E σ μ Y)
  refine v_aload_n C 0 rfl dX10_appendCharacter_0 ?_
  refine v_iconst (v := (0 : Int32)) C (by decide) dX10_appendCharacter_1 ?_
  refine v_put C fp_RX10_39 24 g_24 rfl rfl (Nat.le_of_ble_eq_true rfl) (p_24_3 _) dX10_appendCharacter_2 ?_
  refine v_iload_n C 1 rfl dX10_appendCharacter_5 ?_
  refine v_bipush (v := (33 : Int32)) C (by decide) dX10_appendCharacter_6 ?_
  refine v_bipush (v := (126 : Int32)) C (by decide) dX10_appendCharacter_8 ?_
  refine v_cS1 (rest := []) C ms_RX10_42 (m_X10_in l G E σ (s2 μ 24 1 (0 : Int32)) Y ch (33 : Int32) (126 : Int32)) rfl rfl (Nat.le_of_ble_eq_true rfl) ⟨Nat.le_of_ble_eq_true rfl, Nat.le_of_ble_eq_true rfl⟩ ⟨rfl, rfl⟩ ⟨Nat.zero_le _, Nat.zero_le _⟩ dX10_appendCharacter_10 ?_
  refine v_if_ne (tgt := 22) C (by decide) dX10_appendCharacter_13 (fun h1 => ?_) (fun h1 => ?_)
  · refine v_aload_n C 0 rfl dX10_appendCharacter_22 ?_
    refine v_get (v := .int (μ 24 2)) C fl_RX10_112 24 g_24 rfl dX10_appendCharacter_23 ?_
    refine v_bipush (v := (40 : Int32)) C (by decide) dX10_appendCharacter_26 ?_
    refine v_icmp_ne (tgt := 37) C (by decide) dX10_appendCharacter_28 (fun h2 => ?_) (fun h2 => ?_)
    · refine v_aload_n C 0 rfl dX10_appendCharacter_37 ?_
      refine v_get (v := .ref (E.1 27)) C fl_RX10_16 24 g_24 rfl dX10_appendCharacter_38 ?_
      refine v_aload_n C 0 rfl dX10_appendCharacter_41 ?_
      refine v_get (v := .int (μ 24 2)) C fl_RX10_112 24 g_24 rfl dX10_appendCharacter_42 ?_
      refine v_iload_n C 1 rfl dX10_appendCharacter_45 ?_
      refine v_iast (ws' := Wd G E σ (s2 (s2 μ 24 1 (0 : Int32)) 27 (μ 24 2).toNatClampNeg ch) Y) C 27 g_27 (by obtain ⟨m, hm, em⟩ := hL; refine vi_x em ?_ (by decide); rcases Nat.lt_or_ge m 40 with q | q; exact q; exact absurd (by rw [em, show m = 40 by omega]; rfl) h2) (p_27 _ _) dX10_appendCharacter_46 ?_
      refine v_aload_n C 0 rfl dX10_appendCharacter_47 ?_
      refine v_dup C rfl dX10_appendCharacter_48 ?_
      refine v_get (v := .int (μ 24 2)) C fl_RX10_112 24 g_24 rfl dX10_appendCharacter_49 ?_
      refine v_iconst (v := (1 : Int32)) C (by decide) dX10_appendCharacter_52 ?_
      refine v_iadd C dX10_appendCharacter_53 ?_
      refine v_put C fp_RX10_112 24 g_24 rfl rfl (Nat.le_of_ble_eq_true rfl) (p_24_5 _) dX10_appendCharacter_54 ?_
      refine v_aload_n C 0 rfl dX10_appendCharacter_57 ?_
      refine v_get (v := .int ((μ 24 2) + (1 : Int32))) C fl_RX10_112 24 g_24 rfl dX10_appendCharacter_58 ?_
      have e1 : F_X10_appendCharacter μ ch = ((μ 24 2) + (1 : Int32), (s2 (s2 (s2 μ 24 1 (0 : Int32)) 27 (μ 24 2).toNatClampNeg ch) 24 2 ((μ 24 2) + (1 : Int32)))) := by rw [F_X10_appendCharacter, if_neg h1, if_neg h2]
      exact v_Q hQ (v_iret C () trivial (by rw [e1]) (by rw [e1]) (Nat.zero_le _) (Nat.zero_le _) dX10_appendCharacter_61)
    · refine v_aload_n C 0 rfl dX10_appendCharacter_31 ?_
      refine v_iconst (v := (2 : Int32)) C (by decide) dX10_appendCharacter_32 ?_
      refine v_cV1 (rest := []) C mv_RX10_78 (m_X10_fails l G E σ (s2 μ 24 1 (0 : Int32)) Y (2 : Int32)) 24 g_24 rfl rfl rfl rfl (Nat.le_of_ble_eq_true rfl) ⟨Nat.le_of_ble_eq_true rfl, Nat.le_of_ble_eq_true rfl⟩ ⟨rfl, rfl⟩ ⟨Nat.zero_le _, Nat.zero_le _⟩ dX10_appendCharacter_33 ?_
      have e1 : F_X10_appendCharacter μ ch = ((F_X10_fails (s2 μ 24 1 (0 : Int32)) (2 : Int32)).1, (F_X10_fails (s2 μ 24 1 (0 : Int32)) (2 : Int32)).2) := by rw [F_X10_appendCharacter, if_neg h1, if_pos h2]
      exact v_Q hQ (v_iret C () trivial (by rw [e1]) (by rw [e1]) (Nat.zero_le _) (Nat.zero_le _) dX10_appendCharacter_36)
  · refine v_aload_n C 0 rfl dX10_appendCharacter_16 ?_
    refine v_iconst (v := (1 : Int32)) C (by decide) dX10_appendCharacter_17 ?_
    refine v_cV1 (rest := []) C mv_RX10_78 (m_X10_fails l G E σ (s2 μ 24 1 (0 : Int32)) Y (1 : Int32)) 24 g_24 rfl rfl rfl rfl (Nat.le_of_ble_eq_true rfl) ⟨Nat.le_of_ble_eq_true rfl, Nat.le_of_ble_eq_true rfl⟩ ⟨rfl, rfl⟩ ⟨Nat.zero_le _, Nat.zero_le _⟩ dX10_appendCharacter_18 ?_
    have e1 : F_X10_appendCharacter μ ch = ((F_X10_fails (s2 μ 24 1 (0 : Int32)) (1 : Int32)).1, (F_X10_fails (s2 μ 24 1 (0 : Int32)) (1 : Int32)).2) := by rw [F_X10_appendCharacter, if_pos h1]
    exact v_Q hQ (v_iret C () trivial (by rw [e1]) (by rw [e1]) (Nat.zero_le _) (Nat.zero_le _) dX10_appendCharacter_21)
def F_X10_faultPosition (μ : Sg) : Int32 × Sg := (μ 24 5, (s2 μ 24 1 (0 : Int32)))
abbrev rm_X10_faultPosition : Room := { frames := 0, cells := 0, slots := 0, locals := 0 }
set_option maxRecDepth 100000 in
set_option maxHeartbeats 4000000 in
theorem m_X10_faultPosition (l : Launch) (G : GG) (E : EE) (σ μ : Sg) (Y : va_W) : KK l G yX10_faultPosition cX10_faultPosition 1 (some .int) rm_X10_faultPosition [.ref (E.1 24)] (Wd G E σ μ Y) (some (.int (F_X10_faultPosition μ).1)) (Wd G E σ (F_X10_faultPosition μ).2 Y) := by
  refine KE.of (by decide) (Nat.le_of_ble_eq_true rfl) ?_
  intro zp ze zs zm za zb zt zc zA C _
  generalize hQ : MQ zb _ za zs _ _ zA = Q
  show V zp l ze rm_X10_faultPosition zs zm za zb zt zc 1 G zA 0 0 Q 0 [(0, .ref (E.1 24))] [] (Wd G E σ μ Y)
  refine v_aload_n C 0 rfl dX10_faultPosition_0 ?_
  refine v_iconst (v := (0 : Int32)) C (by decide) dX10_faultPosition_1 ?_
  refine v_put C fp_RX10_39 24 g_24 rfl rfl (Nat.le_of_ble_eq_true rfl) (p_24_3 _) dX10_faultPosition_2 ?_
  refine v_aload_n C 0 rfl dX10_faultPosition_5 ?_
  refine v_get (v := .int (μ 24 5)) C fl_RX10_19 24 g_24 rfl dX10_faultPosition_6 ?_
  have e1 : F_X10_faultPosition μ = (μ 24 5, (s2 μ 24 1 (0 : Int32))) := by rw [F_X10_faultPosition]
  exact v_Q hQ (v_iret C () trivial (by rw [e1]) (by rw [e1]) (Nat.zero_le _) (Nat.zero_le _) dX10_faultPosition_9)
def F_X10_cancel (μ : Sg) (r : Int32) : Sg := (if (F_X10_isRequest μ r) = 0 then (s2 μ 24 1 (1 : Int32)) else (if (F_X10_isPending μ r) = 0 then (s2 μ 24 1 (2 : Int32)) else (s2 (s2 μ 24 1 (0 : Int32)) 25 ((350 : Int32) + r).toNatClampNeg (2 : Int32))))
abbrev rm_X10_cancel : Room := { frames := 2, cells := 0, slots := 0, locals := 43 }
set_option maxRecDepth 100000 in
set_option maxHeartbeats 4000000 in
theorem m_X10_cancel (l : Launch) (G : GG) (E : EE) (σ μ : Sg) (Y : va_W) (r : Int32) (hM : MOKg (μ 25)) : KK l G yX10_cancel cX10_cancel 2 none rm_X10_cancel [.ref (E.1 24), .int r] (Wd G E σ μ Y) none (Wd G E σ (F_X10_cancel μ r) Y) := by
  refine KE.of (by decide) (Nat.le_of_ble_eq_true rfl) ?_
  intro zp ze zs zm za zb zt zc zA C _
  generalize hQ : MQ zb _ za zs _ _ zA = Q
  show V zp l ze rm_X10_cancel zs zm za zb zt zc 2 G zA 0 0 Q 0 [(0, .ref (E.1 24)), (1, .int r)] [] (Wd G E σ μ Y)
  refine v_aload_n C 0 rfl dX10_cancel_0 ?_
  refine v_aload_n C 0 rfl dX10_cancel_1 ?_
  refine v_iload_n C 1 rfl dX10_cancel_2 ?_
  refine v_cV1 (rest := [.ref (E.1 24)]) C mv_RX10_140 (m_X10_isRequest l G E σ μ Y r) 24 g_24 rfl rfl rfl rfl (Nat.le_of_ble_eq_true rfl) ⟨Nat.le_of_ble_eq_true rfl, Nat.le_of_ble_eq_true rfl⟩ ⟨rfl, rfl⟩ ⟨Nat.zero_le _, Nat.zero_le _⟩ dX10_cancel_3 ?_
  refine v_if_eq (tgt := 25) C (by decide) dX10_cancel_6 (fun h1 => ?_) (fun h1 => ?_)
  · refine v_iconst (v := (1 : Int32)) C (by decide) dX10_cancel_25 ?_
    refine v_put C fp_RX10_39 24 g_24 rfl rfl (Nat.le_of_ble_eq_true rfl) (p_24_3 _) dX10_cancel_26 ?_
    refine v_aload_n C 0 rfl dX10_cancel_29 ?_
    refine v_get (v := .int (1 : Int32)) C fl_RX10_39 24 g_24 rfl dX10_cancel_30 ?_
    refine v_if_ne (tgt := 47) C (by decide) dX10_cancel_33 (fun h2 => ?_) (fun h2 => ?_)
    · have e1 : F_X10_cancel μ r = (s2 μ 24 1 (1 : Int32)) := by rw [F_X10_cancel, if_pos h1]
      exact v_Q hQ (v_vret C () trivial rfl (by rw [e1]) (Nat.zero_le _) (Nat.zero_le _) dX10_cancel_47)
    · exact absurd h2 (by decide)
  · refine v_aload_n C 0 rfl dX10_cancel_9 ?_
    refine v_iload_n C 1 rfl dX10_cancel_10 ?_
    refine v_cV1 (rest := [.ref (E.1 24)]) C mv_RX10_100 (m_X10_isPending l G E σ μ Y r (isRequest_rq hM h1)) 24 g_24 rfl rfl rfl rfl (Nat.le_of_ble_eq_true rfl) ⟨Nat.le_of_ble_eq_true rfl, Nat.le_of_ble_eq_true rfl⟩ ⟨rfl, rfl⟩ ⟨Nat.zero_le _, Nat.zero_le _⟩ dX10_cancel_11 ?_
    refine v_if_eq (tgt := 21) C (by decide) dX10_cancel_14 (fun h3 => ?_) (fun h3 => ?_)
    · refine v_iconst (v := (2 : Int32)) C (by decide) dX10_cancel_21 ?_
      refine v_goto (tgt := 26) C (by decide) dX10_cancel_22 ?_
      refine v_put C fp_RX10_39 24 g_24 rfl rfl (Nat.le_of_ble_eq_true rfl) (p_24_3 _) dX10_cancel_26 ?_
      refine v_aload_n C 0 rfl dX10_cancel_29 ?_
      refine v_get (v := .int (2 : Int32)) C fl_RX10_39 24 g_24 rfl dX10_cancel_30 ?_
      refine v_if_ne (tgt := 47) C (by decide) dX10_cancel_33 (fun h4 => ?_) (fun h4 => ?_)
      · have e1 : F_X10_cancel μ r = (s2 μ 24 1 (2 : Int32)) := by rw [F_X10_cancel, if_neg h1, if_pos h3]
        exact v_Q hQ (v_vret C () trivial rfl (by rw [e1]) (Nat.zero_le _) (Nat.zero_le _) dX10_cancel_47)
      · exact absurd h4 (by decide)
    · refine v_iconst (v := (0 : Int32)) C (by decide) dX10_cancel_17 ?_
      refine v_goto (tgt := 26) C (by decide) dX10_cancel_18 ?_
      refine v_put C fp_RX10_39 24 g_24 rfl rfl (Nat.le_of_ble_eq_true rfl) (p_24_3 _) dX10_cancel_26 ?_
      refine v_aload_n C 0 rfl dX10_cancel_29 ?_
      refine v_get (v := .int (0 : Int32)) C fl_RX10_39 24 g_24 rfl dX10_cancel_30 ?_
      refine v_if_ne (tgt := 47) C (by decide) dX10_cancel_33 (fun h5 => ?_) (fun h5 => ?_)
      · exact absurd (by decide) h5
      · refine v_aload_n C 0 rfl dX10_cancel_36 ?_
        refine v_get (v := .ref (E.1 25)) C fl_RX10_7 24 g_24 rfl dX10_cancel_37 ?_
        refine v_sipush (v := (350 : Int32)) C (by decide) dX10_cancel_40 ?_
        refine v_iload_n C 1 rfl dX10_cancel_43 ?_
        refine v_iadd C dX10_cancel_44 ?_
        refine v_iconst (v := (2 : Int32)) C (by decide) dX10_cancel_45 ?_
        refine v_iast (ws' := Wd G E σ (s2 (s2 μ 24 1 (0 : Int32)) 25 ((350 : Int32) + r).toNatClampNeg (2 : Int32)) Y) C 25 g_25 (by first | exact (by obtain ⟨j, hj, ej⟩ := isRequest_rq hM h1; exact vi_add 350 ej (by omega) (by decide)) | exact absurd (show (2 : Int32) = 0 from by assumption) (by decide) | exact absurd (show (1 : Int32) = 0 from by assumption) (by decide)) (p_25 _ _) dX10_cancel_46 ?_
        have e1 : F_X10_cancel μ r = (s2 (s2 μ 24 1 (0 : Int32)) 25 ((350 : Int32) + r).toNatClampNeg (2 : Int32)) := by rw [F_X10_cancel, if_neg h1, if_neg h3]
        exact v_Q hQ (v_vret C () trivial rfl (by rw [e1]) (Nat.zero_le _) (Nat.zero_le _) dX10_cancel_47)
def F_X10_cylinder (μ : Sg) (r : Int32) : Int32 := F_X10_cylinderAt (F_X10_place μ (μ 25 ((110 : Int32) + r).toNatClampNeg))
abbrev rm_X10_cylinder : Room := { frames := 2, cells := 0, slots := 0, locals := 41 }
set_option maxRecDepth 100000 in
set_option maxHeartbeats 4000000 in
theorem m_X10_cylinder (l : Launch) (G : GG) (E : EE) (σ μ : Sg) (Y : va_W) (r : Int32) (hM : MOKg (μ 25)) (hr : rq r) : KK l G yX10_cylinder cX10_cylinder 2 (some .int) rm_X10_cylinder [.ref (E.1 24), .int r] (Wd G E σ μ Y) (some (.int (F_X10_cylinder μ r))) (Wd G E σ μ Y) := by
  refine KE.of (by decide) (Nat.le_of_ble_eq_true rfl) ?_
  intro zp ze zs zm za zb zt zc zA C _
  generalize hQ : MQ zb _ za zs _ _ zA = Q
  show V zp l ze rm_X10_cylinder zs zm za zb zt zc 2 G zA 0 0 Q 0 [(0, .ref (E.1 24)), (1, .int r)] [] (Wd G E σ μ Y)
  refine v_aload_n C 0 rfl dX10_cylinder_0 ?_
  refine v_aload_n C 0 rfl dX10_cylinder_1 ?_
  refine v_get (v := .ref (E.1 25)) C fl_RX10_7 24 g_24 rfl dX10_cylinder_2 ?_
  refine v_bipush (v := (110 : Int32)) C (by decide) dX10_cylinder_5 ?_
  refine v_iload_n C 1 rfl dX10_cylinder_7 ?_
  refine v_iadd C dX10_cylinder_8 ?_
  refine v_iald (v := μ 25 ((110 : Int32) + r).toNatClampNeg) C 25 g_25 (by obtain ⟨j, hj, ej⟩ := hr; exact vi_add 110 ej (by omega) (by decide)) rfl dX10_cylinder_9 ?_
  refine v_cV1 (rest := []) C mv_RX10_89 (m_X10_place l G E σ μ Y (μ 25 ((110 : Int32) + r).toNatClampNeg) hM.1) 24 g_24 rfl rfl rfl rfl (Nat.le_of_ble_eq_true rfl) ⟨Nat.le_of_ble_eq_true rfl, Nat.le_of_ble_eq_true rfl⟩ ⟨rfl, rfl⟩ ⟨Nat.zero_le _, Nat.zero_le _⟩ dX10_cylinder_10 ?_
  refine v_cS1 (rest := []) C ms_RX10_53 (m_X10_cylinderAt l G E σ μ Y (F_X10_place μ (μ 25 ((110 : Int32) + r).toNatClampNeg))) rfl rfl (Nat.le_of_ble_eq_true rfl) ⟨Nat.le_of_ble_eq_true rfl, Nat.le_of_ble_eq_true rfl⟩ ⟨rfl, rfl⟩ ⟨Nat.zero_le _, Nat.zero_le _⟩ dX10_cylinder_13 ?_
  have e1 : F_X10_cylinder μ r = F_X10_cylinderAt (F_X10_place μ (μ 25 ((110 : Int32) + r).toNatClampNeg)) := by rw [F_X10_cylinder]
  exact v_Q hQ (v_iret C () trivial (by rw [e1]) rfl (Nat.zero_le _) (Nat.zero_le _) dX10_cylinder_16)
theorem cyl_of {μ : Sg} {r : Int32} (hM : MOKg (μ 25)) (hr : rq r) : cyl (F_X10_cylinder μ r) := by
  unfold F_X10_cylinder
  exact geo_c (place_plc hM.1 (rq_blk hM hr))
def F_X10_distance (μ : Sg) (r : Int32) : Int32 := (if 0 ≤ ((F_X10_cylinder μ r) - (μ 25 9)) then (F_X10_cylinder μ r) - (μ 25 9) else -((F_X10_cylinder μ r) - (μ 25 9)))
abbrev rm_X10_distance : Room := { frames := 3, cells := 0, slots := 0, locals := 62 }
set_option maxRecDepth 100000 in
set_option maxHeartbeats 4000000 in
theorem m_X10_distance (l : Launch) (G : GG) (E : EE) (σ μ : Sg) (Y : va_W) (r : Int32) (hM : MOKg (μ 25)) (hr : rq r) : KK l G yX10_distance cX10_distance 3 (some .int) rm_X10_distance [.ref (E.1 24), .int r] (Wd G E σ μ Y) (some (.int (F_X10_distance μ r))) (Wd G E σ μ Y) := by
  refine KE.of (by decide) (Nat.le_of_ble_eq_true rfl) ?_
  intro zp ze zs zm za zb zt zc zA C _
  generalize hQ : MQ zb _ za zs _ _ zA = Q
  show V zp l ze rm_X10_distance zs zm za zb zt zc 3 G zA 0 0 Q 0 [(0, .ref (E.1 24)), (1, .int r)] [] (Wd G E σ μ Y)
  refine v_aload_n C 0 rfl dX10_distance_0 ?_
  refine v_iload_n C 1 rfl dX10_distance_1 ?_
  refine v_cV1 (rest := []) C mv_RX10_143 (m_X10_cylinder l G E σ μ Y r hM hr) 24 g_24 rfl rfl rfl rfl (Nat.le_of_ble_eq_true rfl) ⟨Nat.le_of_ble_eq_true rfl, Nat.le_of_ble_eq_true rfl⟩ ⟨rfl, rfl⟩ ⟨Nat.zero_le _, Nat.zero_le _⟩ dX10_distance_2 ?_
  refine v_aload_n C 0 rfl dX10_distance_5 ?_
  refine v_get (v := .ref (E.1 25)) C fl_RX10_7 24 g_24 rfl dX10_distance_6 ?_
  refine v_bipush (v := (9 : Int32)) C (by decide) dX10_distance_9 ?_
  refine v_iald (v := μ 25 9) C 25 g_25 vi_9_1700 (rdl tn_9 rfl) dX10_distance_11 ?_
  refine v_isub C dX10_distance_12 ?_
  refine v_istore_n (lv' := [(2, .int ((F_X10_cylinder μ r) - (μ 25 9))), (0, .ref (E.1 24)), (1, .int r)]) C (Nat.le_of_ble_eq_true rfl) rfl dX10_distance_13 ?_
  refine v_iload_n C 0 rfl dX10_distance_14 ?_
  refine v_if_ge (tgt := 23) C (by decide) dX10_distance_15 (fun h1 => ?_) (fun h1 => ?_)
  · refine v_iload_n C 0 rfl dX10_distance_23 ?_
    have e1 : F_X10_distance μ r = (F_X10_cylinder μ r) - (μ 25 9) := by rw [F_X10_distance, if_pos h1]
    exact v_Q hQ (v_iret C () trivial (by rw [e1]) rfl (Nat.zero_le _) (Nat.zero_le _) dX10_distance_24)
  · refine v_iload_n C 0 rfl dX10_distance_18 ?_
    refine v_ineg C dX10_distance_19 ?_
    refine v_goto (tgt := 24) C (by decide) dX10_distance_20 ?_
    have e1 : F_X10_distance μ r = -((F_X10_cylinder μ r) - (μ 25 9)) := by rw [F_X10_distance, if_neg h1]
    exact v_Q hQ (v_iret C () trivial (by rw [e1]) rfl (Nat.zero_le _) (Nat.zero_le _) dX10_distance_24)
def F_X10_isAhead (μ : Sg) (r : Int32) : Int32 := (if (μ 25 10) = (1 : Int32) then (if (F_X10_cylinder μ r) < (μ 25 9) then (0 : Int32) else (1 : Int32)) else (if (μ 25 9) < (F_X10_cylinder μ r) then (0 : Int32) else (1 : Int32)))
theorem z01_X10_isAhead (μ : Sg) (r : Int32) : F_X10_isAhead μ r = 0 ∨ F_X10_isAhead μ r = 1 := by
  unfold F_X10_isAhead; (repeat' split) <;> first | exact Or.inl rfl | exact Or.inr rfl
abbrev rm_X10_isAhead : Room := { frames := 3, cells := 0, slots := 0, locals := 62 }
set_option maxRecDepth 100000 in
set_option maxHeartbeats 4000000 in
theorem m_X10_isAhead (l : Launch) (G : GG) (E : EE) (σ μ : Sg) (Y : va_W) (r : Int32) (hM : MOKg (μ 25)) (hr : rq r) : KK l G yX10_isAhead cX10_isAhead 2 (some .boolean) rm_X10_isAhead [.ref (E.1 24), .int r] (Wd G E σ μ Y) (some (.int (F_X10_isAhead μ r))) (Wd G E σ μ Y) := by
  refine KE.of (by decide) (Nat.le_of_ble_eq_true rfl) ?_
  intro zp ze zs zm za zb zt zc zA C _
  generalize hQ : MQ zb _ za zs _ _ zA = Q
  show V zp l ze rm_X10_isAhead zs zm za zb zt zc 2 G zA 0 0 Q 0 [(0, .ref (E.1 24)), (1, .int r)] [] (Wd G E σ μ Y)
  refine v_aload_n C 0 rfl dX10_isAhead_0 ?_
  refine v_get (v := .ref (E.1 25)) C fl_RX10_7 24 g_24 rfl dX10_isAhead_1 ?_
  refine v_bipush (v := (10 : Int32)) C (by decide) dX10_isAhead_4 ?_
  refine v_iald (v := μ 25 10) C 25 g_25 vi_10_1700 (rdl tn_10 rfl) dX10_isAhead_6 ?_
  refine v_iconst (v := (1 : Int32)) C (by decide) dX10_isAhead_7 ?_
  refine v_icmp_ne (tgt := 34) C (by decide) dX10_isAhead_8 (fun h1 => ?_) (fun h1 => ?_)
  · refine v_aload_n C 0 rfl dX10_isAhead_34 ?_
    refine v_iload_n C 1 rfl dX10_isAhead_35 ?_
    refine v_cV1 (rest := []) C mv_RX10_143 (m_X10_cylinder l G E σ μ Y r hM hr) 24 g_24 rfl rfl rfl rfl (Nat.le_of_ble_eq_true rfl) ⟨Nat.le_of_ble_eq_true rfl, Nat.le_of_ble_eq_true rfl⟩ ⟨rfl, rfl⟩ ⟨Nat.zero_le _, Nat.zero_le _⟩ dX10_isAhead_36 ?_
    refine v_aload_n C 0 rfl dX10_isAhead_39 ?_
    refine v_get (v := .ref (E.1 25)) C fl_RX10_7 24 g_24 rfl dX10_isAhead_40 ?_
    refine v_bipush (v := (9 : Int32)) C (by decide) dX10_isAhead_43 ?_
    refine v_iald (v := μ 25 9) C 25 g_25 vi_9_1700 (rdl tn_9 rfl) dX10_isAhead_45 ?_
    refine v_icmp_gt (tgt := 53) C (by decide) dX10_isAhead_46 (fun h2 => ?_) (fun h2 => ?_)
    · refine v_iconst (v := (0 : Int32)) C (by decide) dX10_isAhead_53 ?_
      have e1 : F_X10_isAhead μ r = (0 : Int32) := by rw [F_X10_isAhead, if_neg h1, if_pos h2]
      exact v_Q hQ (v_zret C rfl () trivial (by rw [e1]) rfl (Nat.zero_le _) (Nat.zero_le _) dX10_isAhead_54)
    · refine v_iconst (v := (1 : Int32)) C (by decide) dX10_isAhead_49 ?_
      refine v_goto (tgt := 54) C (by decide) dX10_isAhead_50 ?_
      have e1 : F_X10_isAhead μ r = (1 : Int32) := by rw [F_X10_isAhead, if_neg h1, if_neg h2]
      exact v_Q hQ (v_zret C rfl () trivial (by rw [e1]) rfl (Nat.zero_le _) (Nat.zero_le _) dX10_isAhead_54)
  · refine v_aload_n C 0 rfl dX10_isAhead_11 ?_
    refine v_iload_n C 1 rfl dX10_isAhead_12 ?_
    refine v_cV1 (rest := []) C mv_RX10_143 (m_X10_cylinder l G E σ μ Y r hM hr) 24 g_24 rfl rfl rfl rfl (Nat.le_of_ble_eq_true rfl) ⟨Nat.le_of_ble_eq_true rfl, Nat.le_of_ble_eq_true rfl⟩ ⟨rfl, rfl⟩ ⟨Nat.zero_le _, Nat.zero_le _⟩ dX10_isAhead_13 ?_
    refine v_aload_n C 0 rfl dX10_isAhead_16 ?_
    refine v_get (v := .ref (E.1 25)) C fl_RX10_7 24 g_24 rfl dX10_isAhead_17 ?_
    refine v_bipush (v := (9 : Int32)) C (by decide) dX10_isAhead_20 ?_
    refine v_iald (v := μ 25 9) C 25 g_25 vi_9_1700 (rdl tn_9 rfl) dX10_isAhead_22 ?_
    refine v_icmp_lt (tgt := 30) C (by decide) dX10_isAhead_23 (fun h3 => ?_) (fun h3 => ?_)
    · refine v_iconst (v := (0 : Int32)) C (by decide) dX10_isAhead_30 ?_
      refine v_goto (tgt := 54) C (by decide) dX10_isAhead_31 ?_
      have e1 : F_X10_isAhead μ r = (0 : Int32) := by rw [F_X10_isAhead, if_pos h1, if_pos h3]
      exact v_Q hQ (v_zret C rfl () trivial (by rw [e1]) rfl (Nat.zero_le _) (Nat.zero_le _) dX10_isAhead_54)
    · refine v_iconst (v := (1 : Int32)) C (by decide) dX10_isAhead_26 ?_
      refine v_goto (tgt := 54) C (by decide) dX10_isAhead_27 ?_
      have e1 : F_X10_isAhead μ r = (1 : Int32) := by rw [F_X10_isAhead, if_pos h1, if_neg h3]
      exact v_Q hQ (v_zret C rfl () trivial (by rw [e1]) rfl (Nat.zero_le _) (Nat.zero_le _) dX10_isAhead_54)
def F_X10_bucketOf (μ : Sg) (r : Int32) : Int32 := (if (μ 25 ((270 : Int32) + r).toNatClampNeg) < 0 then (if 0 ≤ ((3 : Int32) - (((μ 25 8) - (μ 25 ((190 : Int32) + r).toNatClampNeg)) / (μ 25 6))) then (3 : Int32) - (((μ 25 8) - (μ 25 ((190 : Int32) + r).toNatClampNeg)) / (μ 25 6)) else (0 : Int32)) else (if 0 ≤ ((μ 25 ((270 : Int32) + r).toNatClampNeg) - (μ 25 8)) then (if (((μ 25 ((270 : Int32) + r).toNatClampNeg) - (μ 25 8)) / (μ 25 5)) ≤ (3 : Int32) then (if 0 ≤ ((((μ 25 ((270 : Int32) + r).toNatClampNeg) - (μ 25 8)) / (μ 25 5)) - (((μ 25 8) - (μ 25 ((190 : Int32) + r).toNatClampNeg)) / (μ 25 6))) then (((μ 25 ((270 : Int32) + r).toNatClampNeg) - (μ 25 8)) / (μ 25 5)) - (((μ 25 8) - (μ 25 ((190 : Int32) + r).toNatClampNeg)) / (μ 25 6)) else (0 : Int32)) else (if 0 ≤ ((3 : Int32) - (((μ 25 8) - (μ 25 ((190 : Int32) + r).toNatClampNeg)) / (μ 25 6))) then (3 : Int32) - (((μ 25 8) - (μ 25 ((190 : Int32) + r).toNatClampNeg)) / (μ 25 6)) else (0 : Int32))) else (if 0 ≤ ((0 : Int32) - (((μ 25 8) - (μ 25 ((190 : Int32) + r).toNatClampNeg)) / (μ 25 6))) then (0 : Int32) - (((μ 25 8) - (μ 25 ((190 : Int32) + r).toNatClampNeg)) / (μ 25 6)) else (0 : Int32))))
abbrev rm_X10_bucketOf : Room := { frames := 0, cells := 0, slots := 0, locals := 0 }
set_option maxRecDepth 100000 in
set_option maxHeartbeats 4000000 in
theorem m_X10_bucketOf (l : Launch) (G : GG) (E : EE) (σ μ : Sg) (Y : va_W) (r : Int32) (hM : MOKg (μ 25)) (hr : rq r) : KK l G yX10_bucketOf cX10_bucketOf 4 (some .int) rm_X10_bucketOf [.ref (E.1 24), .int r] (Wd G E σ μ Y) (some (.int (F_X10_bucketOf μ r))) (Wd G E σ μ Y) := by
  refine KE.of (by decide) (Nat.le_of_ble_eq_true rfl) ?_
  intro zp ze zs zm za zb zt zc zA C _
  generalize hQ : MQ zb _ za zs _ _ zA = Q
  show V zp l ze rm_X10_bucketOf zs zm za zb zt zc 4 G zA 0 0 Q 0 [(0, .ref (E.1 24)), (1, .int r)] [] (Wd G E σ μ Y)
  refine v_iconst (v := (3 : Int32)) C (by decide) dX10_bucketOf_0 ?_
  refine v_istore_n (lv' := [(2, .int (3 : Int32)), (0, .ref (E.1 24)), (1, .int r)]) C (Nat.le_of_ble_eq_true rfl) rfl dX10_bucketOf_1 ?_
  refine v_aload_n C 1 rfl dX10_bucketOf_2 ?_
  refine v_get (v := .ref (E.1 25)) C fl_RX10_7 24 g_24 rfl dX10_bucketOf_3 ?_
  refine v_sipush (v := (270 : Int32)) C (by decide) dX10_bucketOf_6 ?_
  refine v_iload_n C 2 rfl dX10_bucketOf_9 ?_
  refine v_iadd C dX10_bucketOf_10 ?_
  refine v_iald (v := μ 25 ((270 : Int32) + r).toNatClampNeg) C 25 g_25 (by obtain ⟨j, hj, ej⟩ := hr; exact vi_add 270 ej (by omega) (by decide)) rfl dX10_bucketOf_11 ?_
  refine v_if_lt (tgt := 62) C (by decide) dX10_bucketOf_12 (fun h1 => ?_) (fun h1 => ?_)
  · refine v_iload_n C 0 rfl dX10_bucketOf_62 ?_
    refine v_aload_n C 1 rfl dX10_bucketOf_63 ?_
    refine v_get (v := .ref (E.1 25)) C fl_RX10_7 24 g_24 rfl dX10_bucketOf_64 ?_
    refine v_bipush (v := (8 : Int32)) C (by decide) dX10_bucketOf_67 ?_
    refine v_iald (v := μ 25 8) C 25 g_25 vi_8_1700 (rdl tn_8 rfl) dX10_bucketOf_69 ?_
    refine v_aload_n C 1 rfl dX10_bucketOf_70 ?_
    refine v_get (v := .ref (E.1 25)) C fl_RX10_7 24 g_24 rfl dX10_bucketOf_71 ?_
    refine v_sipush (v := (190 : Int32)) C (by decide) dX10_bucketOf_74 ?_
    refine v_iload_n C 2 rfl dX10_bucketOf_77 ?_
    refine v_iadd C dX10_bucketOf_78 ?_
    refine v_iald (v := μ 25 ((190 : Int32) + r).toNatClampNeg) C 25 g_25 (by obtain ⟨j, hj, ej⟩ := hr; exact vi_add 190 ej (by omega) (by decide)) rfl dX10_bucketOf_79 ?_
    refine v_isub C dX10_bucketOf_80 ?_
    refine v_aload_n C 1 rfl dX10_bucketOf_81 ?_
    refine v_get (v := .ref (E.1 25)) C fl_RX10_7 24 g_24 rfl dX10_bucketOf_82 ?_
    refine v_bipush (v := (6 : Int32)) C (by decide) dX10_bucketOf_85 ?_
    refine v_iald (v := μ 25 6) C 25 g_25 vi_6_1700 (rdl tn_6 rfl) dX10_bucketOf_87 ?_
    refine v_idiv C hM.2.2.2.2.1 dX10_bucketOf_88 ?_
    refine v_isub C dX10_bucketOf_89 ?_
    refine v_istore_n (lv' := [(2, .int ((3 : Int32) - (((μ 25 8) - (μ 25 ((190 : Int32) + r).toNatClampNeg)) / (μ 25 6)))), (0, .ref (E.1 24)), (1, .int r)]) C (Nat.le_of_ble_eq_true rfl) rfl dX10_bucketOf_90 ?_
    refine v_iload_n C 0 rfl dX10_bucketOf_91 ?_
    refine v_if_ge (tgt := 99) C (by decide) dX10_bucketOf_92 (fun h2 => ?_) (fun h2 => ?_)
    · refine v_iload_n C 0 rfl dX10_bucketOf_99 ?_
      have e1 : F_X10_bucketOf μ r = (3 : Int32) - (((μ 25 8) - (μ 25 ((190 : Int32) + r).toNatClampNeg)) / (μ 25 6)) := by rw [F_X10_bucketOf, if_pos h1, if_pos h2]
      exact v_Q hQ (v_iret C () trivial (by rw [e1]) rfl (Nat.zero_le _) (Nat.zero_le _) dX10_bucketOf_100)
    · refine v_iconst (v := (0 : Int32)) C (by decide) dX10_bucketOf_95 ?_
      refine v_goto (tgt := 100) C (by decide) dX10_bucketOf_96 ?_
      have e1 : F_X10_bucketOf μ r = (0 : Int32) := by rw [F_X10_bucketOf, if_pos h1, if_neg h2]
      exact v_Q hQ (v_iret C () trivial (by rw [e1]) rfl (Nat.zero_le _) (Nat.zero_le _) dX10_bucketOf_100)
  · refine v_aload_n C 1 rfl dX10_bucketOf_15 ?_
    refine v_get (v := .ref (E.1 25)) C fl_RX10_7 24 g_24 rfl dX10_bucketOf_16 ?_
    refine v_sipush (v := (270 : Int32)) C (by decide) dX10_bucketOf_19 ?_
    refine v_iload_n C 2 rfl dX10_bucketOf_22 ?_
    refine v_iadd C dX10_bucketOf_23 ?_
    refine v_iald (v := μ 25 ((270 : Int32) + r).toNatClampNeg) C 25 g_25 (by obtain ⟨j, hj, ej⟩ := hr; exact vi_add 270 ej (by omega) (by decide)) rfl dX10_bucketOf_24 ?_
    refine v_aload_n C 1 rfl dX10_bucketOf_25 ?_
    refine v_get (v := .ref (E.1 25)) C fl_RX10_7 24 g_24 rfl dX10_bucketOf_26 ?_
    refine v_bipush (v := (8 : Int32)) C (by decide) dX10_bucketOf_29 ?_
    refine v_iald (v := μ 25 8) C 25 g_25 vi_8_1700 (rdl tn_8 rfl) dX10_bucketOf_31 ?_
    refine v_isub C dX10_bucketOf_32 ?_
    refine v_istore_n (lv' := [(3, .int ((μ 25 ((270 : Int32) + r).toNatClampNeg) - (μ 25 8))), (2, .int (3 : Int32)), (0, .ref (E.1 24)), (1, .int r)]) C (Nat.le_of_ble_eq_true rfl) rfl dX10_bucketOf_33 ?_
    refine v_iload_n C 0 rfl dX10_bucketOf_34 ?_
    refine v_if_ge (tgt := 42) C (by decide) dX10_bucketOf_35 (fun h3 => ?_) (fun h3 => ?_)
    · refine v_iload_n C 0 rfl dX10_bucketOf_42 ?_
      refine v_aload_n C 2 rfl dX10_bucketOf_43 ?_
      refine v_get (v := .ref (E.1 25)) C fl_RX10_7 24 g_24 rfl dX10_bucketOf_44 ?_
      refine v_iconst (v := (5 : Int32)) C (by decide) dX10_bucketOf_47 ?_
      refine v_iald (v := μ 25 5) C 25 g_25 vi_5_1700 (rdl tn_5 rfl) dX10_bucketOf_48 ?_
      refine v_idiv C hM.2.2.2.1 dX10_bucketOf_49 ?_
      refine v_istore_n (lv' := [(2, .int (((μ 25 ((270 : Int32) + r).toNatClampNeg) - (μ 25 8)) / (μ 25 5))), (3, .int ((μ 25 ((270 : Int32) + r).toNatClampNeg) - (μ 25 8))), (0, .ref (E.1 24)), (1, .int r)]) C (Nat.le_of_ble_eq_true rfl) rfl dX10_bucketOf_50 ?_
      refine v_iload_n C 0 rfl dX10_bucketOf_51 ?_
      refine v_iconst (v := (3 : Int32)) C (by decide) dX10_bucketOf_52 ?_
      refine v_icmp_le (tgt := 60) C (by decide) dX10_bucketOf_53 (fun h4 => ?_) (fun h4 => ?_)
      · refine v_iload_n C 0 rfl dX10_bucketOf_60 ?_
        refine v_istore_n (lv' := [(2, .int (((μ 25 ((270 : Int32) + r).toNatClampNeg) - (μ 25 8)) / (μ 25 5))), (3, .int ((μ 25 ((270 : Int32) + r).toNatClampNeg) - (μ 25 8))), (0, .ref (E.1 24)), (1, .int r)]) C (Nat.le_of_ble_eq_true rfl) rfl dX10_bucketOf_61 ?_
        refine v_iload_n C 0 rfl dX10_bucketOf_62 ?_
        refine v_aload_n C 2 rfl dX10_bucketOf_63 ?_
        refine v_get (v := .ref (E.1 25)) C fl_RX10_7 24 g_24 rfl dX10_bucketOf_64 ?_
        refine v_bipush (v := (8 : Int32)) C (by decide) dX10_bucketOf_67 ?_
        refine v_iald (v := μ 25 8) C 25 g_25 vi_8_1700 (rdl tn_8 rfl) dX10_bucketOf_69 ?_
        refine v_aload_n C 2 rfl dX10_bucketOf_70 ?_
        refine v_get (v := .ref (E.1 25)) C fl_RX10_7 24 g_24 rfl dX10_bucketOf_71 ?_
        refine v_sipush (v := (190 : Int32)) C (by decide) dX10_bucketOf_74 ?_
        refine v_iload_n C 3 rfl dX10_bucketOf_77 ?_
        refine v_iadd C dX10_bucketOf_78 ?_
        refine v_iald (v := μ 25 ((190 : Int32) + r).toNatClampNeg) C 25 g_25 (by obtain ⟨j, hj, ej⟩ := hr; exact vi_add 190 ej (by omega) (by decide)) rfl dX10_bucketOf_79 ?_
        refine v_isub C dX10_bucketOf_80 ?_
        refine v_aload_n C 2 rfl dX10_bucketOf_81 ?_
        refine v_get (v := .ref (E.1 25)) C fl_RX10_7 24 g_24 rfl dX10_bucketOf_82 ?_
        refine v_bipush (v := (6 : Int32)) C (by decide) dX10_bucketOf_85 ?_
        refine v_iald (v := μ 25 6) C 25 g_25 vi_6_1700 (rdl tn_6 rfl) dX10_bucketOf_87 ?_
        refine v_idiv C hM.2.2.2.2.1 dX10_bucketOf_88 ?_
        refine v_isub C dX10_bucketOf_89 ?_
        refine v_istore_n (lv' := [(2, .int ((((μ 25 ((270 : Int32) + r).toNatClampNeg) - (μ 25 8)) / (μ 25 5)) - (((μ 25 8) - (μ 25 ((190 : Int32) + r).toNatClampNeg)) / (μ 25 6)))), (3, .int ((μ 25 ((270 : Int32) + r).toNatClampNeg) - (μ 25 8))), (0, .ref (E.1 24)), (1, .int r)]) C (Nat.le_of_ble_eq_true rfl) rfl dX10_bucketOf_90 ?_
        refine v_iload_n C 0 rfl dX10_bucketOf_91 ?_
        refine v_if_ge (tgt := 99) C (by decide) dX10_bucketOf_92 (fun h5 => ?_) (fun h5 => ?_)
        · refine v_iload_n C 0 rfl dX10_bucketOf_99 ?_
          have e1 : F_X10_bucketOf μ r = (((μ 25 ((270 : Int32) + r).toNatClampNeg) - (μ 25 8)) / (μ 25 5)) - (((μ 25 8) - (μ 25 ((190 : Int32) + r).toNatClampNeg)) / (μ 25 6)) := by rw [F_X10_bucketOf, if_neg h1, if_pos h3, if_pos h4, if_pos h5]
          exact v_Q hQ (v_iret C () trivial (by rw [e1]) rfl (Nat.zero_le _) (Nat.zero_le _) dX10_bucketOf_100)
        · refine v_iconst (v := (0 : Int32)) C (by decide) dX10_bucketOf_95 ?_
          refine v_goto (tgt := 100) C (by decide) dX10_bucketOf_96 ?_
          have e1 : F_X10_bucketOf μ r = (0 : Int32) := by rw [F_X10_bucketOf, if_neg h1, if_pos h3, if_pos h4, if_neg h5]
          exact v_Q hQ (v_iret C () trivial (by rw [e1]) rfl (Nat.zero_le _) (Nat.zero_le _) dX10_bucketOf_100)
      · refine v_iconst (v := (3 : Int32)) C (by decide) dX10_bucketOf_56 ?_
        refine v_goto (tgt := 61) C (by decide) dX10_bucketOf_57 ?_
        refine v_istore_n (lv' := [(2, .int (3 : Int32)), (3, .int ((μ 25 ((270 : Int32) + r).toNatClampNeg) - (μ 25 8))), (0, .ref (E.1 24)), (1, .int r)]) C (Nat.le_of_ble_eq_true rfl) rfl dX10_bucketOf_61 ?_
        refine v_iload_n C 0 rfl dX10_bucketOf_62 ?_
        refine v_aload_n C 2 rfl dX10_bucketOf_63 ?_
        refine v_get (v := .ref (E.1 25)) C fl_RX10_7 24 g_24 rfl dX10_bucketOf_64 ?_
        refine v_bipush (v := (8 : Int32)) C (by decide) dX10_bucketOf_67 ?_
        refine v_iald (v := μ 25 8) C 25 g_25 vi_8_1700 (rdl tn_8 rfl) dX10_bucketOf_69 ?_
        refine v_aload_n C 2 rfl dX10_bucketOf_70 ?_
        refine v_get (v := .ref (E.1 25)) C fl_RX10_7 24 g_24 rfl dX10_bucketOf_71 ?_
        refine v_sipush (v := (190 : Int32)) C (by decide) dX10_bucketOf_74 ?_
        refine v_iload_n C 3 rfl dX10_bucketOf_77 ?_
        refine v_iadd C dX10_bucketOf_78 ?_
        refine v_iald (v := μ 25 ((190 : Int32) + r).toNatClampNeg) C 25 g_25 (by obtain ⟨j, hj, ej⟩ := hr; exact vi_add 190 ej (by omega) (by decide)) rfl dX10_bucketOf_79 ?_
        refine v_isub C dX10_bucketOf_80 ?_
        refine v_aload_n C 2 rfl dX10_bucketOf_81 ?_
        refine v_get (v := .ref (E.1 25)) C fl_RX10_7 24 g_24 rfl dX10_bucketOf_82 ?_
        refine v_bipush (v := (6 : Int32)) C (by decide) dX10_bucketOf_85 ?_
        refine v_iald (v := μ 25 6) C 25 g_25 vi_6_1700 (rdl tn_6 rfl) dX10_bucketOf_87 ?_
        refine v_idiv C hM.2.2.2.2.1 dX10_bucketOf_88 ?_
        refine v_isub C dX10_bucketOf_89 ?_
        refine v_istore_n (lv' := [(2, .int ((3 : Int32) - (((μ 25 8) - (μ 25 ((190 : Int32) + r).toNatClampNeg)) / (μ 25 6)))), (3, .int ((μ 25 ((270 : Int32) + r).toNatClampNeg) - (μ 25 8))), (0, .ref (E.1 24)), (1, .int r)]) C (Nat.le_of_ble_eq_true rfl) rfl dX10_bucketOf_90 ?_
        refine v_iload_n C 0 rfl dX10_bucketOf_91 ?_
        refine v_if_ge (tgt := 99) C (by decide) dX10_bucketOf_92 (fun h6 => ?_) (fun h6 => ?_)
        · refine v_iload_n C 0 rfl dX10_bucketOf_99 ?_
          have e1 : F_X10_bucketOf μ r = (3 : Int32) - (((μ 25 8) - (μ 25 ((190 : Int32) + r).toNatClampNeg)) / (μ 25 6)) := by rw [F_X10_bucketOf, if_neg h1, if_pos h3, if_neg h4, if_pos h6]
          exact v_Q hQ (v_iret C () trivial (by rw [e1]) rfl (Nat.zero_le _) (Nat.zero_le _) dX10_bucketOf_100)
        · refine v_iconst (v := (0 : Int32)) C (by decide) dX10_bucketOf_95 ?_
          refine v_goto (tgt := 100) C (by decide) dX10_bucketOf_96 ?_
          have e1 : F_X10_bucketOf μ r = (0 : Int32) := by rw [F_X10_bucketOf, if_neg h1, if_pos h3, if_neg h4, if_neg h6]
          exact v_Q hQ (v_iret C () trivial (by rw [e1]) rfl (Nat.zero_le _) (Nat.zero_le _) dX10_bucketOf_100)
    · refine v_iconst (v := (0 : Int32)) C (by decide) dX10_bucketOf_38 ?_
      refine v_goto (tgt := 50) C (by decide) dX10_bucketOf_39 ?_
      refine v_istore_n (lv' := [(2, .int (0 : Int32)), (3, .int ((μ 25 ((270 : Int32) + r).toNatClampNeg) - (μ 25 8))), (0, .ref (E.1 24)), (1, .int r)]) C (Nat.le_of_ble_eq_true rfl) rfl dX10_bucketOf_50 ?_
      refine v_iload_n C 0 rfl dX10_bucketOf_51 ?_
      refine v_iconst (v := (3 : Int32)) C (by decide) dX10_bucketOf_52 ?_
      refine v_icmp_le (tgt := 60) C (by decide) dX10_bucketOf_53 (fun h7 => ?_) (fun h7 => ?_)
      · refine v_iload_n C 0 rfl dX10_bucketOf_60 ?_
        refine v_istore_n (lv' := [(2, .int (0 : Int32)), (3, .int ((μ 25 ((270 : Int32) + r).toNatClampNeg) - (μ 25 8))), (0, .ref (E.1 24)), (1, .int r)]) C (Nat.le_of_ble_eq_true rfl) rfl dX10_bucketOf_61 ?_
        refine v_iload_n C 0 rfl dX10_bucketOf_62 ?_
        refine v_aload_n C 2 rfl dX10_bucketOf_63 ?_
        refine v_get (v := .ref (E.1 25)) C fl_RX10_7 24 g_24 rfl dX10_bucketOf_64 ?_
        refine v_bipush (v := (8 : Int32)) C (by decide) dX10_bucketOf_67 ?_
        refine v_iald (v := μ 25 8) C 25 g_25 vi_8_1700 (rdl tn_8 rfl) dX10_bucketOf_69 ?_
        refine v_aload_n C 2 rfl dX10_bucketOf_70 ?_
        refine v_get (v := .ref (E.1 25)) C fl_RX10_7 24 g_24 rfl dX10_bucketOf_71 ?_
        refine v_sipush (v := (190 : Int32)) C (by decide) dX10_bucketOf_74 ?_
        refine v_iload_n C 3 rfl dX10_bucketOf_77 ?_
        refine v_iadd C dX10_bucketOf_78 ?_
        refine v_iald (v := μ 25 ((190 : Int32) + r).toNatClampNeg) C 25 g_25 (by obtain ⟨j, hj, ej⟩ := hr; exact vi_add 190 ej (by omega) (by decide)) rfl dX10_bucketOf_79 ?_
        refine v_isub C dX10_bucketOf_80 ?_
        refine v_aload_n C 2 rfl dX10_bucketOf_81 ?_
        refine v_get (v := .ref (E.1 25)) C fl_RX10_7 24 g_24 rfl dX10_bucketOf_82 ?_
        refine v_bipush (v := (6 : Int32)) C (by decide) dX10_bucketOf_85 ?_
        refine v_iald (v := μ 25 6) C 25 g_25 vi_6_1700 (rdl tn_6 rfl) dX10_bucketOf_87 ?_
        refine v_idiv C hM.2.2.2.2.1 dX10_bucketOf_88 ?_
        refine v_isub C dX10_bucketOf_89 ?_
        refine v_istore_n (lv' := [(2, .int ((0 : Int32) - (((μ 25 8) - (μ 25 ((190 : Int32) + r).toNatClampNeg)) / (μ 25 6)))), (3, .int ((μ 25 ((270 : Int32) + r).toNatClampNeg) - (μ 25 8))), (0, .ref (E.1 24)), (1, .int r)]) C (Nat.le_of_ble_eq_true rfl) rfl dX10_bucketOf_90 ?_
        refine v_iload_n C 0 rfl dX10_bucketOf_91 ?_
        refine v_if_ge (tgt := 99) C (by decide) dX10_bucketOf_92 (fun h8 => ?_) (fun h8 => ?_)
        · refine v_iload_n C 0 rfl dX10_bucketOf_99 ?_
          have e1 : F_X10_bucketOf μ r = (0 : Int32) - (((μ 25 8) - (μ 25 ((190 : Int32) + r).toNatClampNeg)) / (μ 25 6)) := by rw [F_X10_bucketOf, if_neg h1, if_neg h3, if_pos h8]
          exact v_Q hQ (v_iret C () trivial (by rw [e1]) rfl (Nat.zero_le _) (Nat.zero_le _) dX10_bucketOf_100)
        · refine v_iconst (v := (0 : Int32)) C (by decide) dX10_bucketOf_95 ?_
          refine v_goto (tgt := 100) C (by decide) dX10_bucketOf_96 ?_
          have e1 : F_X10_bucketOf μ r = (0 : Int32) := by rw [F_X10_bucketOf, if_neg h1, if_neg h3, if_neg h8]
          exact v_Q hQ (v_iret C () trivial (by rw [e1]) rfl (Nat.zero_le _) (Nat.zero_le _) dX10_bucketOf_100)
      · exact absurd (by decide) h7
def F_X10_keyOf (μ : Sg) (r : Int32) (pol : Int32) : Int32 := (if pol = (0 : Int32) then r else (if pol = (1 : Int32) then F_X10_distance μ r else (if pol = (2 : Int32) then (if (F_X10_isAhead μ r) = 0 then (1000 : Int32) + (F_X10_distance μ r) else F_X10_distance μ r) else (if pol = (3 : Int32) then (if (F_X10_cylinder μ r) < (μ 25 9) then (1000 : Int32) + (F_X10_cylinder μ r) else F_X10_distance μ r) else (if pol = (4 : Int32) then F_X10_takes μ (μ 25 ((110 : Int32) + r).toNatClampNeg) else ((100000 : Int32) * (F_X10_bucketOf μ r)) + (F_X10_takes μ (μ 25 ((110 : Int32) + r).toNatClampNeg)))))))
abbrev rm_X10_keyOf : Room := { frames := 6, cells := 0, slots := 0, locals := 131 }
set_option maxRecDepth 100000 in
set_option maxHeartbeats 4000000 in
theorem m_X10_keyOf (l : Launch) (G : GG) (E : EE) (σ μ : Sg) (Y : va_W) (r : Int32) (pol : Int32) (hM : MOKg (μ 25)) (hr : rq r) : KK l G yX10_keyOf cX10_keyOf 3 (some .int) rm_X10_keyOf [.ref (E.1 24), .int r, .int pol] (Wd G E σ μ Y) (some (.int (F_X10_keyOf μ r pol))) (Wd G E σ μ Y) := by
  refine KE.of (by decide) (Nat.le_of_ble_eq_true rfl) ?_
  intro zp ze zs zm za zb zt zc zA C _
  generalize hQ : MQ zb _ za zs _ _ zA = Q
  show V zp l ze rm_X10_keyOf zs zm za zb zt zc 3 G zA 0 0 Q 0 [(0, .ref (E.1 24)), (1, .int r), (2, .int pol)] [] (Wd G E σ μ Y)
  refine v_iload_n C 2 rfl dX10_keyOf_0 ?_
  by_cases h1 : pol = (0 : Int32)
  · refine v_tabIn (tgt := 36) (off := 35) C (by rw [h1]; decide) (by rw [h1]; decide) (by rw [h1]; decide) (by decide) dX10_keyOf_1 ?_
    refine v_iload_n C 1 rfl dX10_keyOf_36 ?_
    have e1 : F_X10_keyOf μ r pol = r := by rw [F_X10_keyOf, if_pos h1]
    exact v_Q hQ (v_iret C () trivial (by rw [e1]) rfl (Nat.zero_le _) (Nat.zero_le _) dX10_keyOf_37)
  · by_cases h2 : pol = (1 : Int32)
    · refine v_tabIn (tgt := 38) (off := 37) C (by rw [h2]; decide) (by rw [h2]; decide) (by rw [h2]; decide) (by decide) dX10_keyOf_1 ?_
      refine v_aload_n C 0 rfl dX10_keyOf_38 ?_
      refine v_iload_n C 1 rfl dX10_keyOf_39 ?_
      refine v_cV1 (rest := []) C mv_RX10_146 (m_X10_distance l G E σ μ Y r hM hr) 24 g_24 rfl rfl rfl rfl (Nat.le_of_ble_eq_true rfl) ⟨Nat.le_of_ble_eq_true rfl, Nat.le_of_ble_eq_true rfl⟩ ⟨rfl, rfl⟩ ⟨Nat.zero_le _, Nat.zero_le _⟩ dX10_keyOf_40 ?_
      have e1 : F_X10_keyOf μ r pol = F_X10_distance μ r := by rw [F_X10_keyOf, if_neg h1, if_pos h2]
      exact v_Q hQ (v_iret C () trivial (by rw [e1]) rfl (Nat.zero_le _) (Nat.zero_le _) dX10_keyOf_43)
    · by_cases h3 : pol = (2 : Int32)
      · refine v_tabIn (tgt := 44) (off := 43) C (by rw [h3]; decide) (by rw [h3]; decide) (by rw [h3]; decide) (by decide) dX10_keyOf_1 ?_
        refine v_aload_n C 0 rfl dX10_keyOf_44 ?_
        refine v_iload_n C 1 rfl dX10_keyOf_45 ?_
        refine v_cV1 (rest := []) C mv_RX10_149 (m_X10_isAhead l G E σ μ Y r hM hr) 24 g_24 rfl rfl rfl rfl (Nat.le_of_ble_eq_true rfl) ⟨Nat.le_of_ble_eq_true rfl, Nat.le_of_ble_eq_true rfl⟩ ⟨rfl, rfl⟩ ⟨Nat.zero_le _, Nat.zero_le _⟩ dX10_keyOf_46 ?_
        refine v_if_eq (tgt := 60) C (by decide) dX10_keyOf_49 (fun h4 => ?_) (fun h4 => ?_)
        · refine v_sipush (v := (1000 : Int32)) C (by decide) dX10_keyOf_60 ?_
          refine v_aload_n C 0 rfl dX10_keyOf_63 ?_
          refine v_iload_n C 1 rfl dX10_keyOf_64 ?_
          refine v_cV1 (rest := [.int (1000 : Int32)]) C mv_RX10_146 (m_X10_distance l G E σ μ Y r hM hr) 24 g_24 rfl rfl rfl rfl (Nat.le_of_ble_eq_true rfl) ⟨Nat.le_of_ble_eq_true rfl, Nat.le_of_ble_eq_true rfl⟩ ⟨rfl, rfl⟩ ⟨Nat.zero_le _, Nat.zero_le _⟩ dX10_keyOf_65 ?_
          refine v_iadd C dX10_keyOf_68 ?_
          have e1 : F_X10_keyOf μ r pol = (1000 : Int32) + (F_X10_distance μ r) := by rw [F_X10_keyOf, if_neg h1, if_neg h2, if_pos h3, if_pos h4]
          exact v_Q hQ (v_iret C () trivial (by rw [e1]) rfl (Nat.zero_le _) (Nat.zero_le _) dX10_keyOf_69)
        · refine v_aload_n C 0 rfl dX10_keyOf_52 ?_
          refine v_iload_n C 1 rfl dX10_keyOf_53 ?_
          refine v_cV1 (rest := []) C mv_RX10_146 (m_X10_distance l G E σ μ Y r hM hr) 24 g_24 rfl rfl rfl rfl (Nat.le_of_ble_eq_true rfl) ⟨Nat.le_of_ble_eq_true rfl, Nat.le_of_ble_eq_true rfl⟩ ⟨rfl, rfl⟩ ⟨Nat.zero_le _, Nat.zero_le _⟩ dX10_keyOf_54 ?_
          refine v_goto (tgt := 69) C (by decide) dX10_keyOf_57 ?_
          have e1 : F_X10_keyOf μ r pol = F_X10_distance μ r := by rw [F_X10_keyOf, if_neg h1, if_neg h2, if_pos h3, if_neg h4]
          exact v_Q hQ (v_iret C () trivial (by rw [e1]) rfl (Nat.zero_le _) (Nat.zero_le _) dX10_keyOf_69)
      · by_cases h5 : pol = (3 : Int32)
        · refine v_tabIn (tgt := 70) (off := 69) C (by rw [h5]; decide) (by rw [h5]; decide) (by rw [h5]; decide) (by decide) dX10_keyOf_1 ?_
          refine v_aload_n C 0 rfl dX10_keyOf_70 ?_
          refine v_iload_n C 1 rfl dX10_keyOf_71 ?_
          refine v_cV1 (rest := []) C mv_RX10_143 (m_X10_cylinder l G E σ μ Y r hM hr) 24 g_24 rfl rfl rfl rfl (Nat.le_of_ble_eq_true rfl) ⟨Nat.le_of_ble_eq_true rfl, Nat.le_of_ble_eq_true rfl⟩ ⟨rfl, rfl⟩ ⟨Nat.zero_le _, Nat.zero_le _⟩ dX10_keyOf_72 ?_
          refine v_aload_n C 0 rfl dX10_keyOf_75 ?_
          refine v_get (v := .ref (E.1 25)) C fl_RX10_7 24 g_24 rfl dX10_keyOf_76 ?_
          refine v_bipush (v := (9 : Int32)) C (by decide) dX10_keyOf_79 ?_
          refine v_iald (v := μ 25 9) C 25 g_25 vi_9_1700 (rdl tn_9 rfl) dX10_keyOf_81 ?_
          refine v_icmp_lt (tgt := 93) C (by decide) dX10_keyOf_82 (fun h6 => ?_) (fun h6 => ?_)
          · refine v_sipush (v := (1000 : Int32)) C (by decide) dX10_keyOf_93 ?_
            refine v_aload_n C 0 rfl dX10_keyOf_96 ?_
            refine v_iload_n C 1 rfl dX10_keyOf_97 ?_
            refine v_cV1 (rest := [.int (1000 : Int32)]) C mv_RX10_143 (m_X10_cylinder l G E σ μ Y r hM hr) 24 g_24 rfl rfl rfl rfl (Nat.le_of_ble_eq_true rfl) ⟨Nat.le_of_ble_eq_true rfl, Nat.le_of_ble_eq_true rfl⟩ ⟨rfl, rfl⟩ ⟨Nat.zero_le _, Nat.zero_le _⟩ dX10_keyOf_98 ?_
            refine v_iadd C dX10_keyOf_101 ?_
            have e1 : F_X10_keyOf μ r pol = (1000 : Int32) + (F_X10_cylinder μ r) := by rw [F_X10_keyOf, if_neg h1, if_neg h2, if_neg h3, if_pos h5, if_pos h6]
            exact v_Q hQ (v_iret C () trivial (by rw [e1]) rfl (Nat.zero_le _) (Nat.zero_le _) dX10_keyOf_102)
          · refine v_aload_n C 0 rfl dX10_keyOf_85 ?_
            refine v_iload_n C 1 rfl dX10_keyOf_86 ?_
            refine v_cV1 (rest := []) C mv_RX10_146 (m_X10_distance l G E σ μ Y r hM hr) 24 g_24 rfl rfl rfl rfl (Nat.le_of_ble_eq_true rfl) ⟨Nat.le_of_ble_eq_true rfl, Nat.le_of_ble_eq_true rfl⟩ ⟨rfl, rfl⟩ ⟨Nat.zero_le _, Nat.zero_le _⟩ dX10_keyOf_87 ?_
            refine v_goto (tgt := 102) C (by decide) dX10_keyOf_90 ?_
            have e1 : F_X10_keyOf μ r pol = F_X10_distance μ r := by rw [F_X10_keyOf, if_neg h1, if_neg h2, if_neg h3, if_pos h5, if_neg h6]
            exact v_Q hQ (v_iret C () trivial (by rw [e1]) rfl (Nat.zero_le _) (Nat.zero_le _) dX10_keyOf_102)
        · by_cases h7 : pol = (4 : Int32)
          · refine v_tabIn (tgt := 103) (off := 102) C (by rw [h7]; decide) (by rw [h7]; decide) (by rw [h7]; decide) (by decide) dX10_keyOf_1 ?_
            refine v_aload_n C 0 rfl dX10_keyOf_103 ?_
            refine v_aload_n C 0 rfl dX10_keyOf_104 ?_
            refine v_get (v := .ref (E.1 25)) C fl_RX10_7 24 g_24 rfl dX10_keyOf_105 ?_
            refine v_bipush (v := (110 : Int32)) C (by decide) dX10_keyOf_108 ?_
            refine v_iload_n C 1 rfl dX10_keyOf_110 ?_
            refine v_iadd C dX10_keyOf_111 ?_
            refine v_iald (v := μ 25 ((110 : Int32) + r).toNatClampNeg) C 25 g_25 (by obtain ⟨j, hj, ej⟩ := hr; exact vi_add 110 ej (by omega) (by decide)) rfl dX10_keyOf_112 ?_
            refine v_cV1 (rest := []) C mv_RX10_96 (m_X10_takes l G E σ μ Y (μ 25 ((110 : Int32) + r).toNatClampNeg) hM (rq_blk hM hr)) 24 g_24 rfl rfl rfl rfl (Nat.le_of_ble_eq_true rfl) ⟨Nat.le_of_ble_eq_true rfl, Nat.le_of_ble_eq_true rfl⟩ ⟨rfl, rfl⟩ ⟨Nat.zero_le _, Nat.zero_le _⟩ dX10_keyOf_113 ?_
            have e1 : F_X10_keyOf μ r pol = F_X10_takes μ (μ 25 ((110 : Int32) + r).toNatClampNeg) := by rw [F_X10_keyOf, if_neg h1, if_neg h2, if_neg h3, if_neg h5, if_pos h7]
            exact v_Q hQ (v_iret C () trivial (by rw [e1]) rfl (Nat.zero_le _) (Nat.zero_le _) dX10_keyOf_116)
          · refine v_tabOut (tgt := 117) C (sw_out (hi := 4) pol (fun q hq => by (rcases (show q = 0 ∨ q = 1 ∨ q = 2 ∨ q = 3 ∨ q = 4 by omega) with rfl | rfl | rfl | rfl | rfl) <;> first | exact h1 | exact h2 | exact h3 | exact h5 | exact h7)) (by decide) dX10_keyOf_1 ?_
            refine v_ldc (v := (100000 : Int32)) C w_1351 dX10_keyOf_117 ?_
            refine v_aload_n C 0 rfl dX10_keyOf_119 ?_
            refine v_iload_n C 1 rfl dX10_keyOf_120 ?_
            refine v_cV1 (rest := [.int (100000 : Int32)]) C mv_RX10_152 (m_X10_bucketOf l G E σ μ Y r hM hr) 24 g_24 rfl rfl rfl rfl (Nat.le_of_ble_eq_true rfl) ⟨Nat.le_of_ble_eq_true rfl, Nat.le_of_ble_eq_true rfl⟩ ⟨rfl, rfl⟩ ⟨Nat.zero_le _, Nat.zero_le _⟩ dX10_keyOf_121 ?_
            refine v_imul C dX10_keyOf_124 ?_
            refine v_aload_n C 0 rfl dX10_keyOf_125 ?_
            refine v_aload_n C 0 rfl dX10_keyOf_126 ?_
            refine v_get (v := .ref (E.1 25)) C fl_RX10_7 24 g_24 rfl dX10_keyOf_127 ?_
            refine v_bipush (v := (110 : Int32)) C (by decide) dX10_keyOf_130 ?_
            refine v_iload_n C 1 rfl dX10_keyOf_132 ?_
            refine v_iadd C dX10_keyOf_133 ?_
            refine v_iald (v := μ 25 ((110 : Int32) + r).toNatClampNeg) C 25 g_25 (by obtain ⟨j, hj, ej⟩ := hr; exact vi_add 110 ej (by omega) (by decide)) rfl dX10_keyOf_134 ?_
            refine v_cV1 (rest := [.int ((100000 : Int32) * (F_X10_bucketOf μ r))]) C mv_RX10_96 (m_X10_takes l G E σ μ Y (μ 25 ((110 : Int32) + r).toNatClampNeg) hM (rq_blk hM hr)) 24 g_24 rfl rfl rfl rfl (Nat.le_of_ble_eq_true rfl) ⟨Nat.le_of_ble_eq_true rfl, Nat.le_of_ble_eq_true rfl⟩ ⟨rfl, rfl⟩ ⟨Nat.zero_le _, Nat.zero_le _⟩ dX10_keyOf_135 ?_
            refine v_iadd C dX10_keyOf_138 ?_
            have e1 : F_X10_keyOf μ r pol = ((100000 : Int32) * (F_X10_bucketOf μ r)) + (F_X10_takes μ (μ 25 ((110 : Int32) + r).toNatClampNeg)) := by rw [F_X10_keyOf, if_neg h1, if_neg h2, if_neg h3, if_neg h5, if_neg h7]
            exact v_Q hQ (v_iret C () trivial (by rw [e1]) rfl (Nat.zero_le _) (Nat.zero_le _) dX10_keyOf_139)
def L_X10_least_4 (μ : Sg) (pol : Int32) : Nat → Int32 → Int32 → Int32
  | 0, _, _ => 0
  | n + 1, bs, x => (if (μ 25 12) ≤ x then bs else (if (F_X10_isPending μ x) = 0 then L_X10_least_4 μ pol n bs (x + (1 : Int32)) else (if bs < 0 then L_X10_least_4 μ pol n x (x + (1 : Int32)) else (if (F_X10_keyOf μ bs pol) ≤ (F_X10_keyOf μ x pol) then L_X10_least_4 μ pol n bs (x + (1 : Int32)) else L_X10_least_4 μ pol n x (x + (1 : Int32))))))
def F_X10_least (μ : Sg) (pol : Int32) : Int32 := L_X10_least_4 μ pol 81 (-1 : Int32) (0 : Int32)
abbrev rm_X10_least : Room := { frames := 7, cells := 0, slots := 0, locals := 153 }
set_option maxRecDepth 100000 in
set_option maxHeartbeats 4000000 in
theorem m_X10_least (l : Launch) (G : GG) (E : EE) (σ μ : Sg) (Y : va_W) (pol : Int32) (hM : MOKg (μ 25)) : KK l G yX10_least cX10_least 4 (some .int) rm_X10_least [.ref (E.1 24), .int pol] (Wd G E σ μ Y) (some (.int (F_X10_least μ pol))) (Wd G E σ μ Y) := by
  refine KE.of (by decide) (Nat.le_of_ble_eq_true rfl) ?_
  intro zp ze zs zm za zb zt zc zA C _
  generalize hQ : MQ zb _ za zs _ _ zA = Q
  have loop_4 : ∀ (n : Nat) (bs : Int32) (x : Int32), ((∃ j : Nat, x = nI j ∧ j ≤ 80 ∧ j + n = 81) ∧ (bs < 0 ∨ rq bs)) → F_X10_least μ pol = L_X10_least_4 μ pol n bs x → V zp l ze rm_X10_least zs zm za zb zt zc 4 G zA 0 0 Q 4 [(0, .ref (E.1 24)), (1, .int pol), (2, .int bs), (3, .int x)] [] (Wd G E σ μ Y) := by
    intro n
    induction n with
    | zero =>
      intro bs x hI hL
      exact False.elim (by obtain ⟨⟨j, _, h4, hn⟩, _⟩ := hI; omega)
    | succ n ih =>
      intro bs x hI hL
      obtain ⟨⟨j, ej, h4, hn⟩, hbs⟩ := hI
      obtain ⟨mm, hm, em⟩ := hM.2.1
      refine v_iload_n C 3 rfl dX10_least_4 ?_
      refine v_aload_n C 0 rfl dX10_least_5 ?_
      refine v_get (v := .ref (E.1 25)) C fl_RX10_7 24 g_24 rfl dX10_least_6 ?_
      refine v_bipush (v := (12 : Int32)) C (by decide) dX10_least_9 ?_
      refine v_iald (v := μ 25 12) C 25 g_25 vi_12_1700 (rdl tn_12 rfl) dX10_least_11 ?_
      refine v_icmp_ge (tgt := 50) C (by decide) dX10_least_12 (fun h1 => ?_) (fun h1 => ?_)
      · refine v_iload_n C 2 rfl dX10_least_50 ?_
        have e1 : F_X10_least μ pol = bs := by rw [hL, L_X10_least_4, if_pos h1]
        exact v_Q hQ (v_iret C () trivial (by rw [e1]) rfl (Nat.zero_le _) (Nat.zero_le _) dX10_least_51)
      · refine v_aload_n C 0 rfl dX10_least_15 ?_
        refine v_iload_n C 3 rfl dX10_least_16 ?_
        refine v_cV1 (rest := []) C mv_RX10_100 (m_X10_isPending l G E σ μ Y x (by have q := gt_of_nle em ej (by omega) (by omega) h1; exact ⟨j, by omega, ej⟩)) 24 g_24 rfl rfl rfl rfl (Nat.le_of_ble_eq_true rfl) ⟨Nat.le_of_ble_eq_true rfl, Nat.le_of_ble_eq_true rfl⟩ ⟨rfl, rfl⟩ ⟨Nat.zero_le _, Nat.zero_le _⟩ dX10_least_17 ?_
        refine v_if_eq (tgt := 44) C (by decide) dX10_least_20 (fun h2 => ?_) (fun h2 => ?_)
        · refine v_iinc (v := x + (1 : Int32)) (lv' := [(3, .int (x + (1 : Int32))), (0, .ref (E.1 24)), (1, .int pol), (2, .int bs)]) C 3 rfl rfl (Nat.le_of_ble_eq_true rfl) rfl dX10_least_44 ?_
          refine v_goto (tgt := 4) C (by decide) dX10_least_47 ?_
          refine v_lv [1, 2, 3, 0] rfl ?_
          exact ih bs (x + (1 : Int32)) (by have q := gt_of_nle em ej (by omega) (by omega) h1; refine ⟨⟨j + 1, by rw [ej]; exact nI_1 j, by omega, by omega⟩, ?_⟩; first | exact hbs | exact Or.inr ⟨j, by omega, ej⟩) (by rw [hL, L_X10_least_4, if_neg h1, if_pos h2])
        · refine v_iload_n C 2 rfl dX10_least_23 ?_
          refine v_if_lt (tgt := 42) C (by decide) dX10_least_24 (fun h3 => ?_) (fun h3 => ?_)
          · refine v_iload_n C 3 rfl dX10_least_42 ?_
            refine v_istore_n (lv' := [(2, .int x), (0, .ref (E.1 24)), (1, .int pol), (3, .int x)]) C (Nat.le_of_ble_eq_true rfl) rfl dX10_least_43 ?_
            refine v_iinc (v := x + (1 : Int32)) (lv' := [(3, .int (x + (1 : Int32))), (2, .int x), (0, .ref (E.1 24)), (1, .int pol)]) C 3 rfl rfl (Nat.le_of_ble_eq_true rfl) rfl dX10_least_44 ?_
            refine v_goto (tgt := 4) C (by decide) dX10_least_47 ?_
            refine v_lv [2, 3, 1, 0] rfl ?_
            exact ih x (x + (1 : Int32)) (by have q := gt_of_nle em ej (by omega) (by omega) h1; refine ⟨⟨j + 1, by rw [ej]; exact nI_1 j, by omega, by omega⟩, ?_⟩; first | exact hbs | exact Or.inr ⟨j, by omega, ej⟩) (by rw [hL, L_X10_least_4, if_neg h1, if_neg h2, if_pos h3])
          · refine v_aload_n C 0 rfl dX10_least_27 ?_
            refine v_iload_n C 3 rfl dX10_least_28 ?_
            refine v_iload_n C 1 rfl dX10_least_29 ?_
            refine v_cV1 (rest := []) C mv_RX10_155 (m_X10_keyOf l G E σ μ Y x pol hM (by have q := gt_of_nle em ej (by omega) (by omega) h1; exact ⟨j, by omega, ej⟩)) 24 g_24 rfl rfl rfl rfl (Nat.le_of_ble_eq_true rfl) ⟨Nat.le_of_ble_eq_true rfl, Nat.le_of_ble_eq_true rfl⟩ ⟨rfl, rfl⟩ ⟨Nat.zero_le _, Nat.zero_le _⟩ dX10_least_30 ?_
            refine v_aload_n C 0 rfl dX10_least_33 ?_
            refine v_iload_n C 2 rfl dX10_least_34 ?_
            refine v_iload_n C 1 rfl dX10_least_35 ?_
            refine v_cV1 (rest := [.int (F_X10_keyOf μ x pol)]) C mv_RX10_155 (m_X10_keyOf l G E σ μ Y bs pol hM (hbs.resolve_left h3)) 24 g_24 rfl rfl rfl rfl (Nat.le_of_ble_eq_true rfl) ⟨Nat.le_of_ble_eq_true rfl, Nat.le_of_ble_eq_true rfl⟩ ⟨rfl, rfl⟩ ⟨Nat.zero_le _, Nat.zero_le _⟩ dX10_least_36 ?_
            refine v_icmp_ge (tgt := 44) C (by decide) dX10_least_39 (fun h4 => ?_) (fun h4 => ?_)
            · refine v_iinc (v := x + (1 : Int32)) (lv' := [(3, .int (x + (1 : Int32))), (0, .ref (E.1 24)), (1, .int pol), (2, .int bs)]) C 3 rfl rfl (Nat.le_of_ble_eq_true rfl) rfl dX10_least_44 ?_
              refine v_goto (tgt := 4) C (by decide) dX10_least_47 ?_
              refine v_lv [1, 2, 3, 0] rfl ?_
              exact ih bs (x + (1 : Int32)) (by have q := gt_of_nle em ej (by omega) (by omega) h1; refine ⟨⟨j + 1, by rw [ej]; exact nI_1 j, by omega, by omega⟩, ?_⟩; first | exact hbs | exact Or.inr ⟨j, by omega, ej⟩) (by rw [hL, L_X10_least_4, if_neg h1, if_neg h2, if_neg h3, if_pos h4])
            · refine v_iload_n C 3 rfl dX10_least_42 ?_
              refine v_istore_n (lv' := [(2, .int x), (0, .ref (E.1 24)), (1, .int pol), (3, .int x)]) C (Nat.le_of_ble_eq_true rfl) rfl dX10_least_43 ?_
              refine v_iinc (v := x + (1 : Int32)) (lv' := [(3, .int (x + (1 : Int32))), (2, .int x), (0, .ref (E.1 24)), (1, .int pol)]) C 3 rfl rfl (Nat.le_of_ble_eq_true rfl) rfl dX10_least_44 ?_
              refine v_goto (tgt := 4) C (by decide) dX10_least_47 ?_
              refine v_lv [2, 3, 1, 0] rfl ?_
              exact ih x (x + (1 : Int32)) (by have q := gt_of_nle em ej (by omega) (by omega) h1; refine ⟨⟨j + 1, by rw [ej]; exact nI_1 j, by omega, by omega⟩, ?_⟩; first | exact hbs | exact Or.inr ⟨j, by omega, ej⟩) (by rw [hL, L_X10_least_4, if_neg h1, if_neg h2, if_neg h3, if_neg h4])
  show V zp l ze rm_X10_least zs zm za zb zt zc 4 G zA 0 0 Q 0 [(0, .ref (E.1 24)), (1, .int pol)] [] (Wd G E σ μ Y)
  refine v_iconst (v := (-1 : Int32)) C (by decide) dX10_least_0 ?_
  refine v_istore_n (lv' := [(2, .int (-1 : Int32)), (0, .ref (E.1 24)), (1, .int pol)]) C (Nat.le_of_ble_eq_true rfl) rfl dX10_least_1 ?_
  refine v_iconst (v := (0 : Int32)) C (by decide) dX10_least_2 ?_
  refine v_istore_n (lv' := [(3, .int (0 : Int32)), (2, .int (-1 : Int32)), (0, .ref (E.1 24)), (1, .int pol)]) C (Nat.le_of_ble_eq_true rfl) rfl dX10_least_3 ?_
  refine v_lv [2, 3, 1, 0] rfl ?_
  exact loop_4 81 (-1 : Int32) (0 : Int32) (⟨⟨0, rfl, by omega, by omega⟩, Or.inl (by decide)⟩) (by rw [F_X10_least])
def F_X10_dirtyBlocks (μ : Sg) : Int32 × Sg := (F_X10_dirty (s2 μ 24 1 (0 : Int32)), (s2 μ 24 1 (0 : Int32)))
abbrev rm_X10_dirtyBlocks : Room := { frames := 1, cells := 0, slots := 0, locals := 22 }
set_option maxRecDepth 100000 in
set_option maxHeartbeats 4000000 in
theorem m_X10_dirtyBlocks (l : Launch) (G : GG) (E : EE) (σ μ : Sg) (Y : va_W) : KK l G yX10_dirtyBlocks cX10_dirtyBlocks 1 (some .int) rm_X10_dirtyBlocks [.ref (E.1 24)] (Wd G E σ μ Y) (some (.int (F_X10_dirtyBlocks μ).1)) (Wd G E σ (F_X10_dirtyBlocks μ).2 Y) := by
  refine KE.of (by decide) (Nat.le_of_ble_eq_true rfl) ?_
  intro zp ze zs zm za zb zt zc zA C _
  generalize hQ : MQ zb _ za zs _ _ zA = Q
  show V zp l ze rm_X10_dirtyBlocks zs zm za zb zt zc 1 G zA 0 0 Q 0 [(0, .ref (E.1 24))] [] (Wd G E σ μ Y)
  refine v_aload_n C 0 rfl dX10_dirtyBlocks_0 ?_
  refine v_iconst (v := (0 : Int32)) C (by decide) dX10_dirtyBlocks_1 ?_
  refine v_put C fp_RX10_39 24 g_24 rfl rfl (Nat.le_of_ble_eq_true rfl) (p_24_3 _) dX10_dirtyBlocks_2 ?_
  refine v_aload_n C 0 rfl dX10_dirtyBlocks_5 ?_
  refine v_cV1 (rest := []) C mv_RX10_81 (m_X10_dirty l G E σ (s2 μ 24 1 (0 : Int32)) Y) 24 g_24 rfl rfl rfl rfl (Nat.le_of_ble_eq_true rfl) ⟨Nat.le_of_ble_eq_true rfl, Nat.le_of_ble_eq_true rfl⟩ ⟨rfl, rfl⟩ ⟨Nat.zero_le _, Nat.zero_le _⟩ dX10_dirtyBlocks_6 ?_
  have e1 : F_X10_dirtyBlocks μ = (F_X10_dirty (s2 μ 24 1 (0 : Int32)), (s2 μ 24 1 (0 : Int32))) := by rw [F_X10_dirtyBlocks]
  exact v_Q hQ (v_iret C () trivial (by rw [e1]) (by rw [e1]) (Nat.zero_le _) (Nat.zero_le _) dX10_dirtyBlocks_9)
def F_X10_pendingRequests (μ : Sg) : Int32 × Sg := (F_X10_pending (s2 μ 24 1 (0 : Int32)), (s2 μ 24 1 (0 : Int32)))
abbrev rm_X10_pendingRequests : Room := { frames := 2, cells := 0, slots := 0, locals := 43 }
set_option maxRecDepth 100000 in
set_option maxHeartbeats 4000000 in
theorem m_X10_pendingRequests (l : Launch) (G : GG) (E : EE) (σ μ : Sg) (Y : va_W) (hM : MOKg (μ 25)) : KK l G yX10_pendingRequests cX10_pendingRequests 1 (some .int) rm_X10_pendingRequests [.ref (E.1 24)] (Wd G E σ μ Y) (some (.int (F_X10_pendingRequests μ).1)) (Wd G E σ (F_X10_pendingRequests μ).2 Y) := by
  refine KE.of (by decide) (Nat.le_of_ble_eq_true rfl) ?_
  intro zp ze zs zm za zb zt zc zA C _
  generalize hQ : MQ zb _ za zs _ _ zA = Q
  show V zp l ze rm_X10_pendingRequests zs zm za zb zt zc 1 G zA 0 0 Q 0 [(0, .ref (E.1 24))] [] (Wd G E σ μ Y)
  refine v_aload_n C 0 rfl dX10_pendingRequests_0 ?_
  refine v_iconst (v := (0 : Int32)) C (by decide) dX10_pendingRequests_1 ?_
  refine v_put C fp_RX10_39 24 g_24 rfl rfl (Nat.le_of_ble_eq_true rfl) (p_24_3 _) dX10_pendingRequests_2 ?_
  refine v_aload_n C 0 rfl dX10_pendingRequests_5 ?_
  refine v_cV1 (rest := []) C mv_RX10_103 (m_X10_pending l G E σ (s2 μ 24 1 (0 : Int32)) Y hM.2.1) 24 g_24 rfl rfl rfl rfl (Nat.le_of_ble_eq_true rfl) ⟨Nat.le_of_ble_eq_true rfl, Nat.le_of_ble_eq_true rfl⟩ ⟨rfl, rfl⟩ ⟨Nat.zero_le _, Nat.zero_le _⟩ dX10_pendingRequests_6 ?_
  have e1 : F_X10_pendingRequests μ = (F_X10_pending (s2 μ 24 1 (0 : Int32)), (s2 μ 24 1 (0 : Int32))) := by rw [F_X10_pendingRequests]
  exact v_Q hQ (v_iret C () trivial (by rw [e1]) (by rw [e1]) (Nat.zero_le _) (Nat.zero_le _) dX10_pendingRequests_9)
def F_X10_state (μ : Sg) (r : Int32) : Int32 × Sg := (if (F_X10_isRequest (s2 μ 24 1 (0 : Int32)) r) = 0 then ((F_X10_fails (s2 μ 24 1 (0 : Int32)) (1 : Int32)).1, (F_X10_fails (s2 μ 24 1 (0 : Int32)) (1 : Int32)).2) else (μ 25 ((350 : Int32) + r).toNatClampNeg, (s2 μ 24 1 (0 : Int32))))
abbrev rm_X10_state : Room := { frames := 2, cells := 0, slots := 0, locals := 43 }
set_option maxRecDepth 100000 in
set_option maxHeartbeats 4000000 in
theorem m_X10_state (l : Launch) (G : GG) (E : EE) (σ μ : Sg) (Y : va_W) (r : Int32) (hM : MOKg (μ 25)) : KK l G yX10_state cX10_state 2 (some .int) rm_X10_state [.ref (E.1 24), .int r] (Wd G E σ μ Y) (some (.int (F_X10_state μ r).1)) (Wd G E σ (F_X10_state μ r).2 Y) := by
  refine KE.of (by decide) (Nat.le_of_ble_eq_true rfl) ?_
  intro zp ze zs zm za zb zt zc zA C _
  generalize hQ : MQ zb _ za zs _ _ zA = Q
  show V zp l ze rm_X10_state zs zm za zb zt zc 2 G zA 0 0 Q 0 [(0, .ref (E.1 24)), (1, .int r)] [] (Wd G E σ μ Y)
  refine v_aload_n C 0 rfl dX10_state_0 ?_
  refine v_iconst (v := (0 : Int32)) C (by decide) dX10_state_1 ?_
  refine v_put C fp_RX10_39 24 g_24 rfl rfl (Nat.le_of_ble_eq_true rfl) (p_24_3 _) dX10_state_2 ?_
  refine v_aload_n C 0 rfl dX10_state_5 ?_
  refine v_iload_n C 1 rfl dX10_state_6 ?_
  refine v_cV1 (rest := []) C mv_RX10_140 (m_X10_isRequest l G E σ (s2 μ 24 1 (0 : Int32)) Y r) 24 g_24 rfl rfl rfl rfl (Nat.le_of_ble_eq_true rfl) ⟨Nat.le_of_ble_eq_true rfl, Nat.le_of_ble_eq_true rfl⟩ ⟨rfl, rfl⟩ ⟨Nat.zero_le _, Nat.zero_le _⟩ dX10_state_7 ?_
  refine v_if_eq (tgt := 26) C (by decide) dX10_state_10 (fun h1 => ?_) (fun h1 => ?_)
  · refine v_aload_n C 0 rfl dX10_state_26 ?_
    refine v_iconst (v := (1 : Int32)) C (by decide) dX10_state_27 ?_
    refine v_cV1 (rest := []) C mv_RX10_78 (m_X10_fails l G E σ (s2 μ 24 1 (0 : Int32)) Y (1 : Int32)) 24 g_24 rfl rfl rfl rfl (Nat.le_of_ble_eq_true rfl) ⟨Nat.le_of_ble_eq_true rfl, Nat.le_of_ble_eq_true rfl⟩ ⟨rfl, rfl⟩ ⟨Nat.zero_le _, Nat.zero_le _⟩ dX10_state_28 ?_
    have e1 : F_X10_state μ r = ((F_X10_fails (s2 μ 24 1 (0 : Int32)) (1 : Int32)).1, (F_X10_fails (s2 μ 24 1 (0 : Int32)) (1 : Int32)).2) := by rw [F_X10_state, if_pos h1]
    exact v_Q hQ (v_iret C () trivial (by rw [e1]) (by rw [e1]) (Nat.zero_le _) (Nat.zero_le _) dX10_state_31)
  · refine v_aload_n C 0 rfl dX10_state_13 ?_
    refine v_get (v := .ref (E.1 25)) C fl_RX10_7 24 g_24 rfl dX10_state_14 ?_
    refine v_sipush (v := (350 : Int32)) C (by decide) dX10_state_17 ?_
    refine v_iload_n C 1 rfl dX10_state_20 ?_
    refine v_iadd C dX10_state_21 ?_
    refine v_iald (v := μ 25 ((350 : Int32) + r).toNatClampNeg) C 25 g_25 (by obtain ⟨j, hj, ej⟩ := (isRequest_rq (μ := s2 μ 24 1 0) hM h1); exact vi_add 350 ej (by omega) (by decide)) rfl dX10_state_22 ?_
    refine v_goto (tgt := 31) C (by decide) dX10_state_23 ?_
    have e1 : F_X10_state μ r = (μ 25 ((350 : Int32) + r).toNatClampNeg, (s2 μ 24 1 (0 : Int32))) := by rw [F_X10_state, if_neg h1]
    exact v_Q hQ (v_iret C () trivial (by rw [e1]) (by rw [e1]) (Nat.zero_le _) (Nat.zero_le _) dX10_state_31)
def F_X10_bucket (μ : Sg) (r : Int32) : Int32 × Sg := (if (F_X10_isRequest (s2 μ 24 1 (0 : Int32)) r) = 0 then ((F_X10_fails (s2 μ 24 1 (0 : Int32)) (1 : Int32)).1, (F_X10_fails (s2 μ 24 1 (0 : Int32)) (1 : Int32)).2) else (if (F_X10_isPending (s2 μ 24 1 (0 : Int32)) r) = 0 then ((F_X10_fails (s2 μ 24 1 (0 : Int32)) (2 : Int32)).1, (F_X10_fails (s2 μ 24 1 (0 : Int32)) (2 : Int32)).2) else (F_X10_bucketOf (s2 μ 24 1 (0 : Int32)) r, (s2 μ 24 1 (0 : Int32)))))
abbrev rm_X10_bucket : Room := { frames := 2, cells := 0, slots := 0, locals := 43 }
set_option maxRecDepth 100000 in
set_option maxHeartbeats 4000000 in
theorem m_X10_bucket (l : Launch) (G : GG) (E : EE) (σ μ : Sg) (Y : va_W) (r : Int32) (hM : MOKg (μ 25)) : KK l G yX10_bucket cX10_bucket 2 (some .int) rm_X10_bucket [.ref (E.1 24), .int r] (Wd G E σ μ Y) (some (.int (F_X10_bucket μ r).1)) (Wd G E σ (F_X10_bucket μ r).2 Y) := by
  refine KE.of (by decide) (Nat.le_of_ble_eq_true rfl) ?_
  intro zp ze zs zm za zb zt zc zA C _
  generalize hQ : MQ zb _ za zs _ _ zA = Q
  show V zp l ze rm_X10_bucket zs zm za zb zt zc 2 G zA 0 0 Q 0 [(0, .ref (E.1 24)), (1, .int r)] [] (Wd G E σ μ Y)
  refine v_aload_n C 0 rfl dX10_bucket_0 ?_
  refine v_iconst (v := (0 : Int32)) C (by decide) dX10_bucket_1 ?_
  refine v_put C fp_RX10_39 24 g_24 rfl rfl (Nat.le_of_ble_eq_true rfl) (p_24_3 _) dX10_bucket_2 ?_
  refine v_aload_n C 0 rfl dX10_bucket_5 ?_
  refine v_iload_n C 1 rfl dX10_bucket_6 ?_
  refine v_cV1 (rest := []) C mv_RX10_140 (m_X10_isRequest l G E σ (s2 μ 24 1 (0 : Int32)) Y r) 24 g_24 rfl rfl rfl rfl (Nat.le_of_ble_eq_true rfl) ⟨Nat.le_of_ble_eq_true rfl, Nat.le_of_ble_eq_true rfl⟩ ⟨rfl, rfl⟩ ⟨Nat.zero_le _, Nat.zero_le _⟩ dX10_bucket_7 ?_
  refine v_if_ne (tgt := 19) C (by decide) dX10_bucket_10 (fun h1 => ?_) (fun h1 => ?_)
  · refine v_aload_n C 0 rfl dX10_bucket_19 ?_
    refine v_iload_n C 1 rfl dX10_bucket_20 ?_
    refine v_cV1 (rest := []) C mv_RX10_100 (m_X10_isPending l G E σ (s2 μ 24 1 (0 : Int32)) Y r (isRequest_rq (μ := s2 μ 24 1 0) hM h1)) 24 g_24 rfl rfl rfl rfl (Nat.le_of_ble_eq_true rfl) ⟨Nat.le_of_ble_eq_true rfl, Nat.le_of_ble_eq_true rfl⟩ ⟨rfl, rfl⟩ ⟨Nat.zero_le _, Nat.zero_le _⟩ dX10_bucket_21 ?_
    refine v_if_eq (tgt := 35) C (by decide) dX10_bucket_24 (fun h2 => ?_) (fun h2 => ?_)
    · refine v_aload_n C 0 rfl dX10_bucket_35 ?_
      refine v_iconst (v := (2 : Int32)) C (by decide) dX10_bucket_36 ?_
      refine v_cV1 (rest := []) C mv_RX10_78 (m_X10_fails l G E σ (s2 μ 24 1 (0 : Int32)) Y (2 : Int32)) 24 g_24 rfl rfl rfl rfl (Nat.le_of_ble_eq_true rfl) ⟨Nat.le_of_ble_eq_true rfl, Nat.le_of_ble_eq_true rfl⟩ ⟨rfl, rfl⟩ ⟨Nat.zero_le _, Nat.zero_le _⟩ dX10_bucket_37 ?_
      have e1 : F_X10_bucket μ r = ((F_X10_fails (s2 μ 24 1 (0 : Int32)) (2 : Int32)).1, (F_X10_fails (s2 μ 24 1 (0 : Int32)) (2 : Int32)).2) := by rw [F_X10_bucket, if_neg h1, if_pos h2]
      exact v_Q hQ (v_iret C () trivial (by rw [e1]) (by rw [e1]) (Nat.zero_le _) (Nat.zero_le _) dX10_bucket_40)
    · refine v_aload_n C 0 rfl dX10_bucket_27 ?_
      refine v_iload_n C 1 rfl dX10_bucket_28 ?_
      refine v_cV1 (rest := []) C mv_RX10_152 (m_X10_bucketOf l G E σ (s2 μ 24 1 (0 : Int32)) Y r hM (isRequest_rq (μ := s2 μ 24 1 0) hM h1)) 24 g_24 rfl rfl rfl rfl (Nat.le_of_ble_eq_true rfl) ⟨Nat.le_of_ble_eq_true rfl, Nat.le_of_ble_eq_true rfl⟩ ⟨rfl, rfl⟩ ⟨Nat.zero_le _, Nat.zero_le _⟩ dX10_bucket_29 ?_
      refine v_goto (tgt := 40) C (by decide) dX10_bucket_32 ?_
      have e1 : F_X10_bucket μ r = (F_X10_bucketOf (s2 μ 24 1 (0 : Int32)) r, (s2 μ 24 1 (0 : Int32))) := by rw [F_X10_bucket, if_neg h1, if_neg h2]
      exact v_Q hQ (v_iret C () trivial (by rw [e1]) (by rw [e1]) (Nat.zero_le _) (Nat.zero_le _) dX10_bucket_40)
  · refine v_aload_n C 0 rfl dX10_bucket_13 ?_
    refine v_iconst (v := (1 : Int32)) C (by decide) dX10_bucket_14 ?_
    refine v_cV1 (rest := []) C mv_RX10_78 (m_X10_fails l G E σ (s2 μ 24 1 (0 : Int32)) Y (1 : Int32)) 24 g_24 rfl rfl rfl rfl (Nat.le_of_ble_eq_true rfl) ⟨Nat.le_of_ble_eq_true rfl, Nat.le_of_ble_eq_true rfl⟩ ⟨rfl, rfl⟩ ⟨Nat.zero_le _, Nat.zero_le _⟩ dX10_bucket_15 ?_
    have e1 : F_X10_bucket μ r = ((F_X10_fails (s2 μ 24 1 (0 : Int32)) (1 : Int32)).1, (F_X10_fails (s2 μ 24 1 (0 : Int32)) (1 : Int32)).2) := by rw [F_X10_bucket, if_pos h1]
    exact v_Q hQ (v_iret C () trivial (by rw [e1]) (by rw [e1]) (Nat.zero_le _) (Nat.zero_le _) dX10_bucket_18)
def F_X10_finish (μ : Sg) (r : Int32) : Int32 × Sg := (if (F_X10_isRequest (s2 μ 24 1 (0 : Int32)) r) = 0 then ((F_X10_fails (s2 μ 24 1 (0 : Int32)) (1 : Int32)).1, (F_X10_fails (s2 μ 24 1 (0 : Int32)) (1 : Int32)).2) else (if (μ 25 ((350 : Int32) + r).toNatClampNeg) = (1 : Int32) then (μ 25 ((430 : Int32) + r).toNatClampNeg, (s2 μ 24 1 (0 : Int32))) else ((F_X10_fails (s2 μ 24 1 (0 : Int32)) (2 : Int32)).1, (F_X10_fails (s2 μ 24 1 (0 : Int32)) (2 : Int32)).2)))
abbrev rm_X10_finish : Room := { frames := 2, cells := 0, slots := 0, locals := 43 }
set_option maxRecDepth 100000 in
set_option maxHeartbeats 4000000 in
theorem m_X10_finish (l : Launch) (G : GG) (E : EE) (σ μ : Sg) (Y : va_W) (r : Int32) (hM : MOKg (μ 25)) : KK l G yX10_finish cX10_finish 2 (some .int) rm_X10_finish [.ref (E.1 24), .int r] (Wd G E σ μ Y) (some (.int (F_X10_finish μ r).1)) (Wd G E σ (F_X10_finish μ r).2 Y) := by
  refine KE.of (by decide) (Nat.le_of_ble_eq_true rfl) ?_
  intro zp ze zs zm za zb zt zc zA C _
  generalize hQ : MQ zb _ za zs _ _ zA = Q
  show V zp l ze rm_X10_finish zs zm za zb zt zc 2 G zA 0 0 Q 0 [(0, .ref (E.1 24)), (1, .int r)] [] (Wd G E σ μ Y)
  refine v_aload_n C 0 rfl dX10_finish_0 ?_
  refine v_iconst (v := (0 : Int32)) C (by decide) dX10_finish_1 ?_
  refine v_put C fp_RX10_39 24 g_24 rfl rfl (Nat.le_of_ble_eq_true rfl) (p_24_3 _) dX10_finish_2 ?_
  refine v_aload_n C 0 rfl dX10_finish_5 ?_
  refine v_iload_n C 1 rfl dX10_finish_6 ?_
  refine v_cV1 (rest := []) C mv_RX10_140 (m_X10_isRequest l G E σ (s2 μ 24 1 (0 : Int32)) Y r) 24 g_24 rfl rfl rfl rfl (Nat.le_of_ble_eq_true rfl) ⟨Nat.le_of_ble_eq_true rfl, Nat.le_of_ble_eq_true rfl⟩ ⟨rfl, rfl⟩ ⟨Nat.zero_le _, Nat.zero_le _⟩ dX10_finish_7 ?_
  refine v_if_ne (tgt := 19) C (by decide) dX10_finish_10 (fun h1 => ?_) (fun h1 => ?_)
  · refine v_aload_n C 0 rfl dX10_finish_19 ?_
    refine v_get (v := .ref (E.1 25)) C fl_RX10_7 24 g_24 rfl dX10_finish_20 ?_
    refine v_sipush (v := (350 : Int32)) C (by decide) dX10_finish_23 ?_
    refine v_iload_n C 1 rfl dX10_finish_26 ?_
    refine v_iadd C dX10_finish_27 ?_
    refine v_iald (v := μ 25 ((350 : Int32) + r).toNatClampNeg) C 25 g_25 (by obtain ⟨j, hj, ej⟩ := (isRequest_rq (μ := s2 μ 24 1 0) hM h1); exact vi_add 350 ej (by omega) (by decide)) rfl dX10_finish_28 ?_
    refine v_iconst (v := (1 : Int32)) C (by decide) dX10_finish_29 ?_
    refine v_icmp_ne (tgt := 46) C (by decide) dX10_finish_30 (fun h2 => ?_) (fun h2 => ?_)
    · refine v_aload_n C 0 rfl dX10_finish_46 ?_
      refine v_iconst (v := (2 : Int32)) C (by decide) dX10_finish_47 ?_
      refine v_cV1 (rest := []) C mv_RX10_78 (m_X10_fails l G E σ (s2 μ 24 1 (0 : Int32)) Y (2 : Int32)) 24 g_24 rfl rfl rfl rfl (Nat.le_of_ble_eq_true rfl) ⟨Nat.le_of_ble_eq_true rfl, Nat.le_of_ble_eq_true rfl⟩ ⟨rfl, rfl⟩ ⟨Nat.zero_le _, Nat.zero_le _⟩ dX10_finish_48 ?_
      have e1 : F_X10_finish μ r = ((F_X10_fails (s2 μ 24 1 (0 : Int32)) (2 : Int32)).1, (F_X10_fails (s2 μ 24 1 (0 : Int32)) (2 : Int32)).2) := by rw [F_X10_finish, if_neg h1, if_neg h2]
      exact v_Q hQ (v_iret C () trivial (by rw [e1]) (by rw [e1]) (Nat.zero_le _) (Nat.zero_le _) dX10_finish_51)
    · refine v_aload_n C 0 rfl dX10_finish_33 ?_
      refine v_get (v := .ref (E.1 25)) C fl_RX10_7 24 g_24 rfl dX10_finish_34 ?_
      refine v_sipush (v := (430 : Int32)) C (by decide) dX10_finish_37 ?_
      refine v_iload_n C 1 rfl dX10_finish_40 ?_
      refine v_iadd C dX10_finish_41 ?_
      refine v_iald (v := μ 25 ((430 : Int32) + r).toNatClampNeg) C 25 g_25 (by obtain ⟨j, hj, ej⟩ := (isRequest_rq (μ := s2 μ 24 1 0) hM h1); exact vi_add 430 ej (by omega) (by decide)) rfl dX10_finish_42 ?_
      refine v_goto (tgt := 51) C (by decide) dX10_finish_43 ?_
      have e1 : F_X10_finish μ r = (μ 25 ((430 : Int32) + r).toNatClampNeg, (s2 μ 24 1 (0 : Int32))) := by rw [F_X10_finish, if_neg h1, if_pos h2]
      exact v_Q hQ (v_iret C () trivial (by rw [e1]) (by rw [e1]) (Nat.zero_le _) (Nat.zero_le _) dX10_finish_51)
  · refine v_aload_n C 0 rfl dX10_finish_13 ?_
    refine v_iconst (v := (1 : Int32)) C (by decide) dX10_finish_14 ?_
    refine v_cV1 (rest := []) C mv_RX10_78 (m_X10_fails l G E σ (s2 μ 24 1 (0 : Int32)) Y (1 : Int32)) 24 g_24 rfl rfl rfl rfl (Nat.le_of_ble_eq_true rfl) ⟨Nat.le_of_ble_eq_true rfl, Nat.le_of_ble_eq_true rfl⟩ ⟨rfl, rfl⟩ ⟨Nat.zero_le _, Nat.zero_le _⟩ dX10_finish_15 ?_
    have e1 : F_X10_finish μ r = ((F_X10_fails (s2 μ 24 1 (0 : Int32)) (1 : Int32)).1, (F_X10_fails (s2 μ 24 1 (0 : Int32)) (1 : Int32)).2) := by rw [F_X10_finish, if_pos h1]
    exact v_Q hQ (v_iret C () trivial (by rw [e1]) (by rw [e1]) (Nat.zero_le _) (Nat.zero_le _) dX10_finish_18)
def F_X10_isBehind (μ : Sg) (r : Int32) : Int32 := (if (μ 25 ((270 : Int32) + r).toNatClampNeg) < 0 then (0 : Int32) else (if (μ 25 ((430 : Int32) + r).toNatClampNeg) ≤ (μ 25 ((270 : Int32) + r).toNatClampNeg) then (0 : Int32) else (1 : Int32)))
theorem z01_X10_isBehind (μ : Sg) (r : Int32) : F_X10_isBehind μ r = 0 ∨ F_X10_isBehind μ r = 1 := by
  unfold F_X10_isBehind; (repeat' split) <;> first | exact Or.inl rfl | exact Or.inr rfl
abbrev rm_X10_isBehind : Room := { frames := 0, cells := 0, slots := 0, locals := 0 }
set_option maxRecDepth 100000 in
set_option maxHeartbeats 4000000 in
theorem m_X10_isBehind (l : Launch) (G : GG) (E : EE) (σ μ : Sg) (Y : va_W) (r : Int32) (hr : rq r) : KK l G yX10_isBehind cX10_isBehind 2 (some .boolean) rm_X10_isBehind [.ref (E.1 24), .int r] (Wd G E σ μ Y) (some (.int (F_X10_isBehind μ r))) (Wd G E σ μ Y) := by
  refine KE.of (by decide) (Nat.le_of_ble_eq_true rfl) ?_
  intro zp ze zs zm za zb zt zc zA C _
  generalize hQ : MQ zb _ za zs _ _ zA = Q
  show V zp l ze rm_X10_isBehind zs zm za zb zt zc 2 G zA 0 0 Q 0 [(0, .ref (E.1 24)), (1, .int r)] [] (Wd G E σ μ Y)
  refine v_aload_n C 0 rfl dX10_isBehind_0 ?_
  refine v_get (v := .ref (E.1 25)) C fl_RX10_7 24 g_24 rfl dX10_isBehind_1 ?_
  refine v_sipush (v := (270 : Int32)) C (by decide) dX10_isBehind_4 ?_
  refine v_iload_n C 1 rfl dX10_isBehind_7 ?_
  refine v_iadd C dX10_isBehind_8 ?_
  refine v_iald (v := μ 25 ((270 : Int32) + r).toNatClampNeg) C 25 g_25 (by obtain ⟨j, hj, ej⟩ := hr; exact vi_add 270 ej (by omega) (by decide)) rfl dX10_isBehind_9 ?_
  refine v_if_lt (tgt := 40) C (by decide) dX10_isBehind_10 (fun h1 => ?_) (fun h1 => ?_)
  · refine v_iconst (v := (0 : Int32)) C (by decide) dX10_isBehind_40 ?_
    have e1 : F_X10_isBehind μ r = (0 : Int32) := by rw [F_X10_isBehind, if_pos h1]
    exact v_Q hQ (v_zret C rfl () trivial (by rw [e1]) rfl (Nat.zero_le _) (Nat.zero_le _) dX10_isBehind_41)
  · refine v_aload_n C 0 rfl dX10_isBehind_13 ?_
    refine v_get (v := .ref (E.1 25)) C fl_RX10_7 24 g_24 rfl dX10_isBehind_14 ?_
    refine v_sipush (v := (430 : Int32)) C (by decide) dX10_isBehind_17 ?_
    refine v_iload_n C 1 rfl dX10_isBehind_20 ?_
    refine v_iadd C dX10_isBehind_21 ?_
    refine v_iald (v := μ 25 ((430 : Int32) + r).toNatClampNeg) C 25 g_25 (by obtain ⟨j, hj, ej⟩ := hr; exact vi_add 430 ej (by omega) (by decide)) rfl dX10_isBehind_22 ?_
    refine v_aload_n C 0 rfl dX10_isBehind_23 ?_
    refine v_get (v := .ref (E.1 25)) C fl_RX10_7 24 g_24 rfl dX10_isBehind_24 ?_
    refine v_sipush (v := (270 : Int32)) C (by decide) dX10_isBehind_27 ?_
    refine v_iload_n C 1 rfl dX10_isBehind_30 ?_
    refine v_iadd C dX10_isBehind_31 ?_
    refine v_iald (v := μ 25 ((270 : Int32) + r).toNatClampNeg) C 25 g_25 (by obtain ⟨j, hj, ej⟩ := hr; exact vi_add 270 ej (by omega) (by decide)) rfl dX10_isBehind_32 ?_
    refine v_icmp_le (tgt := 40) C (by decide) dX10_isBehind_33 (fun h2 => ?_) (fun h2 => ?_)
    · refine v_iconst (v := (0 : Int32)) C (by decide) dX10_isBehind_40 ?_
      have e1 : F_X10_isBehind μ r = (0 : Int32) := by rw [F_X10_isBehind, if_neg h1, if_pos h2]
      exact v_Q hQ (v_zret C rfl () trivial (by rw [e1]) rfl (Nat.zero_le _) (Nat.zero_le _) dX10_isBehind_41)
    · refine v_iconst (v := (1 : Int32)) C (by decide) dX10_isBehind_36 ?_
      refine v_goto (tgt := 41) C (by decide) dX10_isBehind_37 ?_
      have e1 : F_X10_isBehind μ r = (1 : Int32) := by rw [F_X10_isBehind, if_neg h1, if_neg h2]
      exact v_Q hQ (v_zret C rfl () trivial (by rw [e1]) rfl (Nat.zero_le _) (Nat.zero_le _) dX10_isBehind_41)
def F_X10_isLate (μ : Sg) (r : Int32) : Int32 × Sg := (if (F_X10_isRequest μ r) = 0 then ((0 : Int32), (s2 μ 24 1 (1 : Int32))) else (if (μ 25 ((350 : Int32) + r).toNatClampNeg) = (1 : Int32) then (if 0 ≤ (μ 25 ((270 : Int32) + r).toNatClampNeg) then (if (F_X10_isBehind (s2 μ 24 1 (0 : Int32)) r) = 0 then ((0 : Int32), (s2 μ 24 1 (0 : Int32))) else ((1 : Int32), (s2 μ 24 1 (0 : Int32)))) else ((0 : Int32), (s2 μ 24 1 (3 : Int32)))) else ((0 : Int32), (s2 μ 24 1 (2 : Int32)))))
theorem z01_X10_isLate (μ : Sg) (r : Int32) : (F_X10_isLate μ r).1 = 0 ∨ (F_X10_isLate μ r).1 = 1 := by
  unfold F_X10_isLate; (repeat' split) <;> first | exact Or.inl rfl | exact Or.inr rfl
abbrev rm_X10_isLate : Room := { frames := 2, cells := 0, slots := 0, locals := 43 }
set_option maxRecDepth 100000 in
set_option maxHeartbeats 4000000 in
theorem m_X10_isLate (l : Launch) (G : GG) (E : EE) (σ μ : Sg) (Y : va_W) (r : Int32) (hM : MOKg (μ 25)) : KK l G yX10_isLate cX10_isLate 2 (some .boolean) rm_X10_isLate [.ref (E.1 24), .int r] (Wd G E σ μ Y) (some (.int (F_X10_isLate μ r).1)) (Wd G E σ (F_X10_isLate μ r).2 Y) := by
  refine KE.of (by decide) (Nat.le_of_ble_eq_true rfl) ?_
  intro zp ze zs zm za zb zt zc zA C _
  generalize hQ : MQ zb _ za zs _ _ zA = Q
  show V zp l ze rm_X10_isLate zs zm za zb zt zc 2 G zA 0 0 Q 0 [(0, .ref (E.1 24)), (1, .int r)] [] (Wd G E σ μ Y)
  refine v_aload_n C 0 rfl dX10_isLate_0 ?_
  refine v_aload_n C 0 rfl dX10_isLate_1 ?_
  refine v_iload_n C 1 rfl dX10_isLate_2 ?_
  refine v_cV1 (rest := [.ref (E.1 24)]) C mv_RX10_140 (m_X10_isRequest l G E σ μ Y r) 24 g_24 rfl rfl rfl rfl (Nat.le_of_ble_eq_true rfl) ⟨Nat.le_of_ble_eq_true rfl, Nat.le_of_ble_eq_true rfl⟩ ⟨rfl, rfl⟩ ⟨Nat.zero_le _, Nat.zero_le _⟩ dX10_isLate_3 ?_
  refine v_if_ne (tgt := 13) C (by decide) dX10_isLate_6 (fun h1 => ?_) (fun h1 => ?_)
  · refine v_aload_n C 0 rfl dX10_isLate_13 ?_
    refine v_get (v := .ref (E.1 25)) C fl_RX10_7 24 g_24 rfl dX10_isLate_14 ?_
    refine v_sipush (v := (350 : Int32)) C (by decide) dX10_isLate_17 ?_
    refine v_iload_n C 1 rfl dX10_isLate_20 ?_
    refine v_iadd C dX10_isLate_21 ?_
    refine v_iald (v := μ 25 ((350 : Int32) + r).toNatClampNeg) C 25 g_25 (by obtain ⟨j, hj, ej⟩ := (isRequest_rq hM h1); exact vi_add 350 ej (by omega) (by decide)) rfl dX10_isLate_22 ?_
    refine v_iconst (v := (1 : Int32)) C (by decide) dX10_isLate_23 ?_
    refine v_icmp_eq (tgt := 31) C (by decide) dX10_isLate_24 (fun h2 => ?_) (fun h2 => ?_)
    · refine v_aload_n C 0 rfl dX10_isLate_31 ?_
      refine v_get (v := .ref (E.1 25)) C fl_RX10_7 24 g_24 rfl dX10_isLate_32 ?_
      refine v_sipush (v := (270 : Int32)) C (by decide) dX10_isLate_35 ?_
      refine v_iload_n C 1 rfl dX10_isLate_38 ?_
      refine v_iadd C dX10_isLate_39 ?_
      refine v_iald (v := μ 25 ((270 : Int32) + r).toNatClampNeg) C 25 g_25 (by obtain ⟨j, hj, ej⟩ := (isRequest_rq hM h1); exact vi_add 270 ej (by omega) (by decide)) rfl dX10_isLate_40 ?_
      refine v_if_ge (tgt := 48) C (by decide) dX10_isLate_41 (fun h3 => ?_) (fun h3 => ?_)
      · refine v_iconst (v := (0 : Int32)) C (by decide) dX10_isLate_48 ?_
        refine v_put C fp_RX10_39 24 g_24 rfl rfl (Nat.le_of_ble_eq_true rfl) (p_24_3 _) dX10_isLate_49 ?_
        refine v_aload_n C 0 rfl dX10_isLate_52 ?_
        refine v_get (v := .int (0 : Int32)) C fl_RX10_39 24 g_24 rfl dX10_isLate_53 ?_
        refine v_if_ne (tgt := 71) C (by decide) dX10_isLate_56 (fun h4 => ?_) (fun h4 => ?_)
        · exact absurd (by decide) h4
        · refine v_aload_n C 0 rfl dX10_isLate_59 ?_
          refine v_iload_n C 1 rfl dX10_isLate_60 ?_
          refine v_cV1 (rest := []) C mv_RX10_192 (m_X10_isBehind l G E σ (s2 μ 24 1 (0 : Int32)) Y r (by first | exact isRequest_rq hM h1 | exact absurd (show (1 : Int32) = 0 from by assumption) (by decide) | exact absurd (show (2 : Int32) = 0 from by assumption) (by decide) | exact absurd (show (3 : Int32) = 0 from by assumption) (by decide))) 24 g_24 rfl rfl rfl rfl (Nat.le_of_ble_eq_true rfl) ⟨Nat.le_of_ble_eq_true rfl, Nat.le_of_ble_eq_true rfl⟩ ⟨rfl, rfl⟩ ⟨Nat.zero_le _, Nat.zero_le _⟩ dX10_isLate_61 ?_
          refine v_if_eq (tgt := 71) C (by decide) dX10_isLate_64 (fun h5 => ?_) (fun h5 => ?_)
          · refine v_iconst (v := (0 : Int32)) C (by decide) dX10_isLate_71 ?_
            have e1 : F_X10_isLate μ r = ((0 : Int32), (s2 μ 24 1 (0 : Int32))) := by rw [F_X10_isLate, if_neg h1, if_pos h2, if_pos h3, if_pos h5]
            exact v_Q hQ (v_zret C rfl () trivial (by rw [e1]) (by rw [e1]) (Nat.zero_le _) (Nat.zero_le _) dX10_isLate_72)
          · refine v_iconst (v := (1 : Int32)) C (by decide) dX10_isLate_67 ?_
            refine v_goto (tgt := 72) C (by decide) dX10_isLate_68 ?_
            have e1 : F_X10_isLate μ r = ((1 : Int32), (s2 μ 24 1 (0 : Int32))) := by rw [F_X10_isLate, if_neg h1, if_pos h2, if_pos h3, if_neg h5]
            exact v_Q hQ (v_zret C rfl () trivial (by rw [e1]) (by rw [e1]) (Nat.zero_le _) (Nat.zero_le _) dX10_isLate_72)
      · refine v_iconst (v := (3 : Int32)) C (by decide) dX10_isLate_44 ?_
        refine v_goto (tgt := 49) C (by decide) dX10_isLate_45 ?_
        refine v_put C fp_RX10_39 24 g_24 rfl rfl (Nat.le_of_ble_eq_true rfl) (p_24_3 _) dX10_isLate_49 ?_
        refine v_aload_n C 0 rfl dX10_isLate_52 ?_
        refine v_get (v := .int (3 : Int32)) C fl_RX10_39 24 g_24 rfl dX10_isLate_53 ?_
        refine v_if_ne (tgt := 71) C (by decide) dX10_isLate_56 (fun h6 => ?_) (fun h6 => ?_)
        · refine v_iconst (v := (0 : Int32)) C (by decide) dX10_isLate_71 ?_
          have e1 : F_X10_isLate μ r = ((0 : Int32), (s2 μ 24 1 (3 : Int32))) := by rw [F_X10_isLate, if_neg h1, if_pos h2, if_neg h3]
          exact v_Q hQ (v_zret C rfl () trivial (by rw [e1]) (by rw [e1]) (Nat.zero_le _) (Nat.zero_le _) dX10_isLate_72)
        · exact absurd h6 (by decide)
    · refine v_iconst (v := (2 : Int32)) C (by decide) dX10_isLate_27 ?_
      refine v_goto (tgt := 49) C (by decide) dX10_isLate_28 ?_
      refine v_put C fp_RX10_39 24 g_24 rfl rfl (Nat.le_of_ble_eq_true rfl) (p_24_3 _) dX10_isLate_49 ?_
      refine v_aload_n C 0 rfl dX10_isLate_52 ?_
      refine v_get (v := .int (2 : Int32)) C fl_RX10_39 24 g_24 rfl dX10_isLate_53 ?_
      refine v_if_ne (tgt := 71) C (by decide) dX10_isLate_56 (fun h7 => ?_) (fun h7 => ?_)
      · refine v_iconst (v := (0 : Int32)) C (by decide) dX10_isLate_71 ?_
        have e1 : F_X10_isLate μ r = ((0 : Int32), (s2 μ 24 1 (2 : Int32))) := by rw [F_X10_isLate, if_neg h1, if_neg h2]
        exact v_Q hQ (v_zret C rfl () trivial (by rw [e1]) (by rw [e1]) (Nat.zero_le _) (Nat.zero_le _) dX10_isLate_72)
      · exact absurd h7 (by decide)
  · refine v_iconst (v := (1 : Int32)) C (by decide) dX10_isLate_9 ?_
    refine v_goto (tgt := 49) C (by decide) dX10_isLate_10 ?_
    refine v_put C fp_RX10_39 24 g_24 rfl rfl (Nat.le_of_ble_eq_true rfl) (p_24_3 _) dX10_isLate_49 ?_
    refine v_aload_n C 0 rfl dX10_isLate_52 ?_
    refine v_get (v := .int (1 : Int32)) C fl_RX10_39 24 g_24 rfl dX10_isLate_53 ?_
    refine v_if_ne (tgt := 71) C (by decide) dX10_isLate_56 (fun h8 => ?_) (fun h8 => ?_)
    · refine v_iconst (v := (0 : Int32)) C (by decide) dX10_isLate_71 ?_
      have e1 : F_X10_isLate μ r = ((0 : Int32), (s2 μ 24 1 (1 : Int32))) := by rw [F_X10_isLate, if_pos h1]
      exact v_Q hQ (v_zret C rfl () trivial (by rw [e1]) (by rw [e1]) (Nat.zero_le _) (Nat.zero_le _) dX10_isLate_72)
    · exact absurd h8 (by decide)
def F_X10_total (μ : Sg) (wh : Int32) : Int32 × Sg := (if (F_X10_in wh (0 : Int32) (3 : Int32)) = 0 then ((F_X10_fails (s2 μ 24 1 (0 : Int32)) (1 : Int32)).1, (F_X10_fails (s2 μ 24 1 (0 : Int32)) (1 : Int32)).2) else (μ 25 ((13 : Int32) + wh).toNatClampNeg, (s2 μ 24 1 (0 : Int32))))
abbrev rm_X10_total : Room := { frames := 1, cells := 0, slots := 0, locals := 22 }
set_option maxRecDepth 100000 in
set_option maxHeartbeats 4000000 in
theorem m_X10_total (l : Launch) (G : GG) (E : EE) (σ μ : Sg) (Y : va_W) (wh : Int32) : KK l G yX10_total cX10_total 2 (some .int) rm_X10_total [.ref (E.1 24), .int wh] (Wd G E σ μ Y) (some (.int (F_X10_total μ wh).1)) (Wd G E σ (F_X10_total μ wh).2 Y) := by
  refine KE.of (by decide) (Nat.le_of_ble_eq_true rfl) ?_
  intro zp ze zs zm za zb zt zc zA C _
  generalize hQ : MQ zb _ za zs _ _ zA = Q
  show V zp l ze rm_X10_total zs zm za zb zt zc 2 G zA 0 0 Q 0 [(0, .ref (E.1 24)), (1, .int wh)] [] (Wd G E σ μ Y)
  refine v_aload_n C 0 rfl dX10_total_0 ?_
  refine v_iconst (v := (0 : Int32)) C (by decide) dX10_total_1 ?_
  refine v_put C fp_RX10_39 24 g_24 rfl rfl (Nat.le_of_ble_eq_true rfl) (p_24_3 _) dX10_total_2 ?_
  refine v_iload_n C 1 rfl dX10_total_5 ?_
  refine v_iconst (v := (0 : Int32)) C (by decide) dX10_total_6 ?_
  refine v_iconst (v := (3 : Int32)) C (by decide) dX10_total_7 ?_
  refine v_cS1 (rest := []) C ms_RX10_42 (m_X10_in l G E σ (s2 μ 24 1 (0 : Int32)) Y wh (0 : Int32) (3 : Int32)) rfl rfl (Nat.le_of_ble_eq_true rfl) ⟨Nat.le_of_ble_eq_true rfl, Nat.le_of_ble_eq_true rfl⟩ ⟨rfl, rfl⟩ ⟨Nat.zero_le _, Nat.zero_le _⟩ dX10_total_8 ?_
  refine v_if_eq (tgt := 26) C (by decide) dX10_total_11 (fun h1 => ?_) (fun h1 => ?_)
  · refine v_aload_n C 0 rfl dX10_total_26 ?_
    refine v_iconst (v := (1 : Int32)) C (by decide) dX10_total_27 ?_
    refine v_cV1 (rest := []) C mv_RX10_78 (m_X10_fails l G E σ (s2 μ 24 1 (0 : Int32)) Y (1 : Int32)) 24 g_24 rfl rfl rfl rfl (Nat.le_of_ble_eq_true rfl) ⟨Nat.le_of_ble_eq_true rfl, Nat.le_of_ble_eq_true rfl⟩ ⟨rfl, rfl⟩ ⟨Nat.zero_le _, Nat.zero_le _⟩ dX10_total_28 ?_
    have e1 : F_X10_total μ wh = ((F_X10_fails (s2 μ 24 1 (0 : Int32)) (1 : Int32)).1, (F_X10_fails (s2 μ 24 1 (0 : Int32)) (1 : Int32)).2) := by rw [F_X10_total, if_pos h1]
    exact v_Q hQ (v_iret C () trivial (by rw [e1]) (by rw [e1]) (Nat.zero_le _) (Nat.zero_le _) dX10_total_31)
  · refine v_aload_n C 0 rfl dX10_total_14 ?_
    refine v_get (v := .ref (E.1 25)) C fl_RX10_7 24 g_24 rfl dX10_total_15 ?_
    refine v_bipush (v := (13 : Int32)) C (by decide) dX10_total_18 ?_
    refine v_iload_n C 1 rfl dX10_total_20 ?_
    refine v_iadd C dX10_total_21 ?_
    refine v_iald (v := μ 25 ((13 : Int32) + wh).toNatClampNeg) C 25 g_25 (by obtain ⟨a, b⟩ := in_of h1; obtain ⟨j, hj, ej⟩ := nI_rng (N := 3) (by decide) ⟨a, b⟩; exact vi_add 13 ej (by omega) (by decide)) rfl dX10_total_22 ?_
    refine v_goto (tgt := 31) C (by decide) dX10_total_23 ?_
    have e1 : F_X10_total μ wh = (μ 25 ((13 : Int32) + wh).toNatClampNeg, (s2 μ 24 1 (0 : Int32))) := by rw [F_X10_total, if_neg h1]
    exact v_Q hQ (v_iret C () trivial (by rw [e1]) (by rw [e1]) (Nat.zero_le _) (Nat.zero_le _) dX10_total_31)
def L_X10_save_12 (μ : Sg) : Nat → Int32 → Sg → Sg
  | 0, _, _ => μ
  | n + 1, x, μ1 => (if (1700 : Int32) ≤ x then μ1 else L_X10_save_12 μ n (x + (1 : Int32)) (s2 μ1 26 (x).toNatClampNeg (μ1 25 (x).toNatClampNeg)))
def F_X10_save (μ : Sg) : Sg := L_X10_save_12 μ 1701 (0 : Int32) (s2 (s2 μ 24 1 (0 : Int32)) 24 0 (1 : Int32))
abbrev rm_X10_save : Room := { frames := 0, cells := 0, slots := 0, locals := 0 }
set_option maxRecDepth 100000 in
set_option maxHeartbeats 4000000 in
theorem m_X10_save (l : Launch) (G : GG) (E : EE) (σ μ : Sg) (Y : va_W) : KK l G yX10_save cX10_save 2 none rm_X10_save [.ref (E.1 24)] (Wd G E σ μ Y) none (Wd G E σ (F_X10_save μ) Y) := by
  refine KE.of (by decide) (Nat.le_of_ble_eq_true rfl) ?_
  intro zp ze zs zm za zb zt zc zA C _
  generalize hQ : MQ zb _ za zs _ _ zA = Q
  have loop_12 : ∀ (n : Nat) (x : Int32) (μ1 : Sg), (∃ j : Nat, x = nI j ∧ j ≤ 1700 ∧ j + n = 1701) → F_X10_save μ = L_X10_save_12 μ n x μ1 → V zp l ze rm_X10_save zs zm za zb zt zc 2 G zA 0 0 Q 12 [(0, .ref (E.1 24)), (1, .int x)] [] (Wd G E σ μ1 Y) := by
    intro n
    induction n with
    | zero =>
      intro x μ1 hI hL
      exact False.elim (by obtain ⟨j, _, h4, hn⟩ := hI; omega)
    | succ n ih =>
      intro x μ1 hI hL
      obtain ⟨j, ej, h4, hn⟩ := hI
      refine v_iload_n C 1 rfl dX10_save_12 ?_
      refine v_sipush (v := (1700 : Int32)) C (by decide) dX10_save_13 ?_
      refine v_icmp_ge (tgt := 37) C (by decide) dX10_save_16 (fun h1 => ?_) (fun h1 => ?_)
      · have e1 : F_X10_save μ = μ1 := by rw [hL, L_X10_save_12, if_pos h1]
        exact v_Q hQ (v_vret C () trivial rfl (by rw [e1]) (Nat.zero_le _) (Nat.zero_le _) dX10_save_37)
      · refine v_aload_n C 0 rfl dX10_save_19 ?_
        refine v_get (v := .ref (E.1 26)) C fl_RX10_13 24 g_24 rfl dX10_save_20 ?_
        refine v_iload_n C 1 rfl dX10_save_23 ?_
        refine v_aload_n C 0 rfl dX10_save_24 ?_
        refine v_get (v := .ref (E.1 25)) C fl_RX10_7 24 g_24 rfl dX10_save_25 ?_
        refine v_iload_n C 1 rfl dX10_save_28 ?_
        refine v_iald (v := μ1 25 (x).toNatClampNeg) C 25 g_25 (by have q := gt_of_nle (a := 1700) rfl ej (by omega) (by omega) h1; exact vi_x ej (by omega) (by decide)) rfl dX10_save_29 ?_
        refine v_iast (ws' := Wd G E σ (s2 μ1 26 (x).toNatClampNeg (μ1 25 (x).toNatClampNeg)) Y) C 26 g_26 (by have q := gt_of_nle (a := 1700) rfl ej (by omega) (by omega) h1; exact vi_x ej (by omega) (by decide)) (p_26 _ _) dX10_save_30 ?_
        refine v_iinc (v := x + (1 : Int32)) (lv' := [(1, .int (x + (1 : Int32))), (0, .ref (E.1 24))]) C 1 rfl rfl (Nat.le_of_ble_eq_true rfl) rfl dX10_save_31 ?_
        refine v_goto (tgt := 12) C (by decide) dX10_save_34 ?_
        refine v_lv [1, 0] rfl ?_
        exact ih (x + (1 : Int32)) (s2 μ1 26 (x).toNatClampNeg (μ1 25 (x).toNatClampNeg)) (by have q := gt_of_nle (a := 1700) rfl ej (by omega) (by omega) h1; exact ⟨j + 1, by rw [ej]; exact nI_1 j, by omega, by omega⟩) (by rw [hL, L_X10_save_12, if_neg h1])
  show V zp l ze rm_X10_save zs zm za zb zt zc 2 G zA 0 0 Q 0 [(0, .ref (E.1 24))] [] (Wd G E σ μ Y)
  refine v_aload_n C 0 rfl dX10_save_0 ?_
  refine v_iconst (v := (0 : Int32)) C (by decide) dX10_save_1 ?_
  refine v_put C fp_RX10_39 24 g_24 rfl rfl (Nat.le_of_ble_eq_true rfl) (p_24_3 _) dX10_save_2 ?_
  refine v_aload_n C 0 rfl dX10_save_5 ?_
  refine v_iconst (v := (1 : Int32)) C (by decide) dX10_save_6 ?_
  refine v_put C fp_RX10_195 24 g_24 rfl rfl (Nat.le_of_ble_eq_true rfl) (p_24_2 _) dX10_save_7 ?_
  refine v_iconst (v := (0 : Int32)) C (by decide) dX10_save_10 ?_
  refine v_istore_n (lv' := [(1, .int (0 : Int32)), (0, .ref (E.1 24))]) C (Nat.le_of_ble_eq_true rfl) rfl dX10_save_11 ?_
  refine v_lv [1, 0] rfl ?_
  exact loop_12 1701 (0 : Int32) (s2 (s2 μ 24 1 (0 : Int32)) 24 0 (1 : Int32)) (⟨0, rfl, by omega, by omega⟩) (by rw [F_X10_save])
def L_X10_restore_20 (μ : Sg) : Nat → Int32 → Sg → Int32 × Sg
  | 0, _, _ => (0, μ)
  | n + 1, x, μ1 => (if (1700 : Int32) ≤ x then (μ1 25 8, μ1) else L_X10_restore_20 μ n (x + (1 : Int32)) (s2 μ1 25 (x).toNatClampNeg (μ1 26 (x).toNatClampNeg)))
def F_X10_restore (μ : Sg) : Int32 × Sg := (if (μ 24 0) = 0 then ((F_X10_fails (s2 μ 24 1 (0 : Int32)) (1 : Int32)).1, (F_X10_fails (s2 μ 24 1 (0 : Int32)) (1 : Int32)).2) else L_X10_restore_20 μ 1701 (0 : Int32) (s2 μ 24 1 (0 : Int32)))
abbrev rm_X10_restore : Room := { frames := 1, cells := 0, slots := 0, locals := 21 }
set_option maxRecDepth 100000 in
set_option maxHeartbeats 4000000 in
theorem m_X10_restore (l : Launch) (G : GG) (E : EE) (σ μ : Sg) (Y : va_W) : KK l G yX10_restore cX10_restore 2 (some .int) rm_X10_restore [.ref (E.1 24)] (Wd G E σ μ Y) (some (.int (F_X10_restore μ).1)) (Wd G E σ (F_X10_restore μ).2 Y) := by
  refine KE.of (by decide) (Nat.le_of_ble_eq_true rfl) ?_
  intro zp ze zs zm za zb zt zc zA C _
  generalize hQ : MQ zb _ za zs _ _ zA = Q
  have loop_20 : ∀ (n : Nat) (x : Int32) (μ1 : Sg), (∃ j : Nat, x = nI j ∧ j ≤ 1700 ∧ j + n = 1701) → F_X10_restore μ = L_X10_restore_20 μ n x μ1 → V zp l ze rm_X10_restore zs zm za zb zt zc 2 G zA 0 0 Q 20 [(0, .ref (E.1 24)), (1, .int x)] [] (Wd G E σ μ1 Y) := by
    intro n
    induction n with
    | zero =>
      intro x μ1 hI hL
      exact False.elim (by obtain ⟨j, _, h4, hn⟩ := hI; omega)
    | succ n ih =>
      intro x μ1 hI hL
      obtain ⟨j, ej, h4, hn⟩ := hI
      refine v_iload_n C 1 rfl dX10_restore_20 ?_
      refine v_sipush (v := (1700 : Int32)) C (by decide) dX10_restore_21 ?_
      refine v_icmp_ge (tgt := 45) C (by decide) dX10_restore_24 (fun h1 => ?_) (fun h1 => ?_)
      · refine v_aload_n C 0 rfl dX10_restore_45 ?_
        refine v_get (v := .ref (E.1 25)) C fl_RX10_7 24 g_24 rfl dX10_restore_46 ?_
        refine v_bipush (v := (8 : Int32)) C (by decide) dX10_restore_49 ?_
        refine v_iald (v := μ1 25 8) C 25 g_25 vi_8_1700 (rdl tn_8 rfl) dX10_restore_51 ?_
        have e1 : F_X10_restore μ = (μ1 25 8, μ1) := by rw [hL, L_X10_restore_20, if_pos h1]
        exact v_Q hQ (v_iret C () trivial (by rw [e1]) (by rw [e1]) (Nat.zero_le _) (Nat.zero_le _) dX10_restore_52)
      · refine v_aload_n C 0 rfl dX10_restore_27 ?_
        refine v_get (v := .ref (E.1 25)) C fl_RX10_7 24 g_24 rfl dX10_restore_28 ?_
        refine v_iload_n C 1 rfl dX10_restore_31 ?_
        refine v_aload_n C 0 rfl dX10_restore_32 ?_
        refine v_get (v := .ref (E.1 26)) C fl_RX10_13 24 g_24 rfl dX10_restore_33 ?_
        refine v_iload_n C 1 rfl dX10_restore_36 ?_
        refine v_iald (v := μ1 26 (x).toNatClampNeg) C 26 g_26 (by have q := gt_of_nle (a := 1700) rfl ej (by omega) (by omega) h1; exact vi_x ej (by omega) (by decide)) rfl dX10_restore_37 ?_
        refine v_iast (ws' := Wd G E σ (s2 μ1 25 (x).toNatClampNeg (μ1 26 (x).toNatClampNeg)) Y) C 25 g_25 (by have q := gt_of_nle (a := 1700) rfl ej (by omega) (by omega) h1; exact vi_x ej (by omega) (by decide)) (p_25 _ _) dX10_restore_38 ?_
        refine v_iinc (v := x + (1 : Int32)) (lv' := [(1, .int (x + (1 : Int32))), (0, .ref (E.1 24))]) C 1 rfl rfl (Nat.le_of_ble_eq_true rfl) rfl dX10_restore_39 ?_
        refine v_goto (tgt := 20) C (by decide) dX10_restore_42 ?_
        refine v_lv [1, 0] rfl ?_
        exact ih (x + (1 : Int32)) (s2 μ1 25 (x).toNatClampNeg (μ1 26 (x).toNatClampNeg)) (by have q := gt_of_nle (a := 1700) rfl ej (by omega) (by omega) h1; exact ⟨j + 1, by rw [ej]; exact nI_1 j, by omega, by omega⟩) (by rw [hL, L_X10_restore_20, if_neg h1])
  show V zp l ze rm_X10_restore zs zm za zb zt zc 2 G zA 0 0 Q 0 [(0, .ref (E.1 24))] [] (Wd G E σ μ Y)
  refine v_aload_n C 0 rfl dX10_restore_0 ?_
  refine v_iconst (v := (0 : Int32)) C (by decide) dX10_restore_1 ?_
  refine v_put C fp_RX10_39 24 g_24 rfl rfl (Nat.le_of_ble_eq_true rfl) (p_24_3 _) dX10_restore_2 ?_
  refine v_aload_n C 0 rfl dX10_restore_5 ?_
  refine v_get (v := .int (μ 24 0)) C fl_RX10_195 24 g_24 rfl dX10_restore_6 ?_
  refine v_if_ne (tgt := 18) C (by decide) dX10_restore_9 (fun h2 => ?_) (fun h2 => ?_)
  · refine v_iconst (v := (0 : Int32)) C (by decide) dX10_restore_18 ?_
    refine v_istore_n (lv' := [(1, .int (0 : Int32)), (0, .ref (E.1 24))]) C (Nat.le_of_ble_eq_true rfl) rfl dX10_restore_19 ?_
    refine v_lv [1, 0] rfl ?_
    exact loop_20 1701 (0 : Int32) (s2 μ 24 1 (0 : Int32)) (⟨0, rfl, by omega, by omega⟩) (by rw [F_X10_restore, if_neg h2])
  · refine v_aload_n C 0 rfl dX10_restore_12 ?_
    refine v_iconst (v := (1 : Int32)) C (by decide) dX10_restore_13 ?_
    refine v_cV1 (rest := []) C mv_RX10_78 (m_X10_fails l G E σ (s2 μ 24 1 (0 : Int32)) Y (1 : Int32)) 24 g_24 rfl rfl rfl rfl (Nat.le_of_ble_eq_true rfl) ⟨Nat.le_of_ble_eq_true rfl, Nat.le_of_ble_eq_true rfl⟩ ⟨rfl, rfl⟩ ⟨Nat.zero_le _, Nat.zero_le _⟩ dX10_restore_14 ?_
    have e1 : F_X10_restore μ = ((F_X10_fails (s2 μ 24 1 (0 : Int32)) (1 : Int32)).1, (F_X10_fails (s2 μ 24 1 (0 : Int32)) (1 : Int32)).2) := by rw [F_X10_restore, if_pos h2]
    exact v_Q hQ (v_iret C () trivial (by rw [e1]) (by rw [e1]) (Nat.zero_le _) (Nat.zero_le _) dX10_restore_17)
