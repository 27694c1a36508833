/-! what holds of the reference's numbers, as far as its own runs need it -/
def blk (x : Int32) : Prop := ∃ b : Nat, b ≤ 571 ∧ x = nI b
def plc (x : Int32) : Prop := ∃ b : Nat, b ≤ 575 ∧ x = nI b
def rq (x : Int32) : Prop := ∃ b : Nat, b < 80 ∧ x = nI b
def MOKg (g : Nat → Int32) : Prop := (∃ m : Nat, m ≤ 4 ∧ g 11 = nI m) ∧ (∃ m : Nat, m ≤ 80 ∧ g 12 = nI m) ∧ cyl (g 9) ∧ ¬ g 5 = 0 ∧ ¬ g 6 = 0 ∧ ∀ r : Nat, r < 80 → blk (g (110 + r))
theorem in_of {v lo hi : Int32} (h : ¬ F_X10_in v lo hi = 0) : lo ≤ v ∧ v ≤ hi := by
  unfold F_X10_in at h
  by_cases h1 : v < lo
  · rw [if_pos h1] at h; exact absurd rfl h
  · rw [if_neg h1] at h
    by_cases h2 : hi < v
    · rw [if_pos h2] at h; exact absurd rfl h
    · exact ⟨Int32.not_lt.mp h1, Int32.not_lt.mp h2⟩
theorem nI_rng {x : Int32} {N : Nat} (hN : N < 2 ^ 31) (h : (0 : Int32) ≤ x ∧ x ≤ nI N) : ∃ j : Nat, j ≤ N ∧ x = nI j := nI_of2 (nI_toInt hN) (by have := h.1; intro q; exact absurd q (Int32.not_lt.mpr this)) h.2
theorem isBlock_blk {b : Int32} (h : ¬ F_X10_isBlock b = 0) : blk b := by
  unfold F_X10_isBlock at h
  exact nI_rng (N := 571) (by decide) (in_of h)
theorem in63 {b : Int32} (h : ¬ F_X10_in b 0 63 = 0) : cyl b := nI_rng (N := 63) (by decide) (in_of h)
theorem geo0 : ∀ p, p < 576 → ¬ F_X10_sectorsOf (F_X10_cylinderAt (nI p)) = 0 ∧ (F_X10_cylinderAt (nI p)).toNatClampNeg ≤ 63 ∧ F_X10_cylinderAt (nI p) = nI (F_X10_cylinderAt (nI p)).toNatClampNeg := by decide +kernel
theorem geo_s {x : Int32} (h : plc x) : ¬ F_X10_sectorsOf (F_X10_cylinderAt x) = 0 := by
  obtain ⟨p, hp, rfl⟩ := h; exact (geo0 p (by omega)).1
theorem geo_c {x : Int32} (h : plc x) : cyl (F_X10_cylinderAt x) := by
  obtain ⟨p, hp, rfl⟩ := h; exact ⟨_, (geo0 p (by omega)).2.1, (geo0 p (by omega)).2.2⟩
theorem blk_plc {x : Int32} (h : blk x) : plc x := by obtain ⟨p, hp, e⟩ := h; exact ⟨p, by omega, e⟩
theorem L_place_plc {μ : Sg} {bk : Int32} (hb : blk bk) : ∀ (n : Nat) (j : Nat), j + n ≤ 5 → (∃ m : Nat, m ≤ 4 ∧ μ 25 11 = nI m) → plc (L_X10_place_2 μ bk n (nI j)) := by
  intro n
  induction n with
  | zero => intro j _ _; exact ⟨0, by omega, rfl⟩
  | succ n ih =>
    intro j hj hS
    rw [L_X10_place_2]
    by_cases h1 : μ 25 11 ≤ nI j
    · rw [if_pos h1]; exact blk_plc hb
    · rw [if_neg h1]
      obtain ⟨m, hm, em⟩ := hS
      have hlt := gt_of_nle em rfl (by omega) (by omega) h1
      by_cases h2 : μ 25 ((20 : Int32) + nI j).toNatClampNeg = bk
      · rw [if_pos h2]; exact ⟨572 + j, by omega, nI_add 572 j⟩
      · rw [if_neg h2, show nI j + (1 : Int32) = nI (j + 1) from nI_1 j]
        exact ih (j + 1) (by omega) ⟨m, hm, em⟩
theorem place_plc {μ : Sg} {bk : Int32} (hS : ∃ m : Nat, m ≤ 4 ∧ μ 25 11 = nI m) (hb : blk bk) : plc (F_X10_place μ bk) := by
  unfold F_X10_place
  exact L_place_plc hb 5 0 (by omega) hS
def F_X10_setCurve (μ : Sg) (a : Int32) (b : Int32) (cc : Int32) : Sg := (if (F_X10_in a (0 : Int32) (50 : Int32)) = 0 then (s2 (s2 μ 24 1 (0 : Int32)) 24 1 (1 : Int32)) else (if (F_X10_in b (0 : Int32) (20 : Int32)) = 0 then (s2 (s2 μ 24 1 (0 : Int32)) 24 1 (1 : Int32)) else (if (F_X10_in cc (0 : Int32) (9 : Int32)) = 0 then (s2 (s2 μ 24 1 (0 : Int32)) 24 1 (1 : Int32)) else (s2 (s2 (s2 (s2 μ 24 1 (0 : Int32)) 25 0 a) 25 1 b) 25 2 cc))))
abbrev rm_X10_setCurve : Room := { frames := 1, cells := 0, slots := 0, locals := 22 }
set_option maxRecDepth 100000 in
set_option maxHeartbeats 4000000 in
theorem m_X10_setCurve (l : Launch) (G : GG) (E : EE) (σ μ : Sg) (Y : va_W) (a : Int32) (b : Int32) (cc : Int32) : KK l G yX10_setCurve cX10_setCurve 4 none rm_X10_setCurve [.ref (E.1 24), .int a, .int b, .int cc] (Wd G E σ μ Y) none (Wd G E σ (F_X10_setCurve μ a b cc) Y) := by
  refine KE.of (by decide) (Nat.le_of_ble_eq_true rfl) ?_
  intro zp ze zs zm za zb zt zc zA C _
  generalize hQ : MQ zb _ za zs _ _ zA = Q
  show V zp l ze rm_X10_setCurve zs zm za zb zt zc 4 G zA 0 0 Q 0 [(0, .ref (E.1 24)), (1, .int a), (2, .int b), (3, .int cc)] [] (Wd G E σ μ Y)
  refine v_aload_n C 0 rfl dX10_setCurve_0 ?_
  refine v_iconst (v := (0 : Int32)) C (by decide) dX10_setCurve_1 ?_
  refine v_put C fp_RX10_39 24 g_24 rfl rfl (Nat.le_of_ble_eq_true rfl) (p_24_3 _) dX10_setCurve_2 ?_
  refine v_iload_n C 1 rfl dX10_setCurve_5 ?_
  refine v_iconst (v := (0 : Int32)) C (by decide) dX10_setCurve_6 ?_
  refine v_bipush (v := (50 : Int32)) C (by decide) dX10_setCurve_7 ?_
  refine v_cS1 (rest := []) C ms_RX10_42 (m_X10_in l G E σ (s2 μ 24 1 (0 : Int32)) Y a (0 : Int32) (50 : Int32)) rfl rfl (Nat.le_of_ble_eq_true rfl) ⟨Nat.le_of_ble_eq_true rfl, Nat.le_of_ble_eq_true rfl⟩ ⟨rfl, rfl⟩ ⟨Nat.zero_le _, Nat.zero_le _⟩ dX10_setCurve_9 ?_
  refine v_if_eq (tgt := 35) C (by decide) dX10_setCurve_12 (fun h1 => ?_) (fun h1 => ?_)
  · refine v_aload_n C 0 rfl dX10_setCurve_35 ?_
    refine v_iconst (v := (1 : Int32)) C (by decide) dX10_setCurve_36 ?_
    refine v_put C fp_RX10_39 24 g_24 rfl rfl (Nat.le_of_ble_eq_true rfl) (p_24_3 _) dX10_setCurve_37 ?_
    have e1 : F_X10_setCurve μ a b cc = (s2 (s2 μ 24 1 (0 : Int32)) 24 1 (1 : Int32)) := by rw [F_X10_setCurve, if_pos h1]
    exact v_Q hQ (v_vret C () trivial rfl (by rw [e1]) (Nat.zero_le _) (Nat.zero_le _) dX10_setCurve_40)
  · refine v_iload_n C 2 rfl dX10_setCurve_15 ?_
    refine v_iconst (v := (0 : Int32)) C (by decide) dX10_setCurve_16 ?_
    refine v_bipush (v := (20 : Int32)) C (by decide) dX10_setCurve_17 ?_
    refine v_cS1 (rest := []) C ms_RX10_42 (m_X10_in l G E σ (s2 μ 24 1 (0 : Int32)) Y b (0 : Int32) (20 : Int32)) rfl rfl (Nat.le_of_ble_eq_true rfl) ⟨Nat.le_of_ble_eq_true rfl, Nat.le_of_ble_eq_true rfl⟩ ⟨rfl, rfl⟩ ⟨Nat.zero_le _, Nat.zero_le _⟩ dX10_setCurve_19 ?_
    refine v_if_eq (tgt := 35) C (by decide) dX10_setCurve_22 (fun h2 => ?_) (fun h2 => ?_)
    · refine v_aload_n C 0 rfl dX10_setCurve_35 ?_
      refine v_iconst (v := (1 : Int32)) C (by decide) dX10_setCurve_36 ?_
      refine v_put C fp_RX10_39 24 g_24 rfl rfl (Nat.le_of_ble_eq_true rfl) (p_24_3 _) dX10_setCurve_37 ?_
      have e1 : F_X10_setCurve μ a b cc = (s2 (s2 μ 24 1 (0 : Int32)) 24 1 (1 : Int32)) := by rw [F_X10_setCurve, if_neg h1, if_pos h2]
      exact v_Q hQ (v_vret C () trivial rfl (by rw [e1]) (Nat.zero_le _) (Nat.zero_le _) dX10_setCurve_40)
    · refine v_iload_n C 3 rfl dX10_setCurve_25 ?_
      refine v_iconst (v := (0 : Int32)) C (by decide) dX10_setCurve_26 ?_
      refine v_bipush (v := (9 : Int32)) C (by decide) dX10_setCurve_27 ?_
      refine v_cS1 (rest := []) C ms_RX10_42 (m_X10_in l G E σ (s2 μ 24 1 (0 : Int32)) Y cc (0 : Int32) (9 : Int32)) rfl rfl (Nat.le_of_ble_eq_true rfl) ⟨Nat.le_of_ble_eq_true rfl, Nat.le_of_ble_eq_true rfl⟩ ⟨rfl, rfl⟩ ⟨Nat.zero_le _, Nat.zero_le _⟩ dX10_setCurve_29 ?_
      refine v_if_ne (tgt := 41) C (by decide) dX10_setCurve_32 (fun h3 => ?_) (fun h3 => ?_)
      · refine v_aload_n C 0 rfl dX10_setCurve_41 ?_
        refine v_get (v := .ref (E.1 25)) C fl_RX10_7 24 g_24 rfl dX10_setCurve_42 ?_
        refine v_iconst (v := (0 : Int32)) C (by decide) dX10_setCurve_45 ?_
        refine v_iload_n C 1 rfl dX10_setCurve_46 ?_
        refine v_iast (ws' := Wd G E σ (s2 (s2 μ 24 1 (0 : Int32)) 25 0 a) Y) C 25 g_25 vi_0_1700 ((p_25 _ _).trans (by rw [tn_0])) dX10_setCurve_47 ?_
        refine v_aload_n C 0 rfl dX10_setCurve_48 ?_
        refine v_get (v := .ref (E.1 25)) C fl_RX10_7 24 g_24 rfl dX10_setCurve_49 ?_
        refine v_iconst (v := (1 : Int32)) C (by decide) dX10_setCurve_52 ?_
        refine v_iload_n C 2 rfl dX10_setCurve_53 ?_
        refine v_iast (ws' := Wd G E σ (s2 (s2 (s2 μ 24 1 (0 : Int32)) 25 0 a) 25 1 b) Y) C 25 g_25 vi_1_1700 ((p_25 _ _).trans (by rw [tn_1])) dX10_setCurve_54 ?_
        refine v_aload_n C 0 rfl dX10_setCurve_55 ?_
        refine v_get (v := .ref (E.1 25)) C fl_RX10_7 24 g_24 rfl dX10_setCurve_56 ?_
        refine v_iconst (v := (2 : Int32)) C (by decide) dX10_setCurve_59 ?_
        refine v_iload_n C 3 rfl dX10_setCurve_60 ?_
        refine v_iast (ws' := Wd G E σ (s2 (s2 (s2 (s2 μ 24 1 (0 : Int32)) 25 0 a) 25 1 b) 25 2 cc) Y) C 25 g_25 vi_2_1700 ((p_25 _ _).trans (by rw [tn_2])) dX10_setCurve_61 ?_
        have e1 : F_X10_setCurve μ a b cc = (s2 (s2 (s2 (s2 μ 24 1 (0 : Int32)) 25 0 a) 25 1 b) 25 2 cc) := by rw [F_X10_setCurve, if_neg h1, if_neg h2, if_neg h3]
        exact v_Q hQ (v_vret C () trivial rfl (by rw [e1]) (Nat.zero_le _) (Nat.zero_le _) dX10_setCurve_62)
      · refine v_aload_n C 0 rfl dX10_setCurve_35 ?_
        refine v_iconst (v := (1 : Int32)) C (by decide) dX10_setCurve_36 ?_
        refine v_put C fp_RX10_39 24 g_24 rfl rfl (Nat.le_of_ble_eq_true rfl) (p_24_3 _) dX10_setCurve_37 ?_
        have e1 : F_X10_setCurve μ a b cc = (s2 (s2 μ 24 1 (0 : Int32)) 24 1 (1 : Int32)) := by rw [F_X10_setCurve, if_neg h1, if_neg h2, if_pos h3]
        exact v_Q hQ (v_vret C () trivial rfl (by rw [e1]) (Nat.zero_le _) (Nat.zero_le _) dX10_setCurve_40)
def F_X10_becomes (μ : Sg) (i : Int32) (v : Int32) : Int32 × Sg := (μ 25 (i).toNatClampNeg, (s2 μ 25 (i).toNatClampNeg v))
abbrev rm_X10_becomes : Room := { frames := 0, cells := 0, slots := 0, locals := 0 }
set_option maxRecDepth 100000 in
set_option maxHeartbeats 4000000 in
theorem m_X10_becomes (l : Launch) (G : GG) (E : EE) (σ μ : Sg) (Y : va_W) (i : Int32) (v : Int32) (hi : vp_in i 1700) : KK l G yX10_becomes cX10_becomes 4 (some .int) rm_X10_becomes [.ref (E.1 24), .int i, .int v] (Wd G E σ μ Y) (some (.int (F_X10_becomes μ i v).1)) (Wd G E σ (F_X10_becomes μ i v).2 Y) := by
  refine KE.of (by decide) (Nat.le_of_ble_eq_true rfl) ?_
  intro zp ze zs zm za zb zt zc zA C _
  generalize hQ : MQ zb _ za zs _ _ zA = Q
  show V zp l ze rm_X10_becomes zs zm za zb zt zc 4 G zA 0 0 Q 0 [(0, .ref (E.1 24)), (1, .int i), (2, .int v)] [] (Wd G E σ μ Y)
  refine v_aload_n C 0 rfl dX10_becomes_0 ?_
  refine v_get (v := .ref (E.1 25)) C fl_RX10_7 24 g_24 rfl dX10_becomes_1 ?_
  refine v_iload_n C 1 rfl dX10_becomes_4 ?_
  refine v_iald (v := μ 25 (i).toNatClampNeg) C 25 g_25 (by assumption) rfl dX10_becomes_5 ?_
  refine v_istore_n (lv' := [(3, .int (μ 25 (i).toNatClampNeg)), (0, .ref (E.1 24)), (1, .int i), (2, .int v)]) C (Nat.le_of_ble_eq_true rfl) rfl dX10_becomes_6 ?_
  refine v_aload_n C 1 rfl dX10_becomes_7 ?_
  refine v_get (v := .ref (E.1 25)) C fl_RX10_7 24 g_24 rfl dX10_becomes_8 ?_
  refine v_iload_n C 2 rfl dX10_becomes_11 ?_
  refine v_iload_n C 3 rfl dX10_becomes_12 ?_
  refine v_iast (ws' := Wd G E σ (s2 μ 25 (i).toNatClampNeg v) Y) C 25 g_25 hi (p_25 _ _) dX10_becomes_13 ?_
  refine v_iload_n C 0 rfl dX10_becomes_14 ?_
  have e1 : F_X10_becomes μ i v = (μ 25 (i).toNatClampNeg, (s2 μ 25 (i).toNatClampNeg v)) := by rw [F_X10_becomes]
  exact v_Q hQ (v_iret C () trivial (by rw [e1]) (by rw [e1]) (Nat.zero_le _) (Nat.zero_le _) dX10_becomes_15)
def F_X10_setSkew (μ : Sg) (v : Int32) : Int32 × Sg := (if (F_X10_in v (0 : Int32) (40 : Int32)) = 0 then ((F_X10_fails (s2 μ 24 1 (0 : Int32)) (1 : Int32)).1, (F_X10_fails (s2 μ 24 1 (0 : Int32)) (1 : Int32)).2) else ((F_X10_becomes (s2 μ 24 1 (0 : Int32)) (3 : Int32) v).1, (F_X10_becomes (s2 μ 24 1 (0 : Int32)) (3 : Int32) v).2))
abbrev rm_X10_setSkew : Room := { frames := 1, cells := 0, slots := 0, locals := 23 }
set_option maxRecDepth 100000 in
set_option maxHeartbeats 4000000 in
theorem m_X10_setSkew (l : Launch) (G : GG) (E : EE) (σ μ : Sg) (Y : va_W) (v : Int32) : KK l G yX10_setSkew cX10_setSkew 2 (some .int) rm_X10_setSkew [.ref (E.1 24), .int v] (Wd G E σ μ Y) (some (.int (F_X10_setSkew μ v).1)) (Wd G E σ (F_X10_setSkew μ v).2 Y) := by
  refine KE.of (by decide) (Nat.le_of_ble_eq_true rfl) ?_
  intro zp ze zs zm za zb zt zc zA C _
  generalize hQ : MQ zb _ za zs _ _ zA = Q
  show V zp l ze rm_X10_setSkew zs zm za zb zt zc 2 G zA 0 0 Q 0 [(0, .ref (E.1 24)), (1, .int v)] [] (Wd G E σ μ Y)
  refine v_aload_n C 0 rfl dX10_setSkew_0 ?_
  refine v_iconst (v := (0 : Int32)) C (by decide) dX10_setSkew_1 ?_
  refine v_put C fp_RX10_39 24 g_24 rfl rfl (Nat.le_of_ble_eq_true rfl) (p_24_3 _) dX10_setSkew_2 ?_
  refine v_iload_n C 1 rfl dX10_setSkew_5 ?_
  refine v_iconst (v := (0 : Int32)) C (by decide) dX10_setSkew_6 ?_
  refine v_bipush (v := (40 : Int32)) C (by decide) dX10_setSkew_7 ?_
  refine v_cS1 (rest := []) C ms_RX10_42 (m_X10_in l G E σ (s2 μ 24 1 (0 : Int32)) Y v (0 : Int32) (40 : Int32)) rfl rfl (Nat.le_of_ble_eq_true rfl) ⟨Nat.le_of_ble_eq_true rfl, Nat.le_of_ble_eq_true rfl⟩ ⟨rfl, rfl⟩ ⟨Nat.zero_le _, Nat.zero_le _⟩ dX10_setSkew_9 ?_
  refine v_if_eq (tgt := 24) C (by decide) dX10_setSkew_12 (fun h1 => ?_) (fun h1 => ?_)
  · refine v_aload_n C 0 rfl dX10_setSkew_24 ?_
    refine v_iconst (v := (1 : Int32)) C (by decide) dX10_setSkew_25 ?_
    refine v_cV1 (rest := []) C mv_RX10_78 (m_X10_fails l G E σ (s2 μ 24 1 (0 : Int32)) Y (1 : Int32)) 24 g_24 rfl rfl rfl rfl (Nat.le_of_ble_eq_true rfl) ⟨Nat.le_of_ble_eq_true rfl, Nat.le_of_ble_eq_true rfl⟩ ⟨rfl, rfl⟩ ⟨Nat.zero_le _, Nat.zero_le _⟩ dX10_setSkew_26 ?_
    have e1 : F_X10_setSkew μ v = ((F_X10_fails (s2 μ 24 1 (0 : Int32)) (1 : Int32)).1, (F_X10_fails (s2 μ 24 1 (0 : Int32)) (1 : Int32)).2) := by rw [F_X10_setSkew, if_pos h1]
    exact v_Q hQ (v_iret C () trivial (by rw [e1]) (by rw [e1]) (Nat.zero_le _) (Nat.zero_le _) dX10_setSkew_29)
  · refine v_aload_n C 0 rfl dX10_setSkew_15 ?_
    refine v_iconst (v := (3 : Int32)) C (by decide) dX10_setSkew_16 ?_
    refine v_iload_n C 1 rfl dX10_setSkew_17 ?_
    refine v_cV1 (rest := []) C mv_RX10_75 (m_X10_becomes l G E σ (s2 μ 24 1 (0 : Int32)) Y (3 : Int32) v (vi_x rfl (j := 3) (by omega) (by decide))) 24 g_24 rfl rfl rfl rfl (Nat.le_of_ble_eq_true rfl) ⟨Nat.le_of_ble_eq_true rfl, Nat.le_of_ble_eq_true rfl⟩ ⟨rfl, rfl⟩ ⟨Nat.zero_le _, Nat.zero_le _⟩ dX10_setSkew_18 ?_
    refine v_goto (tgt := 29) C (by decide) dX10_setSkew_21 ?_
    have e1 : F_X10_setSkew μ v = ((F_X10_becomes (s2 μ 24 1 (0 : Int32)) (3 : Int32) v).1, (F_X10_becomes (s2 μ 24 1 (0 : Int32)) (3 : Int32) v).2) := by rw [F_X10_setSkew, if_neg h1]
    exact v_Q hQ (v_iret C () trivial (by rw [e1]) (by rw [e1]) (Nat.zero_le _) (Nat.zero_le _) dX10_setSkew_29)
def F_X10_setPolicy (μ : Sg) (v : Int32) : Int32 × Sg := (if (F_X10_in v (0 : Int32) (6 : Int32)) = 0 then ((F_X10_fails (s2 μ 24 1 (0 : Int32)) (1 : Int32)).1, (F_X10_fails (s2 μ 24 1 (0 : Int32)) (1 : Int32)).2) else ((F_X10_becomes (s2 μ 24 1 (0 : Int32)) (4 : Int32) v).1, (F_X10_becomes (s2 μ 24 1 (0 : Int32)) (4 : Int32) v).2))
abbrev rm_X10_setPolicy : Room := { frames := 1, cells := 0, slots := 0, locals := 23 }
set_option maxRecDepth 100000 in
set_option maxHeartbeats 4000000 in
theorem m_X10_setPolicy (l : Launch) (G : GG) (E : EE) (σ μ : Sg) (Y : va_W) (v : Int32) : KK l G yX10_setPolicy cX10_setPolicy 2 (some .int) rm_X10_setPolicy [.ref (E.1 24), .int v] (Wd G E σ μ Y) (some (.int (F_X10_setPolicy μ v).1)) (Wd G E σ (F_X10_setPolicy μ v).2 Y) := by
  refine KE.of (by decide) (Nat.le_of_ble_eq_true rfl) ?_
  intro zp ze zs zm za zb zt zc zA C _
  generalize hQ : MQ zb _ za zs _ _ zA = Q
  show V zp l ze rm_X10_setPolicy zs zm za zb zt zc 2 G zA 0 0 Q 0 [(0, .ref (E.1 24)), (1, .int v)] [] (Wd G E σ μ Y)
  refine v_aload_n C 0 rfl dX10_setPolicy_0 ?_
  refine v_iconst (v := (0 : Int32)) C (by decide) dX10_setPolicy_1 ?_
  refine v_put C fp_RX10_39 24 g_24 rfl rfl (Nat.le_of_ble_eq_true rfl) (p_24_3 _) dX10_setPolicy_2 ?_
  refine v_iload_n C 1 rfl dX10_setPolicy_5 ?_
  refine v_iconst (v := (0 : Int32)) C (by decide) dX10_setPolicy_6 ?_
  refine v_bipush (v := (6 : Int32)) C (by decide) dX10_setPolicy_7 ?_
  refine v_cS1 (rest := []) C ms_RX10_42 (m_X10_in l G E σ (s2 μ 24 1 (0 : Int32)) Y v (0 : Int32) (6 : Int32)) rfl rfl (Nat.le_of_ble_eq_true rfl) ⟨Nat.le_of_ble_eq_true rfl, Nat.le_of_ble_eq_true rfl⟩ ⟨rfl, rfl⟩ ⟨Nat.zero_le _, Nat.zero_le _⟩ dX10_setPolicy_9 ?_
  refine v_if_eq (tgt := 24) C (by decide) dX10_setPolicy_12 (fun h1 => ?_) (fun h1 => ?_)
  · refine v_aload_n C 0 rfl dX10_setPolicy_24 ?_
    refine v_iconst (v := (1 : Int32)) C (by decide) dX10_setPolicy_25 ?_
    refine v_cV1 (rest := []) C mv_RX10_78 (m_X10_fails l G E σ (s2 μ 24 1 (0 : Int32)) Y (1 : Int32)) 24 g_24 rfl rfl rfl rfl (Nat.le_of_ble_eq_true rfl) ⟨Nat.le_of_ble_eq_true rfl, Nat.le_of_ble_eq_true rfl⟩ ⟨rfl, rfl⟩ ⟨Nat.zero_le _, Nat.zero_le _⟩ dX10_setPolicy_26 ?_
    have e1 : F_X10_setPolicy μ v = ((F_X10_fails (s2 μ 24 1 (0 : Int32)) (1 : Int32)).1, (F_X10_fails (s2 μ 24 1 (0 : Int32)) (1 : Int32)).2) := by rw [F_X10_setPolicy, if_pos h1]
    exact v_Q hQ (v_iret C () trivial (by rw [e1]) (by rw [e1]) (Nat.zero_le _) (Nat.zero_le _) dX10_setPolicy_29)
  · refine v_aload_n C 0 rfl dX10_setPolicy_15 ?_
    refine v_iconst (v := (4 : Int32)) C (by decide) dX10_setPolicy_16 ?_
    refine v_iload_n C 1 rfl dX10_setPolicy_17 ?_
    refine v_cV1 (rest := []) C mv_RX10_75 (m_X10_becomes l G E σ (s2 μ 24 1 (0 : Int32)) Y (4 : Int32) v (vi_x rfl (j := 4) (by omega) (by decide))) 24 g_24 rfl rfl rfl rfl (Nat.le_of_ble_eq_true rfl) ⟨Nat.le_of_ble_eq_true rfl, Nat.le_of_ble_eq_true rfl⟩ ⟨rfl, rfl⟩ ⟨Nat.zero_le _, Nat.zero_le _⟩ dX10_setPolicy_18 ?_
    refine v_goto (tgt := 29) C (by decide) dX10_setPolicy_21 ?_
    have e1 : F_X10_setPolicy μ v = ((F_X10_becomes (s2 μ 24 1 (0 : Int32)) (4 : Int32) v).1, (F_X10_becomes (s2 μ 24 1 (0 : Int32)) (4 : Int32) v).2) := by rw [F_X10_setPolicy, if_neg h1]
    exact v_Q hQ (v_iret C () trivial (by rw [e1]) (by rw [e1]) (Nat.zero_le _) (Nat.zero_le _) dX10_setPolicy_29)
def F_X10_setBuckets (μ : Sg) (a : Int32) (b : Int32) : Sg := (if (F_X10_in a (1 : Int32) (999 : Int32)) = 0 then (s2 (s2 μ 24 1 (0 : Int32)) 24 1 (1 : Int32)) else (if (F_X10_in b (1 : Int32) (9999 : Int32)) = 0 then (s2 (s2 μ 24 1 (0 : Int32)) 24 1 (1 : Int32)) else (s2 (s2 (s2 μ 24 1 (0 : Int32)) 25 5 a) 25 6 b)))
abbrev rm_X10_setBuckets : Room := { frames := 1, cells := 0, slots := 0, locals := 22 }
theorem tn_5 : (5 : Int32).toNatClampNeg = 5 := by decide
theorem vi_5_1700 : vp_in (5 : Int32) 1700 := vp_lit tn_5 (by decide) (by decide)
theorem tn_6 : (6 : Int32).toNatClampNeg = 6 := by decide
theorem vi_6_1700 : vp_in (6 : Int32) 1700 := vp_lit tn_6 (by decide) (by decide)
set_option maxRecDepth 100000 in
set_option maxHeartbeats 4000000 in
theorem m_X10_setBuckets (l : Launch) (G : GG) (E : EE) (σ μ : Sg) (Y : va_W) (a : Int32) (b : Int32) : KK l G yX10_setBuckets cX10_setBuckets 3 none rm_X10_setBuckets [.ref (E.1 24), .int a, .int b] (Wd G E σ μ Y) none (Wd G E σ (F_X10_setBuckets μ a b) Y) := by
  refine KE.of (by decide) (Nat.le_of_ble_eq_true rfl) ?_
  intro zp ze zs zm za zb zt zc zA C _
  generalize hQ : MQ zb _ za zs _ _ zA = Q
  show V zp l ze rm_X10_setBuckets zs zm za zb zt zc 3 G zA 0 0 Q 0 [(0, .ref (E.1 24)), (1, .int a), (2, .int b)] [] (Wd G E σ μ Y)
  refine v_aload_n C 0 rfl dX10_setBuckets_0 ?_
  refine v_iconst (v := (0 : Int32)) C (by decide) dX10_setBuckets_1 ?_
  refine v_put C fp_RX10_39 24 g_24 rfl rfl (Nat.le_of_ble_eq_true rfl) (p_24_3 _) dX10_setBuckets_2 ?_
  refine v_iload_n C 1 rfl dX10_setBuckets_5 ?_
  refine v_iconst (v := (1 : Int32)) C (by decide) dX10_setBuckets_6 ?_
  refine v_sipush (v := (999 : Int32)) C (by decide) dX10_setBuckets_7 ?_
  refine v_cS1 (rest := []) C ms_RX10_42 (m_X10_in l G E σ (s2 μ 24 1 (0 : Int32)) Y a (1 : Int32) (999 : Int32)) rfl rfl (Nat.le_of_ble_eq_true rfl) ⟨Nat.le_of_ble_eq_true rfl, Nat.le_of_ble_eq_true rfl⟩ ⟨rfl, rfl⟩ ⟨Nat.zero_le _, Nat.zero_le _⟩ dX10_setBuckets_10 ?_
  refine v_if_eq (tgt := 27) C (by decide) dX10_setBuckets_13 (fun h1 => ?_) (fun h1 => ?_)
  · refine v_aload_n C 0 rfl dX10_setBuckets_27 ?_
    refine v_iconst (v := (1 : Int32)) C (by decide) dX10_setBuckets_28 ?_
    refine v_put C fp_RX10_39 24 g_24 rfl rfl (Nat.le_of_ble_eq_true rfl) (p_24_3 _) dX10_setBuckets_29 ?_
    have e1 : F_X10_setBuckets μ a b = (s2 (s2 μ 24 1 (0 : Int32)) 24 1 (1 : Int32)) := by rw [F_X10_setBuckets, if_pos h1]
    exact v_Q hQ (v_vret C () trivial rfl (by rw [e1]) (Nat.zero_le _) (Nat.zero_le _) dX10_setBuckets_32)
  · refine v_iload_n C 2 rfl dX10_setBuckets_16 ?_
    refine v_iconst (v := (1 : Int32)) C (by decide) dX10_setBuckets_17 ?_
    refine v_sipush (v := (9999 : Int32)) C (by decide) dX10_setBuckets_18 ?_
    refine v_cS1 (rest := []) C ms_RX10_42 (m_X10_in l G E σ (s2 μ 24 1 (0 : Int32)) Y b (1 : Int32) (9999 : Int32)) rfl rfl (Nat.le_of_ble_eq_true rfl) ⟨Nat.le_of_ble_eq_true rfl, Nat.le_of_ble_eq_true rfl⟩ ⟨rfl, rfl⟩ ⟨Nat.zero_le _, Nat.zero_le _⟩ dX10_setBuckets_21 ?_
    refine v_if_ne (tgt := 33) C (by decide) dX10_setBuckets_24 (fun h2 => ?_) (fun h2 => ?_)
    · refine v_aload_n C 0 rfl dX10_setBuckets_33 ?_
      refine v_get (v := .ref (E.1 25)) C fl_RX10_7 24 g_24 rfl dX10_setBuckets_34 ?_
      refine v_iconst (v := (5 : Int32)) C (by decide) dX10_setBuckets_37 ?_
      refine v_iload_n C 1 rfl dX10_setBuckets_38 ?_
      refine v_iast (ws' := Wd G E σ (s2 (s2 μ 24 1 (0 : Int32)) 25 5 a) Y) C 25 g_25 vi_5_1700 ((p_25 _ _).trans (by rw [tn_5])) dX10_setBuckets_39 ?_
      refine v_aload_n C 0 rfl dX10_setBuckets_40 ?_
      refine v_get (v := .ref (E.1 25)) C fl_RX10_7 24 g_24 rfl dX10_setBuckets_41 ?_
      refine v_bipush (v := (6 : Int32)) C (by decide) dX10_setBuckets_44 ?_
      refine v_iload_n C 2 rfl dX10_setBuckets_46 ?_
      refine v_iast (ws' := Wd G E σ (s2 (s2 (s2 μ 24 1 (0 : Int32)) 25 5 a) 25 6 b) Y) C 25 g_25 vi_6_1700 ((p_25 _ _).trans (by rw [tn_6])) dX10_setBuckets_47 ?_
      have e1 : F_X10_setBuckets μ a b = (s2 (s2 (s2 μ 24 1 (0 : Int32)) 25 5 a) 25 6 b) := by rw [F_X10_setBuckets, if_neg h1, if_neg h2]
      exact v_Q hQ (v_vret C () trivial rfl (by rw [e1]) (Nat.zero_le _) (Nat.zero_le _) dX10_setBuckets_48)
    · refine v_aload_n C 0 rfl dX10_setBuckets_27 ?_
      refine v_iconst (v := (1 : Int32)) C (by decide) dX10_setBuckets_28 ?_
      refine v_put C fp_RX10_39 24 g_24 rfl rfl (Nat.le_of_ble_eq_true rfl) (p_24_3 _) dX10_setBuckets_29 ?_
      have e1 : F_X10_setBuckets μ a b = (s2 (s2 μ 24 1 (0 : Int32)) 24 1 (1 : Int32)) := by rw [F_X10_setBuckets, if_neg h1, if_pos h2]
      exact v_Q hQ (v_vret C () trivial rfl (by rw [e1]) (Nat.zero_le _) (Nat.zero_le _) dX10_setBuckets_32)
def L_X10_dirty_4 (μ : Sg) : Nat → Int32 → Int32 → Int32
  | 0, _, _ => 0
  | n + 1, y, x => (if (572 : Int32) ≤ x then y else L_X10_dirty_4 μ n (y + (μ 25 ((510 : Int32) + x).toNatClampNeg)) (x + (1 : Int32)))
def F_X10_dirty (μ : Sg) : Int32 := L_X10_dirty_4 μ 573 (0 : Int32) (0 : Int32)
abbrev rm_X10_dirty : Room := { frames := 0, cells := 0, slots := 0, locals := 0 }
set_option maxRecDepth 100000 in
set_option maxHeartbeats 4000000 in
theorem m_X10_dirty (l : Launch) (G : GG) (E : EE) (σ μ : Sg) (Y : va_W) : KK l G yX10_dirty cX10_dirty 3 (some .int) rm_X10_dirty [.ref (E.1 24)] (Wd G E σ μ Y) (some (.int (F_X10_dirty μ))) (Wd G E σ μ Y) := by
  refine KE.of (by decide) (Nat.le_of_ble_eq_true rfl) ?_
  intro zp ze zs zm za zb zt zc zA C _
  generalize hQ : MQ zb _ za zs _ _ zA = Q
  have loop_4 : ∀ (n : Nat) (y : Int32) (x : Int32), (∃ j : Nat, x = nI j ∧ j ≤ 572 ∧ j + n = 573) → F_X10_dirty μ = L_X10_dirty_4 μ n y x → V zp l ze rm_X10_dirty zs zm za zb zt zc 3 G zA 0 0 Q 4 [(0, .ref (E.1 24)), (1, .int y), (2, .int x)] [] (Wd G E σ μ Y) := by
    intro n
    induction n with
    | zero =>
      intro y x hI hL
      exact False.elim (by obtain ⟨j, _, h4, hn⟩ := hI; omega)
    | succ n ih =>
      intro y x hI hL
      obtain ⟨j, ej, h4, hn⟩ := hI
      refine v_iload_n C 2 rfl dX10_dirty_4 ?_
      refine v_sipush (v := (572 : Int32)) C (by decide) dX10_dirty_5 ?_
      refine v_icmp_ge (tgt := 30) C (by decide) dX10_dirty_8 (fun h1 => ?_) (fun h1 => ?_)
      · refine v_iload_n C 1 rfl dX10_dirty_30 ?_
        have e1 : F_X10_dirty μ = y := by rw [hL, L_X10_dirty_4, if_pos h1]
        exact v_Q hQ (v_iret C () trivial (by rw [e1]) rfl (Nat.zero_le _) (Nat.zero_le _) dX10_dirty_31)
      · refine v_iload_n C 1 rfl dX10_dirty_11 ?_
        refine v_aload_n C 0 rfl dX10_dirty_12 ?_
        refine v_get (v := .ref (E.1 25)) C fl_RX10_7 24 g_24 rfl dX10_dirty_13 ?_
        refine v_sipush (v := (510 : Int32)) C (by decide) dX10_dirty_16 ?_
        refine v_iload_n C 2 rfl dX10_dirty_19 ?_
        refine v_iadd C dX10_dirty_20 ?_
        refine v_iald (v := μ 25 ((510 : Int32) + x).toNatClampNeg) C 25 g_25 (by have q := gt_of_nle (a := 572) rfl ej (by omega) (by omega) h1; exact vi_add 510 ej (by omega) (by decide)) rfl dX10_dirty_21 ?_
        refine v_iadd C dX10_dirty_22 ?_
        refine v_istore_n (lv' := [(1, .int (y + (μ 25 ((510 : Int32) + x).toNatClampNeg))), (0, .ref (E.1 24)), (2, .int x)]) C (Nat.le_of_ble_eq_true rfl) rfl dX10_dirty_23 ?_
        refine v_iinc (v := x + (1 : Int32)) (lv' := [(2, .int (x + (1 : Int32))), (1, .int (y + (μ 25 ((510 : Int32) + x).toNatClampNeg))), (0, .ref (E.1 24))]) C 2 rfl rfl (Nat.le_of_ble_eq_true rfl) rfl dX10_dirty_24 ?_
        refine v_goto (tgt := 4) C (by decide) dX10_dirty_27 ?_
        refine v_lv [2, 1, 0] rfl ?_
        exact ih (y + (μ 25 ((510 : Int32) + x).toNatClampNeg)) (x + (1 : Int32)) (by have q := gt_of_nle (a := 572) rfl ej (by omega) (by omega) h1; exact ⟨j + 1, by rw [ej]; exact nI_1 j, by omega, by omega⟩) (by rw [hL, L_X10_dirty_4, if_neg h1])
  show V zp l ze rm_X10_dirty zs zm za zb zt zc 3 G zA 0 0 Q 0 [(0, .ref (E.1 24))] [] (Wd G E σ μ Y)
  refine v_iconst (v := (0 : Int32)) C (by decide) dX10_dirty_0 ?_
  refine v_istore_n (lv' := [(1, .int (0 : Int32)), (0, .ref (E.1 24))]) C (Nat.le_of_ble_eq_true rfl) rfl dX10_dirty_1 ?_
  refine v_iconst (v := (0 : Int32)) C (by decide) dX10_dirty_2 ?_
  refine v_istore_n (lv' := [(2, .int (0 : Int32)), (1, .int (0 : Int32)), (0, .ref (E.1 24))]) C (Nat.le_of_ble_eq_true rfl) rfl dX10_dirty_3 ?_
  refine v_lv [2, 1, 0] rfl ?_
  exact loop_4 573 (0 : Int32) (0 : Int32) (⟨0, rfl, by omega, by omega⟩) (by rw [F_X10_dirty])
def F_X10_setWriteBack (μ : Sg) (on : Int32) : Int32 × Sg := (if on = 0 then (if (F_X10_dirty (s2 μ 24 1 (0 : Int32))) ≤ 0 then (if on = 0 then (if ((F_X10_becomes (s2 μ 24 1 (0 : Int32)) (7 : Int32) (0 : Int32)).1) = (1 : Int32) then ((1 : Int32), (F_X10_becomes (s2 μ 24 1 (0 : Int32)) (7 : Int32) (0 : Int32)).2) else ((0 : Int32), (F_X10_becomes (s2 μ 24 1 (0 : Int32)) (7 : Int32) (0 : Int32)).2)) else (if ((F_X10_becomes (s2 μ 24 1 (0 : Int32)) (7 : Int32) (1 : Int32)).1) = (1 : Int32) then ((1 : Int32), (F_X10_becomes (s2 μ 24 1 (0 : Int32)) (7 : Int32) (1 : Int32)).2) else ((0 : Int32), (F_X10_becomes (s2 μ 24 1 (0 : Int32)) (7 : Int32) (1 : Int32)).2))) else ((0 : Int32), (s2 (s2 μ 24 1 (0 : Int32)) 24 1 (1 : Int32)))) else (if on = 0 then (if ((F_X10_becomes (s2 μ 24 1 (0 : Int32)) (7 : Int32) (0 : Int32)).1) = (1 : Int32) then ((1 : Int32), (F_X10_becomes (s2 μ 24 1 (0 : Int32)) (7 : Int32) (0 : Int32)).2) else ((0 : Int32), (F_X10_becomes (s2 μ 24 1 (0 : Int32)) (7 : Int32) (0 : Int32)).2)) else (if ((F_X10_becomes (s2 μ 24 1 (0 : Int32)) (7 : Int32) (1 : Int32)).1) = (1 : Int32) then ((1 : Int32), (F_X10_becomes (s2 μ 24 1 (0 : Int32)) (7 : Int32) (1 : Int32)).2) else ((0 : Int32), (F_X10_becomes (s2 μ 24 1 (0 : Int32)) (7 : Int32) (1 : Int32)).2))))
theorem z01_X10_setWriteBack (μ : Sg) (on : Int32) : (F_X10_setWriteBack μ on).1 = 0 ∨ (F_X10_setWriteBack μ on).1 = 1 := by
  unfold F_X10_setWriteBack; (repeat' split) <;> first | exact Or.inl rfl | exact Or.inr rfl
abbrev rm_X10_setWriteBack : Room := { frames := 1, cells := 0, slots := 0, locals := 23 }
set_option maxRecDepth 100000 in
set_option maxHeartbeats 4000000 in
theorem m_X10_setWriteBack (l : Launch) (G : GG) (E : EE) (σ μ : Sg) (Y : va_W) (on : Int32) : KK l G yX10_setWriteBack cX10_setWriteBack 2 (some .boolean) rm_X10_setWriteBack [.ref (E.1 24), .int on] (Wd G E σ μ Y) (some (.int (F_X10_setWriteBack μ on).1)) (Wd G E σ (F_X10_setWriteBack μ on).2 Y) := by
  refine KE.of (by decide) (Nat.le_of_ble_eq_true rfl) ?_
  intro zp ze zs zm za zb zt zc zA C _
  generalize hQ : MQ zb _ za zs _ _ zA = Q
  show V zp l ze rm_X10_setWriteBack zs zm za zb zt zc 2 G zA 0 0 Q 0 [(0, .ref (E.1 24)), (1, .int on)] [] (Wd G E σ μ Y)
  refine v_aload_n C 0 rfl dX10_setWriteBack_0 ?_
  refine v_iconst (v := (0 : Int32)) C (by decide) dX10_setWriteBack_1 ?_
  refine v_put C fp_RX10_39 24 g_24 rfl rfl (Nat.le_of_ble_eq_true rfl) (p_24_3 _) dX10_setWriteBack_2 ?_
  refine v_iload_n C 1 rfl dX10_setWriteBack_5 ?_
  refine v_if_ne (tgt := 23) C (by decide) dX10_setWriteBack_6 (fun h1 => ?_) (fun h1 => ?_)
  · refine v_aload_n C 0 rfl dX10_setWriteBack_23 ?_
    refine v_bipush (v := (7 : Int32)) C (by decide) dX10_setWriteBack_24 ?_
    refine v_iload_n C 1 rfl dX10_setWriteBack_26 ?_
    refine v_if_eq (tgt := 34) C (by decide) dX10_setWriteBack_27 (fun h2 => ?_) (fun h2 => ?_)
    · refine v_iconst (v := (0 : Int32)) C (by decide) dX10_setWriteBack_34 ?_
      refine v_cV1 (rest := []) C mv_RX10_75 (m_X10_becomes l G E σ (s2 μ 24 1 (0 : Int32)) Y (7 : Int32) (0 : Int32) (vi_x rfl (j := 7) (by omega) (by decide))) 24 g_24 rfl rfl rfl rfl (Nat.le_of_ble_eq_true rfl) ⟨Nat.le_of_ble_eq_true rfl, Nat.le_of_ble_eq_true rfl⟩ ⟨rfl, rfl⟩ ⟨Nat.zero_le _, Nat.zero_le _⟩ dX10_setWriteBack_35 ?_
      refine v_iconst (v := (1 : Int32)) C (by decide) dX10_setWriteBack_38 ?_
      refine v_icmp_ne (tgt := 46) C (by decide) dX10_setWriteBack_39 (fun h3 => ?_) (fun h3 => ?_)
      · refine v_iconst (v := (0 : Int32)) C (by decide) dX10_setWriteBack_46 ?_
        have e1 : F_X10_setWriteBack μ on = ((0 : Int32), (F_X10_becomes (s2 μ 24 1 (0 : Int32)) (7 : Int32) (0 : Int32)).2) := by rw [F_X10_setWriteBack, if_neg h1, if_pos h2, if_neg h3]
        exact v_Q hQ (v_zret C rfl () trivial (by rw [e1]) (by rw [e1]) (Nat.zero_le _) (Nat.zero_le _) dX10_setWriteBack_47)
      · refine v_iconst (v := (1 : Int32)) C (by decide) dX10_setWriteBack_42 ?_
        refine v_goto (tgt := 47) C (by decide) dX10_setWriteBack_43 ?_
        have e1 : F_X10_setWriteBack μ on = ((1 : Int32), (F_X10_becomes (s2 μ 24 1 (0 : Int32)) (7 : Int32) (0 : Int32)).2) := by rw [F_X10_setWriteBack, if_neg h1, if_pos h2, if_pos h3]
        exact v_Q hQ (v_zret C rfl () trivial (by rw [e1]) (by rw [e1]) (Nat.zero_le _) (Nat.zero_le _) dX10_setWriteBack_47)
    · refine v_iconst (v := (1 : Int32)) C (by decide) dX10_setWriteBack_30 ?_
      refine v_goto (tgt := 35) C (by decide) dX10_setWriteBack_31 ?_
      refine v_cV1 (rest := []) C mv_RX10_75 (m_X10_becomes l G E σ (s2 μ 24 1 (0 : Int32)) Y (7 : Int32) (1 : Int32) (vi_x rfl (j := 7) (by omega) (by decide))) 24 g_24 rfl rfl rfl rfl (Nat.le_of_ble_eq_true rfl) ⟨Nat.le_of_ble_eq_true rfl, Nat.le_of_ble_eq_true rfl⟩ ⟨rfl, rfl⟩ ⟨Nat.zero_le _, Nat.zero_le _⟩ dX10_setWriteBack_35 ?_
      refine v_iconst (v := (1 : Int32)) C (by decide) dX10_setWriteBack_38 ?_
      refine v_icmp_ne (tgt := 46) C (by decide) dX10_setWriteBack_39 (fun h4 => ?_) (fun h4 => ?_)
      · refine v_iconst (v := (0 : Int32)) C (by decide) dX10_setWriteBack_46 ?_
        have e1 : F_X10_setWriteBack μ on = ((0 : Int32), (F_X10_becomes (s2 μ 24 1 (0 : Int32)) (7 : Int32) (1 : Int32)).2) := by rw [F_X10_setWriteBack, if_neg h1, if_neg h2, if_neg h4]
        exact v_Q hQ (v_zret C rfl () trivial (by rw [e1]) (by rw [e1]) (Nat.zero_le _) (Nat.zero_le _) dX10_setWriteBack_47)
      · refine v_iconst (v := (1 : Int32)) C (by decide) dX10_setWriteBack_42 ?_
        refine v_goto (tgt := 47) C (by decide) dX10_setWriteBack_43 ?_
        have e1 : F_X10_setWriteBack μ on = ((1 : Int32), (F_X10_becomes (s2 μ 24 1 (0 : Int32)) (7 : Int32) (1 : Int32)).2) := by rw [F_X10_setWriteBack, if_neg h1, if_neg h2, if_pos h4]
        exact v_Q hQ (v_zret C rfl () trivial (by rw [e1]) (by rw [e1]) (Nat.zero_le _) (Nat.zero_le _) dX10_setWriteBack_47)
  · refine v_aload_n C 0 rfl dX10_setWriteBack_9 ?_
    refine v_cV1 (rest := []) C mv_RX10_81 (m_X10_dirty l G E σ (s2 μ 24 1 (0 : Int32)) Y) 24 g_24 rfl rfl rfl rfl (Nat.le_of_ble_eq_true rfl) ⟨Nat.le_of_ble_eq_true rfl, Nat.le_of_ble_eq_true rfl⟩ ⟨rfl, rfl⟩ ⟨Nat.zero_le _, Nat.zero_le _⟩ dX10_setWriteBack_10 ?_
    refine v_if_le (tgt := 23) C (by decide) dX10_setWriteBack_13 (fun h5 => ?_) (fun h5 => ?_)
    · refine v_aload_n C 0 rfl dX10_setWriteBack_23 ?_
      refine v_bipush (v := (7 : Int32)) C (by decide) dX10_setWriteBack_24 ?_
      refine v_iload_n C 1 rfl dX10_setWriteBack_26 ?_
      refine v_if_eq (tgt := 34) C (by decide) dX10_setWriteBack_27 (fun h6 => ?_) (fun h6 => ?_)
      · refine v_iconst (v := (0 : Int32)) C (by decide) dX10_setWriteBack_34 ?_
        refine v_cV1 (rest := []) C mv_RX10_75 (m_X10_becomes l G E σ (s2 μ 24 1 (0 : Int32)) Y (7 : Int32) (0 : Int32) (vi_x rfl (j := 7) (by omega) (by decide))) 24 g_24 rfl rfl rfl rfl (Nat.le_of_ble_eq_true rfl) ⟨Nat.le_of_ble_eq_true rfl, Nat.le_of_ble_eq_true rfl⟩ ⟨rfl, rfl⟩ ⟨Nat.zero_le _, Nat.zero_le _⟩ dX10_setWriteBack_35 ?_
        refine v_iconst (v := (1 : Int32)) C (by decide) dX10_setWriteBack_38 ?_
        refine v_icmp_ne (tgt := 46) C (by decide) dX10_setWriteBack_39 (fun h7 => ?_) (fun h7 => ?_)
        · refine v_iconst (v := (0 : Int32)) C (by decide) dX10_setWriteBack_46 ?_
          have e1 : F_X10_setWriteBack μ on = ((0 : Int32), (F_X10_becomes (s2 μ 24 1 (0 : Int32)) (7 : Int32) (0 : Int32)).2) := by rw [F_X10_setWriteBack, if_pos h1, if_pos h5, if_pos h6, if_neg h7]
          exact v_Q hQ (v_zret C rfl () trivial (by rw [e1]) (by rw [e1]) (Nat.zero_le _) (Nat.zero_le _) dX10_setWriteBack_47)
        · refine v_iconst (v := (1 : Int32)) C (by decide) dX10_setWriteBack_42 ?_
          refine v_goto (tgt := 47) C (by decide) dX10_setWriteBack_43 ?_
          have e1 : F_X10_setWriteBack μ on = ((1 : Int32), (F_X10_becomes (s2 μ 24 1 (0 : Int32)) (7 : Int32) (0 : Int32)).2) := by rw [F_X10_setWriteBack, if_pos h1, if_pos h5, if_pos h6, if_pos h7]
          exact v_Q hQ (v_zret C rfl () trivial (by rw [e1]) (by rw [e1]) (Nat.zero_le _) (Nat.zero_le _) dX10_setWriteBack_47)
      · refine v_iconst (v := (1 : Int32)) C (by decide) dX10_setWriteBack_30 ?_
        refine v_goto (tgt := 35) C (by decide) dX10_setWriteBack_31 ?_
        refine v_cV1 (rest := []) C mv_RX10_75 (m_X10_becomes l G E σ (s2 μ 24 1 (0 : Int32)) Y (7 : Int32) (1 : Int32) (vi_x rfl (j := 7) (by omega) (by decide))) 24 g_24 rfl rfl rfl rfl (Nat.le_of_ble_eq_true rfl) ⟨Nat.le_of_ble_eq_true rfl, Nat.le_of_ble_eq_true rfl⟩ ⟨rfl, rfl⟩ ⟨Nat.zero_le _, Nat.zero_le _⟩ dX10_setWriteBack_35 ?_
        refine v_iconst (v := (1 : Int32)) C (by decide) dX10_setWriteBack_38 ?_
        refine v_icmp_ne (tgt := 46) C (by decide) dX10_setWriteBack_39 (fun h8 => ?_) (fun h8 => ?_)
        · refine v_iconst (v := (0 : Int32)) C (by decide) dX10_setWriteBack_46 ?_
          have e1 : F_X10_setWriteBack μ on = ((0 : Int32), (F_X10_becomes (s2 μ 24 1 (0 : Int32)) (7 : Int32) (1 : Int32)).2) := by rw [F_X10_setWriteBack, if_pos h1, if_pos h5, if_neg h6, if_neg h8]
          exact v_Q hQ (v_zret C rfl () trivial (by rw [e1]) (by rw [e1]) (Nat.zero_le _) (Nat.zero_le _) dX10_setWriteBack_47)
        · refine v_iconst (v := (1 : Int32)) C (by decide) dX10_setWriteBack_42 ?_
          refine v_goto (tgt := 47) C (by decide) dX10_setWriteBack_43 ?_
          have e1 : F_X10_setWriteBack μ on = ((1 : Int32), (F_X10_becomes (s2 μ 24 1 (0 : Int32)) (7 : Int32) (1 : Int32)).2) := by rw [F_X10_setWriteBack, if_pos h1, if_pos h5, if_neg h6, if_pos h8]
          exact v_Q hQ (v_zret C rfl () trivial (by rw [e1]) (by rw [e1]) (Nat.zero_le _) (Nat.zero_le _) dX10_setWriteBack_47)
    · refine v_aload_n C 0 rfl dX10_setWriteBack_16 ?_
      refine v_iconst (v := (1 : Int32)) C (by decide) dX10_setWriteBack_17 ?_
      refine v_put C fp_RX10_39 24 g_24 rfl rfl (Nat.le_of_ble_eq_true rfl) (p_24_3 _) dX10_setWriteBack_18 ?_
      refine v_iconst (v := (0 : Int32)) C (by decide) dX10_setWriteBack_21 ?_
      have e1 : F_X10_setWriteBack μ on = ((0 : Int32), (s2 (s2 μ 24 1 (0 : Int32)) 24 1 (1 : Int32))) := by rw [F_X10_setWriteBack, if_pos h1, if_neg h5]
      exact v_Q hQ (v_zret C rfl () trivial (by rw [e1]) (by rw [e1]) (Nat.zero_le _) (Nat.zero_le _) dX10_setWriteBack_22)
def F_X10_seekTime (μ : Sg) (fr : Int32) (to : Int32) : Int32 × Sg := (if (F_X10_in fr (0 : Int32) (63 : Int32)) = 0 then ((F_X10_fails (s2 μ 24 1 (0 : Int32)) (1 : Int32)).1, (F_X10_fails (s2 μ 24 1 (0 : Int32)) (1 : Int32)).2) else (if (F_X10_in to (0 : Int32) (63 : Int32)) = 0 then ((F_X10_fails (s2 μ 24 1 (0 : Int32)) (1 : Int32)).1, (F_X10_fails (s2 μ 24 1 (0 : Int32)) (1 : Int32)).2) else (F_X10_seek (s2 μ 24 1 (0 : Int32)) fr to, (s2 μ 24 1 (0 : Int32)))))
abbrev rm_X10_seekTime : Room := { frames := 2, cells := 0, slots := 0, locals := 44 }
set_option maxRecDepth 100000 in
set_option maxHeartbeats 4000000 in
theorem m_X10_seekTime (l : Launch) (G : GG) (E : EE) (σ μ : Sg) (Y : va_W) (fr : Int32) (to : Int32) : KK l G yX10_seekTime cX10_seekTime 3 (some .int) rm_X10_seekTime [.ref (E.1 24), .int fr, .int to] (Wd G E σ μ Y) (some (.int (F_X10_seekTime μ fr to).1)) (Wd G E σ (F_X10_seekTime μ fr to).2 Y) := by
  refine KE.of (by decide) (Nat.le_of_ble_eq_true rfl) ?_
  intro zp ze zs zm za zb zt zc zA C _
  generalize hQ : MQ zb _ za zs _ _ zA = Q
  show V zp l ze rm_X10_seekTime zs zm za zb zt zc 3 G zA 0 0 Q 0 [(0, .ref (E.1 24)), (1, .int fr), (2, .int to)] [] (Wd G E σ μ Y)
  refine v_aload_n C 0 rfl dX10_seekTime_0 ?_
  refine v_iconst (v := (0 : Int32)) C (by decide) dX10_seekTime_1 ?_
  refine v_put C fp_RX10_39 24 g_24 rfl rfl (Nat.le_of_ble_eq_true rfl) (p_24_3 _) dX10_seekTime_2 ?_
  refine v_iload_n C 1 rfl dX10_seekTime_5 ?_
  refine v_iconst (v := (0 : Int32)) C (by decide) dX10_seekTime_6 ?_
  refine v_bipush (v := (63 : Int32)) C (by decide) dX10_seekTime_7 ?_
  refine v_cS1 (rest := []) C ms_RX10_42 (m_X10_in l G E σ (s2 μ 24 1 (0 : Int32)) Y fr (0 : Int32) (63 : Int32)) rfl rfl (Nat.le_of_ble_eq_true rfl) ⟨Nat.le_of_ble_eq_true rfl, Nat.le_of_ble_eq_true rfl⟩ ⟨rfl, rfl⟩ ⟨Nat.zero_le _, Nat.zero_le _⟩ dX10_seekTime_9 ?_
  refine v_if_eq (tgt := 34) C (by decide) dX10_seekTime_12 (fun h1 => ?_) (fun h1 => ?_)
  · refine v_aload_n C 0 rfl dX10_seekTime_34 ?_
    refine v_iconst (v := (1 : Int32)) C (by decide) dX10_seekTime_35 ?_
    refine v_cV1 (rest := []) C mv_RX10_78 (m_X10_fails l G E σ (s2 μ 24 1 (0 : Int32)) Y (1 : Int32)) 24 g_24 rfl rfl rfl rfl (Nat.le_of_ble_eq_true rfl) ⟨Nat.le_of_ble_eq_true rfl, Nat.le_of_ble_eq_true rfl⟩ ⟨rfl, rfl⟩ ⟨Nat.zero_le _, Nat.zero_le _⟩ dX10_seekTime_36 ?_
    have e1 : F_X10_seekTime μ fr to = ((F_X10_fails (s2 μ 24 1 (0 : Int32)) (1 : Int32)).1, (F_X10_fails (s2 μ 24 1 (0 : Int32)) (1 : Int32)).2) := by rw [F_X10_seekTime, if_pos h1]
    exact v_Q hQ (v_iret C () trivial (by rw [e1]) (by rw [e1]) (Nat.zero_le _) (Nat.zero_le _) dX10_seekTime_39)
  · refine v_iload_n C 2 rfl dX10_seekTime_15 ?_
    refine v_iconst (v := (0 : Int32)) C (by decide) dX10_seekTime_16 ?_
    refine v_bipush (v := (63 : Int32)) C (by decide) dX10_seekTime_17 ?_
    refine v_cS1 (rest := []) C ms_RX10_42 (m_X10_in l G E σ (s2 μ 24 1 (0 : Int32)) Y to (0 : Int32) (63 : Int32)) rfl rfl (Nat.le_of_ble_eq_true rfl) ⟨Nat.le_of_ble_eq_true rfl, Nat.le_of_ble_eq_true rfl⟩ ⟨rfl, rfl⟩ ⟨Nat.zero_le _, Nat.zero_le _⟩ dX10_seekTime_19 ?_
    refine v_if_eq (tgt := 34) C (by decide) dX10_seekTime_22 (fun h2 => ?_) (fun h2 => ?_)
    · refine v_aload_n C 0 rfl dX10_seekTime_34 ?_
      refine v_iconst (v := (1 : Int32)) C (by decide) dX10_seekTime_35 ?_
      refine v_cV1 (rest := []) C mv_RX10_78 (m_X10_fails l G E σ (s2 μ 24 1 (0 : Int32)) Y (1 : Int32)) 24 g_24 rfl rfl rfl rfl (Nat.le_of_ble_eq_true rfl) ⟨Nat.le_of_ble_eq_true rfl, Nat.le_of_ble_eq_true rfl⟩ ⟨rfl, rfl⟩ ⟨Nat.zero_le _, Nat.zero_le _⟩ dX10_seekTime_36 ?_
      have e1 : F_X10_seekTime μ fr to = ((F_X10_fails (s2 μ 24 1 (0 : Int32)) (1 : Int32)).1, (F_X10_fails (s2 μ 24 1 (0 : Int32)) (1 : Int32)).2) := by rw [F_X10_seekTime, if_neg h1, if_pos h2]
      exact v_Q hQ (v_iret C () trivial (by rw [e1]) (by rw [e1]) (Nat.zero_le _) (Nat.zero_le _) dX10_seekTime_39)
    · refine v_aload_n C 0 rfl dX10_seekTime_25 ?_
      refine v_iload_n C 1 rfl dX10_seekTime_26 ?_
      refine v_iload_n C 2 rfl dX10_seekTime_27 ?_
      refine v_cV1 (rest := []) C mv_RX10_68 (m_X10_seek l G E σ (s2 μ 24 1 (0 : Int32)) Y fr to (in63 h1) (in63 h2)) 24 g_24 rfl rfl rfl rfl (Nat.le_of_ble_eq_true rfl) ⟨Nat.le_of_ble_eq_true rfl, Nat.le_of_ble_eq_true rfl⟩ ⟨rfl, rfl⟩ ⟨Nat.zero_le _, Nat.zero_le _⟩ dX10_seekTime_28 ?_
      refine v_goto (tgt := 39) C (by decide) dX10_seekTime_31 ?_
      have e1 : F_X10_seekTime μ fr to = (F_X10_seek (s2 μ 24 1 (0 : Int32)) fr to, (s2 μ 24 1 (0 : Int32))) := by rw [F_X10_seekTime, if_neg h1, if_neg h2]
      exact v_Q hQ (v_iret C () trivial (by rw [e1]) (by rw [e1]) (Nat.zero_le _) (Nat.zero_le _) dX10_seekTime_39)
def F_X10_placeOf (μ : Sg) (bk : Int32) : Int32 × Sg := (if (F_X10_isBlock bk) = 0 then ((F_X10_fails (s2 μ 24 1 (0 : Int32)) (1 : Int32)).1, (F_X10_fails (s2 μ 24 1 (0 : Int32)) (1 : Int32)).2) else (F_X10_place (s2 μ 24 1 (0 : Int32)) bk, (s2 μ 24 1 (0 : Int32))))
abbrev rm_X10_placeOf : Room := { frames := 2, cells := 0, slots := 0, locals := 42 }
set_option maxRecDepth 100000 in
set_option maxHeartbeats 4000000 in
theorem m_X10_placeOf (l : Launch) (G : GG) (E : EE) (σ μ : Sg) (Y : va_W) (bk : Int32) (hM : MOKg (μ 25)) : KK l G yX10_placeOf cX10_placeOf 2 (some .int) rm_X10_placeOf [.ref (E.1 24), .int bk] (Wd G E σ μ Y) (some (.int (F_X10_placeOf μ bk).1)) (Wd G E σ (F_X10_placeOf μ bk).2 Y) := by
  refine KE.of (by decide) (Nat.le_of_ble_eq_true rfl) ?_
  intro zp ze zs zm za zb zt zc zA C _
  generalize hQ : MQ zb _ za zs _ _ zA = Q
  show V zp l ze rm_X10_placeOf zs zm za zb zt zc 2 G zA 0 0 Q 0 [(0, .ref (E.1 24)), (1, .int bk)] [] (Wd G E σ μ Y)
  refine v_aload_n C 0 rfl dX10_placeOf_0 ?_
  refine v_iconst (v := (0 : Int32)) C (by decide) dX10_placeOf_1 ?_
  refine v_put C fp_RX10_39 24 g_24 rfl rfl (Nat.le_of_ble_eq_true rfl) (p_24_3 _) dX10_placeOf_2 ?_
  refine v_iload_n C 1 rfl dX10_placeOf_5 ?_
  refine v_cS1 (rest := []) C ms_RX10_85 (m_X10_isBlock l G E σ (s2 μ 24 1 (0 : Int32)) Y bk) rfl rfl (Nat.le_of_ble_eq_true rfl) ⟨Nat.le_of_ble_eq_true rfl, Nat.le_of_ble_eq_true rfl⟩ ⟨rfl, rfl⟩ ⟨Nat.zero_le _, Nat.zero_le _⟩ dX10_placeOf_6 ?_
  refine v_if_eq (tgt := 20) C (by decide) dX10_placeOf_9 (fun h1 => ?_) (fun h1 => ?_)
  · refine v_aload_n C 0 rfl dX10_placeOf_20 ?_
    refine v_iconst (v := (1 : Int32)) C (by decide) dX10_placeOf_21 ?_
    refine v_cV1 (rest := []) C mv_RX10_78 (m_X10_fails l G E σ (s2 μ 24 1 (0 : Int32)) Y (1 : Int32)) 24 g_24 rfl rfl rfl rfl (Nat.le_of_ble_eq_true rfl) ⟨Nat.le_of_ble_eq_true rfl, Nat.le_of_ble_eq_true rfl⟩ ⟨rfl, rfl⟩ ⟨Nat.zero_le _, Nat.zero_le _⟩ dX10_placeOf_22 ?_
    have e1 : F_X10_placeOf μ bk = ((F_X10_fails (s2 μ 24 1 (0 : Int32)) (1 : Int32)).1, (F_X10_fails (s2 μ 24 1 (0 : Int32)) (1 : Int32)).2) := by rw [F_X10_placeOf, if_pos h1]
    exact v_Q hQ (v_iret C () trivial (by rw [e1]) (by rw [e1]) (Nat.zero_le _) (Nat.zero_le _) dX10_placeOf_25)
  · refine v_aload_n C 0 rfl dX10_placeOf_12 ?_
    refine v_iload_n C 1 rfl dX10_placeOf_13 ?_
    refine v_cV1 (rest := []) C mv_RX10_89 (m_X10_place l G E σ (s2 μ 24 1 (0 : Int32)) Y bk hM.1) 24 g_24 rfl rfl rfl rfl (Nat.le_of_ble_eq_true rfl) ⟨Nat.le_of_ble_eq_true rfl, Nat.le_of_ble_eq_true rfl⟩ ⟨rfl, rfl⟩ ⟨Nat.zero_le _, Nat.zero_le _⟩ dX10_placeOf_14 ?_
    refine v_goto (tgt := 25) C (by decide) dX10_placeOf_17 ?_
    have e1 : F_X10_placeOf μ bk = (F_X10_place (s2 μ 24 1 (0 : Int32)) bk, (s2 μ 24 1 (0 : Int32))) := by rw [F_X10_placeOf, if_neg h1]
    exact v_Q hQ (v_iret C () trivial (by rw [e1]) (by rw [e1]) (Nat.zero_le _) (Nat.zero_le _) dX10_placeOf_25)
def F_X10_cylinderOf (μ : Sg) (bk : Int32) : Int32 × Sg := (if (F_X10_isBlock bk) = 0 then ((F_X10_fails (s2 μ 24 1 (0 : Int32)) (1 : Int32)).1, (F_X10_fails (s2 μ 24 1 (0 : Int32)) (1 : Int32)).2) else (F_X10_cylinderAt (F_X10_place (s2 μ 24 1 (0 : Int32)) bk), (s2 μ 24 1 (0 : Int32))))
abbrev rm_X10_cylinderOf : Room := { frames := 2, cells := 0, slots := 0, locals := 42 }
set_option maxRecDepth 100000 in
set_option maxHeartbeats 4000000 in
theorem m_X10_cylinderOf (l : Launch) (G : GG) (E : EE) (σ μ : Sg) (Y : va_W) (bk : Int32) (hM : MOKg (μ 25)) : KK l G yX10_cylinderOf cX10_cylinderOf 2 (some .int) rm_X10_cylinderOf [.ref (E.1 24), .int bk] (Wd G E σ μ Y) (some (.int (F_X10_cylinderOf μ bk).1)) (Wd G E σ (F_X10_cylinderOf μ bk).2 Y) := by
  refine KE.of (by decide) (Nat.le_of_ble_eq_true rfl) ?_
  intro zp ze zs zm za zb zt zc zA C _
  generalize hQ : MQ zb _ za zs _ _ zA = Q
  show V zp l ze rm_X10_cylinderOf zs zm za zb zt zc 2 G zA 0 0 Q 0 [(0, .ref (E.1 24)), (1, .int bk)] [] (Wd G E σ μ Y)
  refine v_aload_n C 0 rfl dX10_cylinderOf_0 ?_
  refine v_iconst (v := (0 : Int32)) C (by decide) dX10_cylinderOf_1 ?_
  refine v_put C fp_RX10_39 24 g_24 rfl rfl (Nat.le_of_ble_eq_true rfl) (p_24_3 _) dX10_cylinderOf_2 ?_
  refine v_iload_n C 1 rfl dX10_cylinderOf_5 ?_
  refine v_cS1 (rest := []) C ms_RX10_85 (m_X10_isBlock l G E σ (s2 μ 24 1 (0 : Int32)) Y bk) rfl rfl (Nat.le_of_ble_eq_true rfl) ⟨Nat.le_of_ble_eq_true rfl, Nat.le_of_ble_eq_true rfl⟩ ⟨rfl, rfl⟩ ⟨Nat.zero_le _, Nat.zero_le _⟩ dX10_cylinderOf_6 ?_
  refine v_if_eq (tgt := 23) C (by decide) dX10_cylinderOf_9 (fun h1 => ?_) (fun h1 => ?_)
  · refine v_aload_n C 0 rfl dX10_cylinderOf_23 ?_
    refine v_iconst (v := (1 : Int32)) C (by decide) dX10_cylinderOf_24 ?_
    refine v_cV1 (rest := []) C mv_RX10_78 (m_X10_fails l G E σ (s2 μ 24 1 (0 : Int32)) Y (1 : Int32)) 24 g_24 rfl rfl rfl rfl (Nat.le_of_ble_eq_true rfl) ⟨Nat.le_of_ble_eq_true rfl, Nat.le_of_ble_eq_true rfl⟩ ⟨rfl, rfl⟩ ⟨Nat.zero_le _, Nat.zero_le _⟩ dX10_cylinderOf_25 ?_
    have e1 : F_X10_cylinderOf μ bk = ((F_X10_fails (s2 μ 24 1 (0 : Int32)) (1 : Int32)).1, (F_X10_fails (s2 μ 24 1 (0 : Int32)) (1 : Int32)).2) := by rw [F_X10_cylinderOf, if_pos h1]
    exact v_Q hQ (v_iret C () trivial (by rw [e1]) (by rw [e1]) (Nat.zero_le _) (Nat.zero_le _) dX10_cylinderOf_28)
  · refine v_aload_n C 0 rfl dX10_cylinderOf_12 ?_
    refine v_iload_n C 1 rfl dX10_cylinderOf_13 ?_
    refine v_cV1 (rest := []) C mv_RX10_89 (m_X10_place l G E σ (s2 μ 24 1 (0 : Int32)) Y bk hM.1) 24 g_24 rfl rfl rfl rfl (Nat.le_of_ble_eq_true rfl) ⟨Nat.le_of_ble_eq_true rfl, Nat.le_of_ble_eq_true rfl⟩ ⟨rfl, rfl⟩ ⟨Nat.zero_le _, Nat.zero_le _⟩ dX10_cylinderOf_14 ?_
    refine v_cS1 (rest := []) C ms_RX10_53 (m_X10_cylinderAt l G E σ (s2 μ 24 1 (0 : Int32)) Y (F_X10_place (s2 μ 24 1 (0 : Int32)) bk)) rfl rfl (Nat.le_of_ble_eq_true rfl) ⟨Nat.le_of_ble_eq_true rfl, Nat.le_of_ble_eq_true rfl⟩ ⟨rfl, rfl⟩ ⟨Nat.zero_le _, Nat.zero_le _⟩ dX10_cylinderOf_17 ?_
    refine v_goto (tgt := 28) C (by decide) dX10_cylinderOf_20 ?_
    have e1 : F_X10_cylinderOf μ bk = (F_X10_cylinderAt (F_X10_place (s2 μ 24 1 (0 : Int32)) bk), (s2 μ 24 1 (0 : Int32))) := by rw [F_X10_cylinderOf, if_neg h1]
    exact v_Q hQ (v_iret C () trivial (by rw [e1]) (by rw [e1]) (Nat.zero_le _) (Nat.zero_le _) dX10_cylinderOf_28)
def F_X10_sectorOf (μ : Sg) (bk : Int32) : Int32 × Sg := (if (F_X10_isBlock bk) = 0 then ((F_X10_fails (s2 μ 24 1 (0 : Int32)) (1 : Int32)).1, (F_X10_fails (s2 μ 24 1 (0 : Int32)) (1 : Int32)).2) else ((F_X10_place (s2 μ 24 1 (0 : Int32)) bk) - (F_X10_firstOf (F_X10_cylinderAt (F_X10_place (s2 μ 24 1 (0 : Int32)) bk))), (s2 μ 24 1 (0 : Int32))))
abbrev rm_X10_sectorOf : Room := { frames := 2, cells := 0, slots := 0, locals := 42 }
set_option maxRecDepth 100000 in
set_option maxHeartbeats 4000000 in
theorem m_X10_sectorOf (l : Launch) (G : GG) (E : EE) (σ μ : Sg) (Y : va_W) (bk : Int32) (hM : MOKg (μ 25)) : KK l G yX10_sectorOf cX10_sectorOf 2 (some .int) rm_X10_sectorOf [.ref (E.1 24), .int bk] (Wd G E σ μ Y) (some (.int (F_X10_sectorOf μ bk).1)) (Wd G E σ (F_X10_sectorOf μ bk).2 Y) := by
  refine KE.of (by decide) (Nat.le_of_ble_eq_true rfl) ?_
  intro zp ze zs zm za zb zt zc zA C _
  generalize hQ : MQ zb _ za zs _ _ zA = Q
  show V zp l ze rm_X10_sectorOf zs zm za zb zt zc 2 G zA 0 0 Q 0 [(0, .ref (E.1 24)), (1, .int bk)] [] (Wd G E σ μ Y)
  refine v_aload_n C 0 rfl dX10_sectorOf_0 ?_
  refine v_iconst (v := (0 : Int32)) C (by decide) dX10_sectorOf_1 ?_
  refine v_put C fp_RX10_39 24 g_24 rfl rfl (Nat.le_of_ble_eq_true rfl) (p_24_3 _) dX10_sectorOf_2 ?_
  refine v_iload_n C 1 rfl dX10_sectorOf_5 ?_
  refine v_cS1 (rest := []) C ms_RX10_85 (m_X10_isBlock l G E σ (s2 μ 24 1 (0 : Int32)) Y bk) rfl rfl (Nat.le_of_ble_eq_true rfl) ⟨Nat.le_of_ble_eq_true rfl, Nat.le_of_ble_eq_true rfl⟩ ⟨rfl, rfl⟩ ⟨Nat.zero_le _, Nat.zero_le _⟩ dX10_sectorOf_6 ?_
  refine v_if_eq (tgt := 32) C (by decide) dX10_sectorOf_9 (fun h1 => ?_) (fun h1 => ?_)
  · refine v_aload_n C 0 rfl dX10_sectorOf_32 ?_
    refine v_iconst (v := (1 : Int32)) C (by decide) dX10_sectorOf_33 ?_
    refine v_cV1 (rest := []) C mv_RX10_78 (m_X10_fails l G E σ (s2 μ 24 1 (0 : Int32)) Y (1 : Int32)) 24 g_24 rfl rfl rfl rfl (Nat.le_of_ble_eq_true rfl) ⟨Nat.le_of_ble_eq_true rfl, Nat.le_of_ble_eq_true rfl⟩ ⟨rfl, rfl⟩ ⟨Nat.zero_le _, Nat.zero_le _⟩ dX10_sectorOf_34 ?_
    have e1 : F_X10_sectorOf μ bk = ((F_X10_fails (s2 μ 24 1 (0 : Int32)) (1 : Int32)).1, (F_X10_fails (s2 μ 24 1 (0 : Int32)) (1 : Int32)).2) := by rw [F_X10_sectorOf, if_pos h1]
    exact v_Q hQ (v_iret C () trivial (by rw [e1]) (by rw [e1]) (Nat.zero_le _) (Nat.zero_le _) dX10_sectorOf_37)
  · refine v_aload_n C 0 rfl dX10_sectorOf_12 ?_
    refine v_iload_n C 1 rfl dX10_sectorOf_13 ?_
    refine v_cV1 (rest := []) C mv_RX10_89 (m_X10_place l G E σ (s2 μ 24 1 (0 : Int32)) Y bk hM.1) 24 g_24 rfl rfl rfl rfl (Nat.le_of_ble_eq_true rfl) ⟨Nat.le_of_ble_eq_true rfl, Nat.le_of_ble_eq_true rfl⟩ ⟨rfl, rfl⟩ ⟨Nat.zero_le _, Nat.zero_le _⟩ dX10_sectorOf_14 ?_
    refine v_aload_n C 0 rfl dX10_sectorOf_17 ?_
    refine v_iload_n C 1 rfl dX10_sectorOf_18 ?_
    refine v_cV1 (rest := [.int (F_X10_place (s2 μ 24 1 (0 : Int32)) bk)]) C mv_RX10_89 (m_X10_place l G E σ (s2 μ 24 1 (0 : Int32)) Y bk hM.1) 24 g_24 rfl rfl rfl rfl (Nat.le_of_ble_eq_true rfl) ⟨Nat.le_of_ble_eq_true rfl, Nat.le_of_ble_eq_true rfl⟩ ⟨rfl, rfl⟩ ⟨Nat.zero_le _, Nat.zero_le _⟩ dX10_sectorOf_19 ?_
    refine v_cS1 (rest := [.int (F_X10_place (s2 μ 24 1 (0 : Int32)) bk)]) C ms_RX10_53 (m_X10_cylinderAt l G E σ (s2 μ 24 1 (0 : Int32)) Y (F_X10_place (s2 μ 24 1 (0 : Int32)) bk)) rfl rfl (Nat.le_of_ble_eq_true rfl) ⟨Nat.le_of_ble_eq_true rfl, Nat.le_of_ble_eq_true rfl⟩ ⟨rfl, rfl⟩ ⟨Nat.zero_le _, Nat.zero_le _⟩ dX10_sectorOf_22 ?_
    refine v_cS1 (rest := [.int (F_X10_place (s2 μ 24 1 (0 : Int32)) bk)]) C ms_RX10_56 (m_X10_firstOf l G E σ (s2 μ 24 1 (0 : Int32)) Y (F_X10_cylinderAt (F_X10_place (s2 μ 24 1 (0 : Int32)) bk))) rfl rfl (Nat.le_of_ble_eq_true rfl) ⟨Nat.le_of_ble_eq_true rfl, Nat.le_of_ble_eq_true rfl⟩ ⟨rfl, rfl⟩ ⟨Nat.zero_le _, Nat.zero_le _⟩ dX10_sectorOf_25 ?_
    refine v_isub C dX10_sectorOf_28 ?_
    refine v_goto (tgt := 37) C (by decide) dX10_sectorOf_29 ?_
    have e1 : F_X10_sectorOf μ bk = ((F_X10_place (s2 μ 24 1 (0 : Int32)) bk) - (F_X10_firstOf (F_X10_cylinderAt (F_X10_place (s2 μ 24 1 (0 : Int32)) bk))), (s2 μ 24 1 (0 : Int32))) := by rw [F_X10_sectorOf, if_neg h1]
    exact v_Q hQ (v_iret C () trivial (by rw [e1]) (by rw [e1]) (Nat.zero_le _) (Nat.zero_le _) dX10_sectorOf_37)
def F_X10_startAngle (μ : Sg) (bk : Int32) : Int32 × Sg := (if (F_X10_isBlock bk) = 0 then ((F_X10_fails (s2 μ 24 1 (0 : Int32)) (1 : Int32)).1, (F_X10_fails (s2 μ 24 1 (0 : Int32)) (1 : Int32)).2) else (F_X10_angleAt (s2 μ 24 1 (0 : Int32)) (F_X10_place (s2 μ 24 1 (0 : Int32)) bk), (s2 μ 24 1 (0 : Int32))))
abbrev rm_X10_startAngle : Room := { frames := 3, cells := 0, slots := 0, locals := 63 }
set_option maxRecDepth 100000 in
set_option maxHeartbeats 4000000 in
theorem m_X10_startAngle (l : Launch) (G : GG) (E : EE) (σ μ : Sg) (Y : va_W) (bk : Int32) (hM : MOKg (μ 25)) : KK l G yX10_startAngle cX10_startAngle 2 (some .int) rm_X10_startAngle [.ref (E.1 24), .int bk] (Wd G E σ μ Y) (some (.int (F_X10_startAngle μ bk).1)) (Wd G E σ (F_X10_startAngle μ bk).2 Y) := by
  refine KE.of (by decide) (Nat.le_of_ble_eq_true rfl) ?_
  intro zp ze zs zm za zb zt zc zA C _
  generalize hQ : MQ zb _ za zs _ _ zA = Q
  show V zp l ze rm_X10_startAngle zs zm za zb zt zc 2 G zA 0 0 Q 0 [(0, .ref (E.1 24)), (1, .int bk)] [] (Wd G E σ μ Y)
  refine v_aload_n C 0 rfl dX10_startAngle_0 ?_
  refine v_iconst (v := (0 : Int32)) C (by decide) dX10_startAngle_1 ?_
  refine v_put C fp_RX10_39 24 g_24 rfl rfl (Nat.le_of_ble_eq_true rfl) (p_24_3 _) dX10_startAngle_2 ?_
  refine v_iload_n C 1 rfl dX10_startAngle_5 ?_
  refine v_cS1 (rest := []) C ms_RX10_85 (m_X10_isBlock l G E σ (s2 μ 24 1 (0 : Int32)) Y bk) rfl rfl (Nat.le_of_ble_eq_true rfl) ⟨Nat.le_of_ble_eq_true rfl, Nat.le_of_ble_eq_true rfl⟩ ⟨rfl, rfl⟩ ⟨Nat.zero_le _, Nat.zero_le _⟩ dX10_startAngle_6 ?_
  refine v_if_eq (tgt := 24) C (by decide) dX10_startAngle_9 (fun h1 => ?_) (fun h1 => ?_)
  · refine v_aload_n C 0 rfl dX10_startAngle_24 ?_
    refine v_iconst (v := (1 : Int32)) C (by decide) dX10_startAngle_25 ?_
    refine v_cV1 (rest := []) C mv_RX10_78 (m_X10_fails l G E σ (s2 μ 24 1 (0 : Int32)) Y (1 : Int32)) 24 g_24 rfl rfl rfl rfl (Nat.le_of_ble_eq_true rfl) ⟨Nat.le_of_ble_eq_true rfl, Nat.le_of_ble_eq_true rfl⟩ ⟨rfl, rfl⟩ ⟨Nat.zero_le _, Nat.zero_le _⟩ dX10_startAngle_26 ?_
    have e1 : F_X10_startAngle μ bk = ((F_X10_fails (s2 μ 24 1 (0 : Int32)) (1 : Int32)).1, (F_X10_fails (s2 μ 24 1 (0 : Int32)) (1 : Int32)).2) := by rw [F_X10_startAngle, if_pos h1]
    exact v_Q hQ (v_iret C () trivial (by rw [e1]) (by rw [e1]) (Nat.zero_le _) (Nat.zero_le _) dX10_startAngle_29)
  · refine v_aload_n C 0 rfl dX10_startAngle_12 ?_
    refine v_aload_n C 0 rfl dX10_startAngle_13 ?_
    refine v_iload_n C 1 rfl dX10_startAngle_14 ?_
    refine v_cV1 (rest := [.ref (E.1 24)]) C mv_RX10_89 (m_X10_place l G E σ (s2 μ 24 1 (0 : Int32)) Y bk hM.1) 24 g_24 rfl rfl rfl rfl (Nat.le_of_ble_eq_true rfl) ⟨Nat.le_of_ble_eq_true rfl, Nat.le_of_ble_eq_true rfl⟩ ⟨rfl, rfl⟩ ⟨Nat.zero_le _, Nat.zero_le _⟩ dX10_startAngle_15 ?_
    refine v_cV1 (rest := []) C mv_RX10_65 (m_X10_angleAt l G E σ (s2 μ 24 1 (0 : Int32)) Y (F_X10_place (s2 μ 24 1 (0 : Int32)) bk) (geo_s (place_plc (μ := s2 μ 24 1 0) hM.1 (isBlock_blk h1)))) 24 g_24 rfl rfl rfl rfl (Nat.le_of_ble_eq_true rfl) ⟨Nat.le_of_ble_eq_true rfl, Nat.le_of_ble_eq_true rfl⟩ ⟨rfl, rfl⟩ ⟨Nat.zero_le _, Nat.zero_le _⟩ dX10_startAngle_18 ?_
    refine v_goto (tgt := 29) C (by decide) dX10_startAngle_21 ?_
    have e1 : F_X10_startAngle μ bk = (F_X10_angleAt (s2 μ 24 1 (0 : Int32)) (F_X10_place (s2 μ 24 1 (0 : Int32)) bk), (s2 μ 24 1 (0 : Int32))) := by rw [F_X10_startAngle, if_neg h1]
    exact v_Q hQ (v_iret C () trivial (by rw [e1]) (by rw [e1]) (Nat.zero_le _) (Nat.zero_le _) dX10_startAngle_29)
def F_X10_takes (μ : Sg) (bk : Int32) : Int32 := (F_X10_ends μ (μ 25 8) (μ 25 9) (F_X10_place μ bk)) - (μ 25 8)
abbrev rm_X10_takes : Room := { frames := 5, cells := 0, slots := 0, locals := 110 }
set_option maxRecDepth 100000 in
set_option maxHeartbeats 4000000 in
theorem m_X10_takes (l : Launch) (G : GG) (E : EE) (σ μ : Sg) (Y : va_W) (bk : Int32) (hM : MOKg (μ 25)) (hb : blk bk) : KK l G yX10_takes cX10_takes 2 (some .int) rm_X10_takes [.ref (E.1 24), .int bk] (Wd G E σ μ Y) (some (.int (F_X10_takes μ bk))) (Wd G E σ μ Y) := by
  refine KE.of (by decide) (Nat.le_of_ble_eq_true rfl) ?_
  intro zp ze zs zm za zb zt zc zA C _
  generalize hQ : MQ zb _ za zs _ _ zA = Q
  show V zp l ze rm_X10_takes zs zm za zb zt zc 2 G zA 0 0 Q 0 [(0, .ref (E.1 24)), (1, .int bk)] [] (Wd G E σ μ Y)
  refine v_aload_n C 0 rfl dX10_takes_0 ?_
  refine v_aload_n C 0 rfl dX10_takes_1 ?_
  refine v_get (v := .ref (E.1 25)) C fl_RX10_7 24 g_24 rfl dX10_takes_2 ?_
  refine v_bipush (v := (8 : Int32)) C (by decide) dX10_takes_5 ?_
  refine v_iald (v := μ 25 8) C 25 g_25 vi_8_1700 (rdl tn_8 rfl) dX10_takes_7 ?_
  refine v_aload_n C 0 rfl dX10_takes_8 ?_
  refine v_get (v := .ref (E.1 25)) C fl_RX10_7 24 g_24 rfl dX10_takes_9 ?_
  refine v_bipush (v := (9 : Int32)) C (by decide) dX10_takes_12 ?_
  refine v_iald (v := μ 25 9) C 25 g_25 vi_9_1700 (rdl tn_9 rfl) dX10_takes_14 ?_
  refine v_aload_n C 0 rfl dX10_takes_15 ?_
  refine v_iload_n C 1 rfl dX10_takes_16 ?_
  refine v_cV1 (rest := [.int (μ 25 9), .int (μ 25 8), .ref (E.1 24)]) C mv_RX10_89 (m_X10_place l G E σ μ Y bk hM.1) 24 g_24 rfl rfl rfl rfl (Nat.le_of_ble_eq_true rfl) ⟨Nat.le_of_ble_eq_true rfl, Nat.le_of_ble_eq_true rfl⟩ ⟨rfl, rfl⟩ ⟨Nat.zero_le _, Nat.zero_le _⟩ dX10_takes_17 ?_
  refine v_cV1 (rest := []) C mv_RX10_92 (m_X10_ends l G E σ μ Y (μ 25 8) (μ 25 9) (F_X10_place μ bk) (geo_s (place_plc hM.1 hb)) hM.2.2.1 (geo_c (place_plc hM.1 hb))) 24 g_24 rfl rfl rfl rfl (Nat.le_of_ble_eq_true rfl) ⟨Nat.le_of_ble_eq_true rfl, Nat.le_of_ble_eq_true rfl⟩ ⟨rfl, rfl⟩ ⟨Nat.zero_le _, Nat.zero_le _⟩ dX10_takes_20 ?_
  refine v_aload_n C 0 rfl dX10_takes_23 ?_
  refine v_get (v := .ref (E.1 25)) C fl_RX10_7 24 g_24 rfl dX10_takes_24 ?_
  refine v_bipush (v := (8 : Int32)) C (by decide) dX10_takes_27 ?_
  refine v_iald (v := μ 25 8) C 25 g_25 vi_8_1700 (rdl tn_8 rfl) dX10_takes_29 ?_
  refine v_isub C dX10_takes_30 ?_
  have e1 : F_X10_takes μ bk = (F_X10_ends μ (μ 25 8) (μ 25 9) (F_X10_place μ bk)) - (μ 25 8) := by rw [F_X10_takes]
  exact v_Q hQ (v_iret C () trivial (by rw [e1]) rfl (Nat.zero_le _) (Nat.zero_le _) dX10_takes_31)
def F_X10_accessTime (μ : Sg) (bk : Int32) : Int32 × Sg := (if (F_X10_isBlock bk) = 0 then ((F_X10_fails (s2 μ 24 1 (0 : Int32)) (1 : Int32)).1, (F_X10_fails (s2 μ 24 1 (0 : Int32)) (1 : Int32)).2) else (F_X10_takes (s2 μ 24 1 (0 : Int32)) bk, (s2 μ 24 1 (0 : Int32))))
abbrev rm_X10_accessTime : Room := { frames := 6, cells := 0, slots := 0, locals := 131 }
set_option maxRecDepth 100000 in
set_option maxHeartbeats 4000000 in
theorem m_X10_accessTime (l : Launch) (G : GG) (E : EE) (σ μ : Sg) (Y : va_W) (bk : Int32) (hM : MOKg (μ 25)) : KK l G yX10_accessTime cX10_accessTime 2 (some .int) rm_X10_accessTime [.ref (E.1 24), .int bk] (Wd G E σ μ Y) (some (.int (F_X10_accessTime μ bk).1)) (Wd G E σ (F_X10_accessTime μ bk).2 Y) := by
  refine KE.of (by decide) (Nat.le_of_ble_eq_true rfl) ?_
  intro zp ze zs zm za zb zt zc zA C _
  generalize hQ : MQ zb _ za zs _ _ zA = Q
  show V zp l ze rm_X10_accessTime zs zm za zb zt zc 2 G zA 0 0 Q 0 [(0, .ref (E.1 24)), (1, .int bk)] [] (Wd G E σ μ Y)
  refine v_aload_n C 0 rfl dX10_accessTime_0 ?_
  refine v_iconst (v := (0 : Int32)) C (by decide) dX10_accessTime_1 ?_
  refine v_put C fp_RX10_39 24 g_24 rfl rfl (Nat.le_of_ble_eq_true rfl) (p_24_3 _) dX10_accessTime_2 ?_
  refine v_iload_n C 1 rfl dX10_accessTime_5 ?_
  refine v_cS1 (rest := []) C ms_RX10_85 (m_X10_isBlock l G E σ (s2 μ 24 1 (0 : Int32)) Y bk) rfl rfl (Nat.le_of_ble_eq_true rfl) ⟨Nat.le_of_ble_eq_true rfl, Nat.le_of_ble_eq_true rfl⟩ ⟨rfl, rfl⟩ ⟨Nat.zero_le _, Nat.zero_le _⟩ dX10_accessTime_6 ?_
  refine v_if_eq (tgt := 20) C (by decide) dX10_accessTime_9 (fun h1 => ?_) (fun h1 => ?_)
  · refine v_aload_n C 0 rfl dX10_accessTime_20 ?_
    refine v_iconst (v := (1 : Int32)) C (by decide) dX10_accessTime_21 ?_
    refine v_cV1 (rest := []) C mv_RX10_78 (m_X10_fails l G E σ (s2 μ 24 1 (0 : Int32)) Y (1 : Int32)) 24 g_24 rfl rfl rfl rfl (Nat.le_of_ble_eq_true rfl) ⟨Nat.le_of_ble_eq_true rfl, Nat.le_of_ble_eq_true rfl⟩ ⟨rfl, rfl⟩ ⟨Nat.zero_le _, Nat.zero_le _⟩ dX10_accessTime_22 ?_
    have e1 : F_X10_accessTime μ bk = ((F_X10_fails (s2 μ 24 1 (0 : Int32)) (1 : Int32)).1, (F_X10_fails (s2 μ 24 1 (0 : Int32)) (1 : Int32)).2) := by rw [F_X10_accessTime, if_pos h1]
    exact v_Q hQ (v_iret C () trivial (by rw [e1]) (by rw [e1]) (Nat.zero_le _) (Nat.zero_le _) dX10_accessTime_25)
  · refine v_aload_n C 0 rfl dX10_accessTime_12 ?_
    refine v_iload_n C 1 rfl dX10_accessTime_13 ?_
    refine v_cV1 (rest := []) C mv_RX10_96 (m_X10_takes l G E σ (s2 μ 24 1 (0 : Int32)) Y bk hM (isBlock_blk h1)) 24 g_24 rfl rfl rfl rfl (Nat.le_of_ble_eq_true rfl) ⟨Nat.le_of_ble_eq_true rfl, Nat.le_of_ble_eq_true rfl⟩ ⟨rfl, rfl⟩ ⟨Nat.zero_le _, Nat.zero_le _⟩ dX10_accessTime_14 ?_
    refine v_goto (tgt := 25) C (by decide) dX10_accessTime_17 ?_
    have e1 : F_X10_accessTime μ bk = (F_X10_takes (s2 μ 24 1 (0 : Int32)) bk, (s2 μ 24 1 (0 : Int32))) := by rw [F_X10_accessTime, if_neg h1]
    exact v_Q hQ (v_iret C () trivial (by rw [e1]) (by rw [e1]) (Nat.zero_le _) (Nat.zero_le _) dX10_accessTime_25)
def F_X10_moveToSpare (μ : Sg) (bk : Int32) : Int32 × Sg := (if (F_X10_isBlock bk) = 0 then ((F_X10_fails (s2 μ 24 1 (0 : Int32)) (1 : Int32)).1, (F_X10_fails (s2 μ 24 1 (0 : Int32)) (1 : Int32)).2) else (if (F_X10_place (s2 μ 24 1 (0 : Int32)) bk) < (572 : Int32) then (if (μ 25 11) = (4 : Int32) then ((F_X10_fails (s2 μ 24 1 (0 : Int32)) (3 : Int32)).1, (F_X10_fails (s2 μ 24 1 (0 : Int32)) (3 : Int32)).2) else (((572 : Int32) + (((s2 (s2 μ 24 1 (0 : Int32)) 25 ((20 : Int32) + (μ 25 11)).toNatClampNeg bk) 25 11) + (1 : Int32))) - (1 : Int32), (s2 (s2 (s2 μ 24 1 (0 : Int32)) 25 ((20 : Int32) + (μ 25 11)).toNatClampNeg bk) 25 11 (((s2 (s2 μ 24 1 (0 : Int32)) 25 ((20 : Int32) + (μ 25 11)).toNatClampNeg bk) 25 11) + (1 : Int32))))) else ((F_X10_fails (s2 μ 24 1 (0 : Int32)) (2 : Int32)).1, (F_X10_fails (s2 μ 24 1 (0 : Int32)) (2 : Int32)).2)))
abbrev rm_X10_moveToSpare : Room := { frames := 2, cells := 0, slots := 0, locals := 42 }
set_option maxRecDepth 100000 in
set_option maxHeartbeats 4000000 in
theorem m_X10_moveToSpare (l : Launch) (G : GG) (E : EE) (σ μ : Sg) (Y : va_W) (bk : Int32) (hM : MOKg (μ 25)) : KK l G yX10_moveToSpare cX10_moveToSpare 2 (some .int) rm_X10_moveToSpare [.ref (E.1 24), .int bk] (Wd G E σ μ Y) (some (.int (F_X10_moveToSpare μ bk).1)) (Wd G E σ (F_X10_moveToSpare μ bk).2 Y) := by
  refine KE.of (by decide) (Nat.le_of_ble_eq_true rfl) ?_
  intro zp ze zs zm za zb zt zc zA C _
  generalize hQ : MQ zb _ za zs _ _ zA = Q
  show V zp l ze rm_X10_moveToSpare zs zm za zb zt zc 2 G zA 0 0 Q 0 [(0, .ref (E.1 24)), (1, .int bk)] [] (Wd G E σ μ Y)
  refine v_aload_n C 0 rfl dX10_moveToSpare_0 ?_
  refine v_iconst (v := (0 : Int32)) C (by decide) dX10_moveToSpare_1 ?_
  refine v_put C fp_RX10_39 24 g_24 rfl rfl (Nat.le_of_ble_eq_true rfl) (p_24_3 _) dX10_moveToSpare_2 ?_
  refine v_iload_n C 1 rfl dX10_moveToSpare_5 ?_
  refine v_cS1 (rest := []) C ms_RX10_85 (m_X10_isBlock l G E σ (s2 μ 24 1 (0 : Int32)) Y bk) rfl rfl (Nat.le_of_ble_eq_true rfl) ⟨Nat.le_of_ble_eq_true rfl, Nat.le_of_ble_eq_true rfl⟩ ⟨rfl, rfl⟩ ⟨Nat.zero_le _, Nat.zero_le _⟩ dX10_moveToSpare_6 ?_
  refine v_if_ne (tgt := 18) C (by decide) dX10_moveToSpare_9 (fun h1 => ?_) (fun h1 => ?_)
  · refine v_aload_n C 0 rfl dX10_moveToSpare_18 ?_
    refine v_iload_n C 1 rfl dX10_moveToSpare_19 ?_
    refine v_cV1 (rest := []) C mv_RX10_89 (m_X10_place l G E σ (s2 μ 24 1 (0 : Int32)) Y bk hM.1) 24 g_24 rfl rfl rfl rfl (Nat.le_of_ble_eq_true rfl) ⟨Nat.le_of_ble_eq_true rfl, Nat.le_of_ble_eq_true rfl⟩ ⟨rfl, rfl⟩ ⟨Nat.zero_le _, Nat.zero_le _⟩ dX10_moveToSpare_20 ?_
    refine v_sipush (v := (572 : Int32)) C (by decide) dX10_moveToSpare_23 ?_
    refine v_icmp_lt (tgt := 35) C (by decide) dX10_moveToSpare_26 (fun h2 => ?_) (fun h2 => ?_)
    · refine v_aload_n C 0 rfl dX10_moveToSpare_35 ?_
      refine v_get (v := .ref (E.1 25)) C fl_RX10_7 24 g_24 rfl dX10_moveToSpare_36 ?_
      refine v_bipush (v := (11 : Int32)) C (by decide) dX10_moveToSpare_39 ?_
      refine v_iald (v := μ 25 11) C 25 g_25 vi_11_1700 (rdl tn_11 rfl) dX10_moveToSpare_41 ?_
      refine v_iconst (v := (4 : Int32)) C (by decide) dX10_moveToSpare_42 ?_
      refine v_icmp_ne (tgt := 52) C (by decide) dX10_moveToSpare_43 (fun h3 => ?_) (fun h3 => ?_)
      · refine v_aload_n C 0 rfl dX10_moveToSpare_52 ?_
        refine v_get (v := .ref (E.1 25)) C fl_RX10_7 24 g_24 rfl dX10_moveToSpare_53 ?_
        refine v_bipush (v := (20 : Int32)) C (by decide) dX10_moveToSpare_56 ?_
        refine v_aload_n C 0 rfl dX10_moveToSpare_58 ?_
        refine v_get (v := .ref (E.1 25)) C fl_RX10_7 24 g_24 rfl dX10_moveToSpare_59 ?_
        refine v_bipush (v := (11 : Int32)) C (by decide) dX10_moveToSpare_62 ?_
        refine v_iald (v := μ 25 11) C 25 g_25 vi_11_1700 (rdl tn_11 rfl) dX10_moveToSpare_64 ?_
        refine v_iadd C dX10_moveToSpare_65 ?_
        refine v_iload_n C 1 rfl dX10_moveToSpare_66 ?_
        refine v_iast (ws' := Wd G E σ (s2 (s2 μ 24 1 (0 : Int32)) 25 ((20 : Int32) + (μ 25 11)).toNatClampNeg bk) Y) C 25 g_25 (by obtain ⟨m, hm, em⟩ := hM.1; exact vi_add 20 em (by omega) (by decide)) (p_25 _ _) dX10_moveToSpare_67 ?_
        refine v_aload_n C 0 rfl dX10_moveToSpare_68 ?_
        refine v_get (v := .ref (E.1 25)) C fl_RX10_7 24 g_24 rfl dX10_moveToSpare_69 ?_
        refine v_bipush (v := (11 : Int32)) C (by decide) dX10_moveToSpare_72 ?_
        refine v_dup2 C rfl rfl dX10_moveToSpare_74 ?_
        refine v_iald (v := (s2 (s2 μ 24 1 (0 : Int32)) 25 ((20 : Int32) + (μ 25 11)).toNatClampNeg bk) 25 11) C 25 g_25 vi_11_1700 (rdl tn_11 rfl) dX10_moveToSpare_75 ?_
        refine v_iconst (v := (1 : Int32)) C (by decide) dX10_moveToSpare_76 ?_
        refine v_iadd C dX10_moveToSpare_77 ?_
        refine v_iast (ws' := Wd G E σ (s2 (s2 (s2 μ 24 1 (0 : Int32)) 25 ((20 : Int32) + (μ 25 11)).toNatClampNeg bk) 25 11 (((s2 (s2 μ 24 1 (0 : Int32)) 25 ((20 : Int32) + (μ 25 11)).toNatClampNeg bk) 25 11) + (1 : Int32))) Y) C 25 g_25 vi_11_1700 ((p_25 _ _).trans (by rw [tn_11])) dX10_moveToSpare_78 ?_
        refine v_sipush (v := (572 : Int32)) C (by decide) dX10_moveToSpare_79 ?_
        refine v_aload_n C 0 rfl dX10_moveToSpare_82 ?_
        refine v_get (v := .ref (E.1 25)) C fl_RX10_7 24 g_24 rfl dX10_moveToSpare_83 ?_
        refine v_bipush (v := (11 : Int32)) C (by decide) dX10_moveToSpare_86 ?_
        refine v_iald (v := ((s2 (s2 μ 24 1 (0 : Int32)) 25 ((20 : Int32) + (μ 25 11)).toNatClampNeg bk) 25 11) + (1 : Int32)) C 25 g_25 vi_11_1700 (rdl tn_11 rfl) dX10_moveToSpare_88 ?_
        refine v_iadd C dX10_moveToSpare_89 ?_
        refine v_iconst (v := (1 : Int32)) C (by decide) dX10_moveToSpare_90 ?_
        refine v_isub C dX10_moveToSpare_91 ?_
        have e1 : F_X10_moveToSpare μ bk = (((572 : Int32) + (((s2 (s2 μ 24 1 (0 : Int32)) 25 ((20 : Int32) + (μ 25 11)).toNatClampNeg bk) 25 11) + (1 : Int32))) - (1 : Int32), (s2 (s2 (s2 μ 24 1 (0 : Int32)) 25 ((20 : Int32) + (μ 25 11)).toNatClampNeg bk) 25 11 (((s2 (s2 μ 24 1 (0 : Int32)) 25 ((20 : Int32) + (μ 25 11)).toNatClampNeg bk) 25 11) + (1 : Int32)))) := by rw [F_X10_moveToSpare, if_neg h1, if_pos h2, if_neg h3]
        exact v_Q hQ (v_iret C () trivial (by rw [e1]) (by rw [e1]) (Nat.zero_le _) (Nat.zero_le _) dX10_moveToSpare_92)
      · refine v_aload_n C 0 rfl dX10_moveToSpare_46 ?_
        refine v_iconst (v := (3 : Int32)) C (by decide) dX10_moveToSpare_47 ?_
        refine v_cV1 (rest := []) C mv_RX10_78 (m_X10_fails l G E σ (s2 μ 24 1 (0 : Int32)) Y (3 : Int32)) 24 g_24 rfl rfl rfl rfl (Nat.le_of_ble_eq_true rfl) ⟨Nat.le_of_ble_eq_true rfl, Nat.le_of_ble_eq_true rfl⟩ ⟨rfl, rfl⟩ ⟨Nat.zero_le _, Nat.zero_le _⟩ dX10_moveToSpare_48 ?_
        have e1 : F_X10_moveToSpare μ bk = ((F_X10_fails (s2 μ 24 1 (0 : Int32)) (3 : Int32)).1, (F_X10_fails (s2 μ 24 1 (0 : Int32)) (3 : Int32)).2) := by rw [F_X10_moveToSpare, if_neg h1, if_pos h2, if_pos h3]
        exact v_Q hQ (v_iret C () trivial (by rw [e1]) (by rw [e1]) (Nat.zero_le _) (Nat.zero_le _) dX10_moveToSpare_51)
    · refine v_aload_n C 0 rfl dX10_moveToSpare_29 ?_
      refine v_iconst (v := (2 : Int32)) C (by decide) dX10_moveToSpare_30 ?_
      refine v_cV1 (rest := []) C mv_RX10_78 (m_X10_fails l G E σ (s2 μ 24 1 (0 : Int32)) Y (2 : Int32)) 24 g_24 rfl rfl rfl rfl (Nat.le_of_ble_eq_true rfl) ⟨Nat.le_of_ble_eq_true rfl, Nat.le_of_ble_eq_true rfl⟩ ⟨rfl, rfl⟩ ⟨Nat.zero_le _, Nat.zero_le _⟩ dX10_moveToSpare_31 ?_
      have e1 : F_X10_moveToSpare μ bk = ((F_X10_fails (s2 μ 24 1 (0 : Int32)) (2 : Int32)).1, (F_X10_fails (s2 μ 24 1 (0 : Int32)) (2 : Int32)).2) := by rw [F_X10_moveToSpare, if_neg h1, if_neg h2]
      exact v_Q hQ (v_iret C () trivial (by rw [e1]) (by rw [e1]) (Nat.zero_le _) (Nat.zero_le _) dX10_moveToSpare_34)
  · refine v_aload_n C 0 rfl dX10_moveToSpare_12 ?_
    refine v_iconst (v := (1 : Int32)) C (by decide) dX10_moveToSpare_13 ?_
    refine v_cV1 (rest := []) C mv_RX10_78 (m_X10_fails l G E σ (s2 μ 24 1 (0 : Int32)) Y (1 : Int32)) 24 g_24 rfl rfl rfl rfl (Nat.le_of_ble_eq_true rfl) ⟨Nat.le_of_ble_eq_true rfl, Nat.le_of_ble_eq_true rfl⟩ ⟨rfl, rfl⟩ ⟨Nat.zero_le _, Nat.zero_le _⟩ dX10_moveToSpare_14 ?_
    have e1 : F_X10_moveToSpare μ bk = ((F_X10_fails (s2 μ 24 1 (0 : Int32)) (1 : Int32)).1, (F_X10_fails (s2 μ 24 1 (0 : Int32)) (1 : Int32)).2) := by rw [F_X10_moveToSpare, if_pos h1]
    exact v_Q hQ (v_iret C () trivial (by rw [e1]) (by rw [e1]) (Nat.zero_le _) (Nat.zero_le _) dX10_moveToSpare_17)
def F_X10_accessesOf (μ : Sg) (bk : Int32) : Int32 × Sg := (if (F_X10_isBlock bk) = 0 then ((F_X10_fails (s2 μ 24 1 (0 : Int32)) (1 : Int32)).1, (F_X10_fails (s2 μ 24 1 (0 : Int32)) (1 : Int32)).2) else (μ 25 ((1100 : Int32) + (F_X10_place (s2 μ 24 1 (0 : Int32)) bk)).toNatClampNeg, (s2 μ 24 1 (0 : Int32))))
abbrev rm_X10_accessesOf : Room := { frames := 2, cells := 0, slots := 0, locals := 42 }
set_option maxRecDepth 100000 in
set_option maxHeartbeats 4000000 in
theorem m_X10_accessesOf (l : Launch) (G : GG) (E : EE) (σ μ : Sg) (Y : va_W) (bk : Int32) (hM : MOKg (μ 25)) : KK l G yX10_accessesOf cX10_accessesOf 2 (some .int) rm_X10_accessesOf [.ref (E.1 24), .int bk] (Wd G E σ μ Y) (some (.int (F_X10_accessesOf μ bk).1)) (Wd G E σ (F_X10_accessesOf μ bk).2 Y) := by
  refine KE.of (by decide) (Nat.le_of_ble_eq_true rfl) ?_
  intro zp ze zs zm za zb zt zc zA C _
  generalize hQ : MQ zb _ za zs _ _ zA = Q
  show V zp l ze rm_X10_accessesOf zs zm za zb zt zc 2 G zA 0 0 Q 0 [(0, .ref (E.1 24)), (1, .int bk)] [] (Wd G E σ μ Y)
  refine v_aload_n C 0 rfl dX10_accessesOf_0 ?_
  refine v_iconst (v := (0 : Int32)) C (by decide) dX10_accessesOf_1 ?_
  refine v_put C fp_RX10_39 24 g_24 rfl rfl (Nat.le_of_ble_eq_true rfl) (p_24_3 _) dX10_accessesOf_2 ?_
  refine v_iload_n C 1 rfl dX10_accessesOf_5 ?_
  refine v_cS1 (rest := []) C ms_RX10_85 (m_X10_isBlock l G E σ (s2 μ 24 1 (0 : Int32)) Y bk) rfl rfl (Nat.le_of_ble_eq_true rfl) ⟨Nat.le_of_ble_eq_true rfl, Nat.le_of_ble_eq_true rfl⟩ ⟨rfl, rfl⟩ ⟨Nat.zero_le _, Nat.zero_le _⟩ dX10_accessesOf_6 ?_
  refine v_if_eq (tgt := 29) C (by decide) dX10_accessesOf_9 (fun h1 => ?_) (fun h1 => ?_)
  · refine v_aload_n C 0 rfl dX10_accessesOf_29 ?_
    refine v_iconst (v := (1 : Int32)) C (by decide) dX10_accessesOf_30 ?_
    refine v_cV1 (rest := []) C mv_RX10_78 (m_X10_fails l G E σ (s2 μ 24 1 (0 : Int32)) Y (1 : Int32)) 24 g_24 rfl rfl rfl rfl (Nat.le_of_ble_eq_true rfl) ⟨Nat.le_of_ble_eq_true rfl, Nat.le_of_ble_eq_true rfl⟩ ⟨rfl, rfl⟩ ⟨Nat.zero_le _, Nat.zero_le _⟩ dX10_accessesOf_31 ?_
    have e1 : F_X10_accessesOf μ bk = ((F_X10_fails (s2 μ 24 1 (0 : Int32)) (1 : Int32)).1, (F_X10_fails (s2 μ 24 1 (0 : Int32)) (1 : Int32)).2) := by rw [F_X10_accessesOf, if_pos h1]
    exact v_Q hQ (v_iret C () trivial (by rw [e1]) (by rw [e1]) (Nat.zero_le _) (Nat.zero_le _) dX10_accessesOf_34)
  · refine v_aload_n C 0 rfl dX10_accessesOf_12 ?_
    refine v_get (v := .ref (E.1 25)) C fl_RX10_7 24 g_24 rfl dX10_accessesOf_13 ?_
    refine v_sipush (v := (1100 : Int32)) C (by decide) dX10_accessesOf_16 ?_
    refine v_aload_n C 0 rfl dX10_accessesOf_19 ?_
    refine v_iload_n C 1 rfl dX10_accessesOf_20 ?_
    refine v_cV1 (rest := [.int (1100 : Int32), .ref (E.1 25)]) C mv_RX10_89 (m_X10_place l G E σ (s2 μ 24 1 (0 : Int32)) Y bk hM.1) 24 g_24 rfl rfl rfl rfl (Nat.le_of_ble_eq_true rfl) ⟨Nat.le_of_ble_eq_true rfl, Nat.le_of_ble_eq_true rfl⟩ ⟨rfl, rfl⟩ ⟨Nat.zero_le _, Nat.zero_le _⟩ dX10_accessesOf_21 ?_
    refine v_iadd C dX10_accessesOf_24 ?_
    refine v_iald (v := μ 25 ((1100 : Int32) + (F_X10_place (s2 μ 24 1 (0 : Int32)) bk)).toNatClampNeg) C 25 g_25 (by obtain ⟨q, hq, eq⟩ := place_plc (μ := s2 μ 24 1 0) hM.1 (isBlock_blk h1); exact vi_add 1100 eq (by omega) (by decide)) rfl dX10_accessesOf_25 ?_
    refine v_goto (tgt := 34) C (by decide) dX10_accessesOf_26 ?_
    have e1 : F_X10_accessesOf μ bk = (μ 25 ((1100 : Int32) + (F_X10_place (s2 μ 24 1 (0 : Int32)) bk)).toNatClampNeg, (s2 μ 24 1 (0 : Int32))) := by rw [F_X10_accessesOf, if_neg h1]
    exact v_Q hQ (v_iret C () trivial (by rw [e1]) (by rw [e1]) (Nat.zero_le _) (Nat.zero_le _) dX10_accessesOf_34)
def F_X10_clock (μ : Sg) : Int32 × Sg := (μ 25 8, (s2 μ 24 1 (0 : Int32)))
abbrev rm_X10_clock : Room := { frames := 0, cells := 0, slots := 0, locals := 0 }
set_option maxRecDepth 100000 in
set_option maxHeartbeats 4000000 in
theorem m_X10_clock (l : Launch) (G : GG) (E : EE) (σ μ : Sg) (Y : va_W) : KK l G yX10_clock cX10_clock 1 (some .int) rm_X10_clock [.ref (E.1 24)] (Wd G E σ μ Y) (some (.int (F_X10_clock μ).1)) (Wd G E σ (F_X10_clock μ).2 Y) := by
  refine KE.of (by decide) (Nat.le_of_ble_eq_true rfl) ?_
  intro zp ze zs zm za zb zt zc zA C _
  generalize hQ : MQ zb _ za zs _ _ zA = Q
  show V zp l ze rm_X10_clock zs zm za zb zt zc 1 G zA 0 0 Q 0 [(0, .ref (E.1 24))] [] (Wd G E σ μ Y)
  refine v_aload_n C 0 rfl dX10_clock_0 ?_
  refine v_iconst (v := (0 : Int32)) C (by decide) dX10_clock_1 ?_
  refine v_put C fp_RX10_39 24 g_24 rfl rfl (Nat.le_of_ble_eq_true rfl) (p_24_3 _) dX10_clock_2 ?_
  refine v_aload_n C 0 rfl dX10_clock_5 ?_
  refine v_get (v := .ref (E.1 25)) C fl_RX10_7 24 g_24 rfl dX10_clock_6 ?_
  refine v_bipush (v := (8 : Int32)) C (by decide) dX10_clock_9 ?_
  refine v_iald (v := μ 25 8) C 25 g_25 vi_8_1700 (rdl tn_8 rfl) dX10_clock_11 ?_
  have e1 : F_X10_clock μ = (μ 25 8, (s2 μ 24 1 (0 : Int32))) := by rw [F_X10_clock]
  exact v_Q hQ (v_iret C () trivial (by rw [e1]) (by rw [e1]) (Nat.zero_le _) (Nat.zero_le _) dX10_clock_12)
def F_X10_arm (μ : Sg) : Int32 × Sg := (μ 25 9, (s2 μ 24 1 (0 : Int32)))
abbrev rm_X10_arm : Room := { frames := 0, cells := 0, slots := 0, locals := 0 }
set_option maxRecDepth 100000 in
set_option maxHeartbeats 4000000 in
theorem m_X10_arm (l : Launch) (G : GG) (E : EE) (σ μ : Sg) (Y : va_W) : KK l G yX10_arm cX10_arm 1 (some .int) rm_X10_arm [.ref (E.1 24)] (Wd G E σ μ Y) (some (.int (F_X10_arm μ).1)) (Wd G E σ (F_X10_arm μ).2 Y) := by
  refine KE.of (by decide) (Nat.le_of_ble_eq_true rfl) ?_
  intro zp ze zs zm za zb zt zc zA C _
  generalize hQ : MQ zb _ za zs _ _ zA = Q
  show V zp l ze rm_X10_arm zs zm za zb zt zc 1 G zA 0 0 Q 0 [(0, .ref (E.1 24))] [] (Wd G E σ μ Y)
  refine v_aload_n C 0 rfl dX10_arm_0 ?_
  refine v_iconst (v := (0 : Int32)) C (by decide) dX10_arm_1 ?_
  refine v_put C fp_RX10_39 24 g_24 rfl rfl (Nat.le_of_ble_eq_true rfl) (p_24_3 _) dX10_arm_2 ?_
  refine v_aload_n C 0 rfl dX10_arm_5 ?_
  refine v_get (v := .ref (E.1 25)) C fl_RX10_7 24 g_24 rfl dX10_arm_6 ?_
  refine v_bipush (v := (9 : Int32)) C (by decide) dX10_arm_9 ?_
  refine v_iald (v := μ 25 9) C 25 g_25 vi_9_1700 (rdl tn_9 rfl) dX10_arm_11 ?_
  have e1 : F_X10_arm μ = (μ 25 9, (s2 μ 24 1 (0 : Int32))) := by rw [F_X10_arm]
  exact v_Q hQ (v_iret C () trivial (by rw [e1]) (by rw [e1]) (Nat.zero_le _) (Nat.zero_le _) dX10_arm_12)
def F_X10_isUpward (μ : Sg) : Int32 × Sg := (if (μ 25 10) = (1 : Int32) then ((1 : Int32), (s2 μ 24 1 (0 : Int32))) else ((0 : Int32), (s2 μ 24 1 (0 : Int32))))
theorem z01_X10_isUpward (μ : Sg) : (F_X10_isUpward μ).1 = 0 ∨ (F_X10_isUpward μ).1 = 1 := by
  unfold F_X10_isUpward; (repeat' split) <;> first | exact Or.inl rfl | exact Or.inr rfl
abbrev rm_X10_isUpward : Room := { frames := 0, cells := 0, slots := 0, locals := 0 }
theorem tn_10 : (10 : Int32).toNatClampNeg = 10 := by decide
theorem vi_10_1700 : vp_in (10 : Int32) 1700 := vp_lit tn_10 (by decide) (by decide)
set_option maxRecDepth 100000 in
set_option maxHeartbeats 4000000 in
theorem m_X10_isUpward (l : Launch) (G : GG) (E : EE) (σ μ : Sg) (Y : va_W) : KK l G yX10_isUpward cX10_isUpward 1 (some .boolean) rm_X10_isUpward [.ref (E.1 24)] (Wd G E σ μ Y) (some (.int (F_X10_isUpward μ).1)) (Wd G E σ (F_X10_isUpward μ).2 Y) := by
  refine KE.of (by decide) (Nat.le_of_ble_eq_true rfl) ?_
  intro zp ze zs zm za zb zt zc zA C _
  generalize hQ : MQ zb _ za zs _ _ zA = Q
  show V zp l ze rm_X10_isUpward zs zm za zb zt zc 1 G zA 0 0 Q 0 [(0, .ref (E.1 24))] [] (Wd G E σ μ Y)
  refine v_aload_n C 0 rfl dX10_isUpward_0 ?_
  refine v_iconst (v := (0 : Int32)) C (by decide) dX10_isUpward_1 ?_
  refine v_put C fp_RX10_39 24 g_24 rfl rfl (Nat.le_of_ble_eq_true rfl) (p_24_3 _) dX10_isUpward_2 ?_
  refine v_aload_n C 0 rfl dX10_isUpward_5 ?_
  refine v_get (v := .ref (E.1 25)) C fl_RX10_7 24 g_24 rfl dX10_isUpward_6 ?_
  refine v_bipush (v := (10 : Int32)) C (by decide) dX10_isUpward_9 ?_
  refine v_iald (v := μ 25 10) C 25 g_25 vi_10_1700 (rdl tn_10 rfl) dX10_isUpward_11 ?_
  refine v_iconst (v := (1 : Int32)) C (by decide) dX10_isUpward_12 ?_
  refine v_icmp_ne (tgt := 20) C (by decide) dX10_isUpward_13 (fun h1 => ?_) (fun h1 => ?_)
  · refine v_iconst (v := (0 : Int32)) C (by decide) dX10_isUpward_20 ?_
    have e1 : F_X10_isUpward μ = ((0 : Int32), (s2 μ 24 1 (0 : Int32))) := by rw [F_X10_isUpward, if_neg h1]
    exact v_Q hQ (v_zret C rfl () trivial (by rw [e1]) (by rw [e1]) (Nat.zero_le _) (Nat.zero_le _) dX10_isUpward_21)
  · refine v_iconst (v := (1 : Int32)) C (by decide) dX10_isUpward_16 ?_
    refine v_goto (tgt := 21) C (by decide) dX10_isUpward_17 ?_
    have e1 : F_X10_isUpward μ = ((1 : Int32), (s2 μ 24 1 (0 : Int32))) := by rw [F_X10_isUpward, if_pos h1]
    exact v_Q hQ (v_zret C rfl () trivial (by rw [e1]) (by rw [e1]) (Nat.zero_le _) (Nat.zero_le _) dX10_isUpward_21)
def F_X10_idle (μ : Sg) (t : Int32) : Int32 × Sg := (if (F_X10_in t (1 : Int32) (1000 : Int32)) = 0 then ((F_X10_fails (s2 μ 24 1 (0 : Int32)) (1 : Int32)).1, (F_X10_fails (s2 μ 24 1 (0 : Int32)) (1 : Int32)).2) else (if ((μ 25 8) + t) ≤ (100000 : Int32) then ((μ 25 8) + t, (s2 (s2 μ 24 1 (0 : Int32)) 25 8 ((μ 25 8) + t))) else ((F_X10_fails (s2 μ 24 1 (0 : Int32)) (2 : Int32)).1, (F_X10_fails (s2 μ 24 1 (0 : Int32)) (2 : Int32)).2)))
abbrev rm_X10_idle : Room := { frames := 1, cells := 0, slots := 0, locals := 22 }
set_option maxRecDepth 100000 in
set_option maxHeartbeats 4000000 in
theorem m_X10_idle (l : Launch) (G : GG) (E : EE) (σ μ : Sg) (Y : va_W) (t : Int32) : KK l G yX10_idle cX10_idle 2 (some .int) rm_X10_idle [.ref (E.1 24), .int t] (Wd G E σ μ Y) (some (.int (F_X10_idle μ t).1)) (Wd G E σ (F_X10_idle μ t).2 Y) := by
  refine KE.of (by decide) (Nat.le_of_ble_eq_true rfl) ?_
  intro zp ze zs zm za zb zt zc zA C _
  generalize hQ : MQ zb _ za zs _ _ zA = Q
  show V zp l ze rm_X10_idle zs zm za zb zt zc 2 G zA 0 0 Q 0 [(0, .ref (E.1 24)), (1, .int t)] [] (Wd G E σ μ Y)
  refine v_aload_n C 0 rfl dX10_idle_0 ?_
  refine v_iconst (v := (0 : Int32)) C (by decide) dX10_idle_1 ?_
  refine v_put C fp_RX10_39 24 g_24 rfl rfl (Nat.le_of_ble_eq_true rfl) (p_24_3 _) dX10_idle_2 ?_
  refine v_iload_n C 1 rfl dX10_idle_5 ?_
  refine v_iconst (v := (1 : Int32)) C (by decide) dX10_idle_6 ?_
  refine v_sipush (v := (1000 : Int32)) C (by decide) dX10_idle_7 ?_
  refine v_cS1 (rest := []) C ms_RX10_42 (m_X10_in l G E σ (s2 μ 24 1 (0 : Int32)) Y t (1 : Int32) (1000 : Int32)) rfl rfl (Nat.le_of_ble_eq_true rfl) ⟨Nat.le_of_ble_eq_true rfl, Nat.le_of_ble_eq_true rfl⟩ ⟨rfl, rfl⟩ ⟨Nat.zero_le _, Nat.zero_le _⟩ dX10_idle_10 ?_
  refine v_if_ne (tgt := 22) C (by decide) dX10_idle_13 (fun h1 => ?_) (fun h1 => ?_)
  · refine v_aload_n C 0 rfl dX10_idle_22 ?_
    refine v_get (v := .ref (E.1 25)) C fl_RX10_7 24 g_24 rfl dX10_idle_23 ?_
    refine v_bipush (v := (8 : Int32)) C (by decide) dX10_idle_26 ?_
    refine v_iald (v := μ 25 8) C 25 g_25 vi_8_1700 (rdl tn_8 rfl) dX10_idle_28 ?_
    refine v_iload_n C 1 rfl dX10_idle_29 ?_
    refine v_iadd C dX10_idle_30 ?_
    refine v_ldc (v := (100000 : Int32)) C w_1351 dX10_idle_31 ?_
    refine v_icmp_le (tgt := 42) C (by decide) dX10_idle_33 (fun h2 => ?_) (fun h2 => ?_)
    · refine v_aload_n C 0 rfl dX10_idle_42 ?_
      refine v_get (v := .ref (E.1 25)) C fl_RX10_7 24 g_24 rfl dX10_idle_43 ?_
      refine v_bipush (v := (8 : Int32)) C (by decide) dX10_idle_46 ?_
      refine v_dup2 C rfl rfl dX10_idle_48 ?_
      refine v_iald (v := μ 25 8) C 25 g_25 vi_8_1700 (rdl tn_8 rfl) dX10_idle_49 ?_
      refine v_iload_n C 1 rfl dX10_idle_50 ?_
      refine v_iadd C dX10_idle_51 ?_
      refine v_iast (ws' := Wd G E σ (s2 (s2 μ 24 1 (0 : Int32)) 25 8 ((μ 25 8) + t)) Y) C 25 g_25 vi_8_1700 ((p_25 _ _).trans (by rw [tn_8])) dX10_idle_52 ?_
      refine v_aload_n C 0 rfl dX10_idle_53 ?_
      refine v_get (v := .ref (E.1 25)) C fl_RX10_7 24 g_24 rfl dX10_idle_54 ?_
      refine v_bipush (v := (8 : Int32)) C (by decide) dX10_idle_57 ?_
      refine v_iald (v := (μ 25 8) + t) C 25 g_25 vi_8_1700 (rdl tn_8 rfl) dX10_idle_59 ?_
      have e1 : F_X10_idle μ t = ((μ 25 8) + t, (s2 (s2 μ 24 1 (0 : Int32)) 25 8 ((μ 25 8) + t))) := by rw [F_X10_idle, if_neg h1, if_pos h2]
      exact v_Q hQ (v_iret C () trivial (by rw [e1]) (by rw [e1]) (Nat.zero_le _) (Nat.zero_le _) dX10_idle_60)
    · refine v_aload_n C 0 rfl dX10_idle_36 ?_
      refine v_iconst (v := (2 : Int32)) C (by decide) dX10_idle_37 ?_
      refine v_cV1 (rest := []) C mv_RX10_78 (m_X10_fails l G E σ (s2 μ 24 1 (0 : Int32)) Y (2 : Int32)) 24 g_24 rfl rfl rfl rfl (Nat.le_of_ble_eq_true rfl) ⟨Nat.le_of_ble_eq_true rfl, Nat.le_of_ble_eq_true rfl⟩ ⟨rfl, rfl⟩ ⟨Nat.zero_le _, Nat.zero_le _⟩ dX10_idle_38 ?_
      have e1 : F_X10_idle μ t = ((F_X10_fails (s2 μ 24 1 (0 : Int32)) (2 : Int32)).1, (F_X10_fails (s2 μ 24 1 (0 : Int32)) (2 : Int32)).2) := by rw [F_X10_idle, if_neg h1, if_neg h2]
      exact v_Q hQ (v_iret C () trivial (by rw [e1]) (by rw [e1]) (Nat.zero_le _) (Nat.zero_le _) dX10_idle_41)
  · refine v_aload_n C 0 rfl dX10_idle_16 ?_
    refine v_iconst (v := (1 : Int32)) C (by decide) dX10_idle_17 ?_
    refine v_cV1 (rest := []) C mv_RX10_78 (m_X10_fails l G E σ (s2 μ 24 1 (0 : Int32)) Y (1 : Int32)) 24 g_24 rfl rfl rfl rfl (Nat.le_of_ble_eq_true rfl) ⟨Nat.le_of_ble_eq_true rfl, Nat.le_of_ble_eq_true rfl⟩ ⟨rfl, rfl⟩ ⟨Nat.zero_le _, Nat.zero_le _⟩ dX10_idle_18 ?_
    have e1 : F_X10_idle μ t = ((F_X10_fails (s2 μ 24 1 (0 : Int32)) (1 : Int32)).1, (F_X10_fails (s2 μ 24 1 (0 : Int32)) (1 : Int32)).2) := by rw [F_X10_idle, if_pos h1]
    exact v_Q hQ (v_iret C () trivial (by rw [e1]) (by rw [e1]) (Nat.zero_le _) (Nat.zero_le _) dX10_idle_21)
def F_X10_isPending (μ : Sg) (r : Int32) : Int32 := (if (μ 25 ((350 : Int32) + r).toNatClampNeg) = 0 then (1 : Int32) else (0 : Int32))
theorem z01_X10_isPending (μ : Sg) (r : Int32) : F_X10_isPending μ r = 0 ∨ F_X10_isPending μ r = 1 := by
  unfold F_X10_isPending; (repeat' split) <;> first | exact Or.inl rfl | exact Or.inr rfl
abbrev rm_X10_isPending : Room := { frames := 0, cells := 0, slots := 0, locals := 0 }
set_option maxRecDepth 100000 in
set_option maxHeartbeats 4000000 in
theorem m_X10_isPending (l : Launch) (G : GG) (E : EE) (σ μ : Sg) (Y : va_W) (r : Int32) (hr : rq r) : KK l G yX10_isPending cX10_isPending 2 (some .boolean) rm_X10_isPending [.ref (E.1 24), .int r] (Wd G E σ μ Y) (some (.int (F_X10_isPending μ r))) (Wd G E σ μ Y) := by
  refine KE.of (by decide) (Nat.le_of_ble_eq_true rfl) ?_
  intro zp ze zs zm za zb zt zc zA C _
  generalize hQ : MQ zb _ za zs _ _ zA = Q
  show V zp l ze rm_X10_isPending zs zm za zb zt zc 2 G zA 0 0 Q 0 [(0, .ref (E.1 24)), (1, .int r)] [] (Wd G E σ μ Y)
  refine v_aload_n C 0 rfl dX10_isPending_0 ?_
  refine v_get (v := .ref (E.1 25)) C fl_RX10_7 24 g_24 rfl dX10_isPending_1 ?_
  refine v_sipush (v := (350 : Int32)) C (by decide) dX10_isPending_4 ?_
  refine v_iload_n C 1 rfl dX10_isPending_7 ?_
  refine v_iadd C dX10_isPending_8 ?_
  refine v_iald (v := μ 25 ((350 : Int32) + r).toNatClampNeg) C 25 g_25 (by obtain ⟨j, hj, ej⟩ := hr; exact vi_add 350 ej (by omega) (by decide)) rfl dX10_isPending_9 ?_
  refine v_if_ne (tgt := 17) C (by decide) dX10_isPending_10 (fun h1 => ?_) (fun h1 => ?_)
  · refine v_iconst (v := (0 : Int32)) C (by decide) dX10_isPending_17 ?_
    have e1 : F_X10_isPending μ r = (0 : Int32) := by rw [F_X10_isPending, if_neg h1]
    exact v_Q hQ (v_zret C rfl () trivial (by rw [e1]) rfl (Nat.zero_le _) (Nat.zero_le _) dX10_isPending_18)
  · refine v_iconst (v := (1 : Int32)) C (by decide) dX10_isPending_13 ?_
    refine v_goto (tgt := 18) C (by decide) dX10_isPending_14 ?_
    have e1 : F_X10_isPending μ r = (1 : Int32) := by rw [F_X10_isPending, if_pos h1]
    exact v_Q hQ (v_zret C rfl () trivial (by rw [e1]) rfl (Nat.zero_le _) (Nat.zero_le _) dX10_isPending_18)
def L_X10_pending_4 (μ : Sg) : Nat → Int32 → Int32 → Int32
  | 0, _, _ => 0
  | n + 1, y, x => (if (μ 25 12) ≤ x then y else (if (F_X10_isPending μ x) = 0 then L_X10_pending_4 μ n (y + (0 : Int32)) (x + (1 : Int32)) else L_X10_pending_4 μ n (y + (1 : Int32)) (x + (1 : Int32))))
def F_X10_pending (μ : Sg) : Int32 := L_X10_pending_4 μ 81 (0 : Int32) (0 : Int32)
abbrev rm_X10_pending : Room := { frames := 1, cells := 0, slots := 0, locals := 21 }
set_option maxRecDepth 100000 in
set_option maxHeartbeats 4000000 in
theorem m_X10_pending (l : Launch) (G : GG) (E : EE) (σ μ : Sg) (Y : va_W) (hS : ∃ m : Nat, m ≤ 80 ∧ μ 25 12 = nI m) : KK l G yX10_pending cX10_pending 3 (some .int) rm_X10_pending [.ref (E.1 24)] (Wd G E σ μ Y) (some (.int (F_X10_pending μ))) (Wd G E σ μ Y) := by
  refine KE.of (by decide) (Nat.le_of_ble_eq_true rfl) ?_
  intro zp ze zs zm za zb zt zc zA C _
  generalize hQ : MQ zb _ za zs _ _ zA = Q
  have loop_4 : ∀ (n : Nat) (y : Int32) (x : Int32), (∃ j : Nat, x = nI j ∧ j ≤ 80 ∧ j + n = 81) → F_X10_pending μ = L_X10_pending_4 μ n y x → V zp l ze rm_X10_pending zs zm za zb zt zc 3 G zA 0 0 Q 4 [(0, .ref (E.1 24)), (1, .int y), (2, .int x)] [] (Wd G E σ μ Y) := by
    intro n
    induction n with
    | zero =>
      intro y x hI hL
      exact False.elim (by obtain ⟨j, _, h4, hn⟩ := hI; omega)
    | succ n ih =>
      intro y x hI hL
      obtain ⟨j, ej, h4, hn⟩ := hI
      obtain ⟨mm, hm, em⟩ := hS
      refine v_iload_n C 2 rfl dX10_pending_4 ?_
      refine v_aload_n C 0 rfl dX10_pending_5 ?_
      refine v_get (v := .ref (E.1 25)) C fl_RX10_7 24 g_24 rfl dX10_pending_6 ?_
      refine v_bipush (v := (12 : Int32)) C (by decide) dX10_pending_9 ?_
      refine v_iald (v := μ 25 12) C 25 g_25 vi_12_1700 (rdl tn_12 rfl) dX10_pending_11 ?_
      refine v_icmp_ge (tgt := 37) C (by decide) dX10_pending_12 (fun h1 => ?_) (fun h1 => ?_)
      · refine v_iload_n C 1 rfl dX10_pending_37 ?_
        have e1 : F_X10_pending μ = y := by rw [hL, L_X10_pending_4, if_pos h1]
        exact v_Q hQ (v_iret C () trivial (by rw [e1]) rfl (Nat.zero_le _) (Nat.zero_le _) dX10_pending_38)
      · refine v_iload_n C 1 rfl dX10_pending_15 ?_
        refine v_aload_n C 0 rfl dX10_pending_16 ?_
        refine v_iload_n C 2 rfl dX10_pending_17 ?_
        refine v_cV1 (rest := [.int y]) C mv_RX10_100 (m_X10_isPending l G E σ μ Y x (by have q := gt_of_nle em ej (by omega) (by omega) h1; exact ⟨j, by omega, ej⟩)) 24 g_24 rfl rfl rfl rfl (Nat.le_of_ble_eq_true rfl) ⟨Nat.le_of_ble_eq_true rfl, Nat.le_of_ble_eq_true rfl⟩ ⟨rfl, rfl⟩ ⟨Nat.zero_le _, Nat.zero_le _⟩ dX10_pending_18 ?_
        refine v_if_eq (tgt := 28) C (by decide) dX10_pending_21 (fun h2 => ?_) (fun h2 => ?_)
        · refine v_iconst (v := (0 : Int32)) C (by decide) dX10_pending_28 ?_
          refine v_iadd C dX10_pending_29 ?_
          refine v_istore_n (lv' := [(1, .int (y + (0 : Int32))), (0, .ref (E.1 24)), (2, .int x)]) C (Nat.le_of_ble_eq_true rfl) rfl dX10_pending_30 ?_
          refine v_iinc (v := x + (1 : Int32)) (lv' := [(2, .int (x + (1 : Int32))), (1, .int (y + (0 : Int32))), (0, .ref (E.1 24))]) C 2 rfl rfl (Nat.le_of_ble_eq_true rfl) rfl dX10_pending_31 ?_
          refine v_goto (tgt := 4) C (by decide) dX10_pending_34 ?_
          refine v_lv [2, 1, 0] rfl ?_
          exact ih (y + (0 : Int32)) (x + (1 : Int32)) (by have q := gt_of_nle em ej (by omega) (by omega) h1; exact ⟨j + 1, by rw [ej]; exact nI_1 j, by omega, by omega⟩) (by rw [hL, L_X10_pending_4, if_neg h1, if_pos h2])
        · refine v_iconst (v := (1 : Int32)) C (by decide) dX10_pending_24 ?_
          refine v_goto (tgt := 29) C (by decide) dX10_pending_25 ?_
          refine v_iadd C dX10_pending_29 ?_
          refine v_istore_n (lv' := [(1, .int (y + (1 : Int32))), (0, .ref (E.1 24)), (2, .int x)]) C (Nat.le_of_ble_eq_true rfl) rfl dX10_pending_30 ?_
          refine v_iinc (v := x + (1 : Int32)) (lv' := [(2, .int (x + (1 : Int32))), (1, .int (y + (1 : Int32))), (0, .ref (E.1 24))]) C 2 rfl rfl (Nat.le_of_ble_eq_true rfl) rfl dX10_pending_31 ?_
          refine v_goto (tgt := 4) C (by decide) dX10_pending_34 ?_
          refine v_lv [2, 1, 0] rfl ?_
          exact ih (y + (1 : Int32)) (x + (1 : Int32)) (by have q := gt_of_nle em ej (by omega) (by omega) h1; exact ⟨j + 1, by rw [ej]; exact nI_1 j, by omega, by omega⟩) (by rw [hL, L_X10_pending_4, if_neg h1, if_neg h2])
  show V zp l ze rm_X10_pending zs zm za zb zt zc 3 G zA 0 0 Q 0 [(0, .ref (E.1 24))] [] (Wd G E σ μ Y)
  refine v_iconst (v := (0 : Int32)) C (by decide) dX10_pending_0 ?_
  refine v_istore_n (lv' := [(1, .int (0 : Int32)), (0, .ref (E.1 24))]) C (Nat.le_of_ble_eq_true rfl) rfl dX10_pending_1 ?_
  refine v_iconst (v := (0 : Int32)) C (by decide) dX10_pending_2 ?_
  refine v_istore_n (lv' := [(2, .int (0 : Int32)), (1, .int (0 : Int32)), (0, .ref (E.1 24))]) C (Nat.le_of_ble_eq_true rfl) rfl dX10_pending_3 ?_
  refine v_lv [2, 1, 0] rfl ?_
  exact loop_4 81 (0 : Int32) (0 : Int32) (⟨0, rfl, by omega, by omega⟩) (by rw [F_X10_pending])
def F_X10_refusal (μ : Sg) (kd : Int32) (bk : Int32) (al : Int32) : Int32 := (if (F_X10_in kd (0 : Int32) (1 : Int32)) = 0 then (1 : Int32) else (if (F_X10_in al (0 : Int32) (9999 : Int32)) = 0 then (1 : Int32) else (if (F_X10_isBlock bk) = 0 then (2 : Int32) else (if (μ 25 7) = (1 : Int32) then (if kd = (1 : Int32) then (if (μ 25 ((510 : Int32) + bk).toNatClampNeg) = 0 then (if (F_X10_dirty μ) = (8 : Int32) then (if (μ 25 12) = (80 : Int32) then (3 : Int32) else (if (F_X10_pending μ) = (12 : Int32) then (3 : Int32) else (3 : Int32))) else (if (μ 25 12) = (80 : Int32) then (3 : Int32) else (if (F_X10_pending μ) = (12 : Int32) then (3 : Int32) else (0 : Int32)))) else (if (μ 25 12) = (80 : Int32) then (3 : Int32) else (if (F_X10_pending μ) = (12 : Int32) then (3 : Int32) else (0 : Int32)))) else (if (μ 25 12) = (80 : Int32) then (3 : Int32) else (if (F_X10_pending μ) = (12 : Int32) then (3 : Int32) else (0 : Int32)))) else (if (μ 25 12) = (80 : Int32) then (3 : Int32) else (if (F_X10_pending μ) = (12 : Int32) then (3 : Int32) else (0 : Int32)))))))
abbrev rm_X10_refusal : Room := { frames := 2, cells := 0, slots := 0, locals := 43 }
theorem tn_7 : (7 : Int32).toNatClampNeg = 7 := by decide
theorem vi_7_1700 : vp_in (7 : Int32) 1700 := vp_lit tn_7 (by decide) (by decide)
set_option maxRecDepth 100000 in
set_option maxHeartbeats 4000000 in
theorem m_X10_refusal (l : Launch) (G : GG) (E : EE) (σ μ : Sg) (Y : va_W) (kd : Int32) (bk : Int32) (al : Int32) (hM : MOKg (μ 25)) : KK l G yX10_refusal cX10_refusal 5 (some .int) rm_X10_refusal [.ref (E.1 24), .int kd, .int bk, .int al] (Wd G E σ μ Y) (some (.int (F_X10_refusal μ kd bk al))) (Wd G E σ μ Y) := by
  refine KE.of (by decide) (Nat.le_of_ble_eq_true rfl) ?_
  intro zp ze zs zm za zb zt zc zA C _
  generalize hQ : MQ zb _ za zs _ _ zA = Q
  show V zp l ze rm_X10_refusal zs zm za zb zt zc 5 G zA 0 0 Q 0 [(0, .ref (E.1 24)), (1, .int kd), (2, .int bk), (3, .int al)] [] (Wd G E σ μ Y)
  refine v_iload_n C 1 rfl dX10_refusal_0 ?_
  refine v_iconst (v := (0 : Int32)) C (by decide) dX10_refusal_1 ?_
  refine v_iconst (v := (1 : Int32)) C (by decide) dX10_refusal_2 ?_
  refine v_cS1 (rest := []) C ms_RX10_42 (m_X10_in l G E σ μ Y kd (0 : Int32) (1 : Int32)) rfl rfl (Nat.le_of_ble_eq_true rfl) ⟨Nat.le_of_ble_eq_true rfl, Nat.le_of_ble_eq_true rfl⟩ ⟨rfl, rfl⟩ ⟨Nat.zero_le _, Nat.zero_le _⟩ dX10_refusal_3 ?_
  refine v_if_eq (tgt := 20) C (by decide) dX10_refusal_6 (fun h1 => ?_) (fun h1 => ?_)
  · refine v_iconst (v := (1 : Int32)) C (by decide) dX10_refusal_20 ?_
    have e1 : F_X10_refusal μ kd bk al = (1 : Int32) := by rw [F_X10_refusal, if_pos h1]
    exact v_Q hQ (v_iret C () trivial (by rw [e1]) rfl (Nat.zero_le _) (Nat.zero_le _) dX10_refusal_21)
  · refine v_iload_n C 3 rfl dX10_refusal_9 ?_
    refine v_iconst (v := (0 : Int32)) C (by decide) dX10_refusal_10 ?_
    refine v_sipush (v := (9999 : Int32)) C (by decide) dX10_refusal_11 ?_
    refine v_cS1 (rest := []) C ms_RX10_42 (m_X10_in l G E σ μ Y al (0 : Int32) (9999 : Int32)) rfl rfl (Nat.le_of_ble_eq_true rfl) ⟨Nat.le_of_ble_eq_true rfl, Nat.le_of_ble_eq_true rfl⟩ ⟨rfl, rfl⟩ ⟨Nat.zero_le _, Nat.zero_le _⟩ dX10_refusal_14 ?_
    refine v_if_ne (tgt := 22) C (by decide) dX10_refusal_17 (fun h2 => ?_) (fun h2 => ?_)
    · refine v_iload_n C 2 rfl dX10_refusal_22 ?_
      refine v_cS1 (rest := []) C ms_RX10_85 (m_X10_isBlock l G E σ μ Y bk) rfl rfl (Nat.le_of_ble_eq_true rfl) ⟨Nat.le_of_ble_eq_true rfl, Nat.le_of_ble_eq_true rfl⟩ ⟨rfl, rfl⟩ ⟨Nat.zero_le _, Nat.zero_le _⟩ dX10_refusal_23 ?_
      refine v_if_ne (tgt := 31) C (by decide) dX10_refusal_26 (fun h3 => ?_) (fun h3 => ?_)
      · refine v_aload_n C 0 rfl dX10_refusal_31 ?_
        refine v_get (v := .ref (E.1 25)) C fl_RX10_7 24 g_24 rfl dX10_refusal_32 ?_
        refine v_bipush (v := (7 : Int32)) C (by decide) dX10_refusal_35 ?_
        refine v_iald (v := μ 25 7) C 25 g_25 vi_7_1700 (rdl tn_7 rfl) dX10_refusal_37 ?_
        refine v_iconst (v := (1 : Int32)) C (by decide) dX10_refusal_38 ?_
        refine v_icmp_ne (tgt := 73) C (by decide) dX10_refusal_39 (fun h4 => ?_) (fun h4 => ?_)
        · refine v_iconst (v := (0 : Int32)) C (by decide) dX10_refusal_73 ?_
          refine v_istore (lv' := [(4, .int (0 : Int32)), (0, .ref (E.1 24)), (1, .int kd), (2, .int bk), (3, .int al)]) C (Nat.le_of_ble_eq_true rfl) rfl dX10_refusal_74 ?_
          refine v_aload_n C 1 rfl dX10_refusal_76 ?_
          refine v_get (v := .ref (E.1 25)) C fl_RX10_7 24 g_24 rfl dX10_refusal_77 ?_
          refine v_bipush (v := (12 : Int32)) C (by decide) dX10_refusal_80 ?_
          refine v_iald (v := μ 25 12) C 25 g_25 vi_12_1700 (rdl tn_12 rfl) dX10_refusal_82 ?_
          refine v_bipush (v := (80 : Int32)) C (by decide) dX10_refusal_83 ?_
          refine v_icmp_eq (tgt := 102) C (by decide) dX10_refusal_85 (fun h5 => ?_) (fun h5 => ?_)
          · refine v_iconst (v := (3 : Int32)) C (by decide) dX10_refusal_102 ?_
            refine v_goto (tgt := 107) C (by decide) dX10_refusal_103 ?_
            have e1 : F_X10_refusal μ kd bk al = (3 : Int32) := by rw [F_X10_refusal, if_neg h1, if_neg h2, if_neg h3, if_neg h4, if_pos h5]
            exact v_Q hQ (v_iret C () trivial (by rw [e1]) rfl (Nat.zero_le _) (Nat.zero_le _) dX10_refusal_107)
          · refine v_aload_n C 1 rfl dX10_refusal_88 ?_
            refine v_cV1 (rest := []) C mv_RX10_103 (m_X10_pending l G E σ μ Y hM.2.1) 24 g_24 rfl rfl rfl rfl (Nat.le_of_ble_eq_true rfl) ⟨Nat.le_of_ble_eq_true rfl, Nat.le_of_ble_eq_true rfl⟩ ⟨rfl, rfl⟩ ⟨Nat.zero_le _, Nat.zero_le _⟩ dX10_refusal_89 ?_
            refine v_bipush (v := (12 : Int32)) C (by decide) dX10_refusal_92 ?_
            refine v_icmp_eq (tgt := 102) C (by decide) dX10_refusal_94 (fun h6 => ?_) (fun h6 => ?_)
            · refine v_iconst (v := (3 : Int32)) C (by decide) dX10_refusal_102 ?_
              refine v_goto (tgt := 107) C (by decide) dX10_refusal_103 ?_
              have e1 : F_X10_refusal μ kd bk al = (3 : Int32) := by rw [F_X10_refusal, if_neg h1, if_neg h2, if_neg h3, if_neg h4, if_neg h5, if_pos h6]
              exact v_Q hQ (v_iret C () trivial (by rw [e1]) rfl (Nat.zero_le _) (Nat.zero_le _) dX10_refusal_107)
            · refine v_iload C 0 rfl dX10_refusal_97 ?_
              refine v_if_eq (tgt := 106) C (by decide) dX10_refusal_99 (fun h7 => ?_) (fun h7 => ?_)
              · refine v_iconst (v := (0 : Int32)) C (by decide) dX10_refusal_106 ?_
                have e1 : F_X10_refusal μ kd bk al = (0 : Int32) := by rw [F_X10_refusal, if_neg h1, if_neg h2, if_neg h3, if_neg h4, if_neg h5, if_neg h6]
                exact v_Q hQ (v_iret C () trivial (by rw [e1]) rfl (Nat.zero_le _) (Nat.zero_le _) dX10_refusal_107)
              · exact absurd (by decide) h7
        · refine v_iload_n C 1 rfl dX10_refusal_42 ?_
          refine v_iconst (v := (1 : Int32)) C (by decide) dX10_refusal_43 ?_
          refine v_icmp_ne (tgt := 73) C (by decide) dX10_refusal_44 (fun h8 => ?_) (fun h8 => ?_)
          · refine v_iconst (v := (0 : Int32)) C (by decide) dX10_refusal_73 ?_
            refine v_istore (lv' := [(4, .int (0 : Int32)), (0, .ref (E.1 24)), (1, .int kd), (2, .int bk), (3, .int al)]) C (Nat.le_of_ble_eq_true rfl) rfl dX10_refusal_74 ?_
            refine v_aload_n C 1 rfl dX10_refusal_76 ?_
            refine v_get (v := .ref (E.1 25)) C fl_RX10_7 24 g_24 rfl dX10_refusal_77 ?_
            refine v_bipush (v := (12 : Int32)) C (by decide) dX10_refusal_80 ?_
            refine v_iald (v := μ 25 12) C 25 g_25 vi_12_1700 (rdl tn_12 rfl) dX10_refusal_82 ?_
            refine v_bipush (v := (80 : Int32)) C (by decide) dX10_refusal_83 ?_
            refine v_icmp_eq (tgt := 102) C (by decide) dX10_refusal_85 (fun h9 => ?_) (fun h9 => ?_)
            · refine v_iconst (v := (3 : Int32)) C (by decide) dX10_refusal_102 ?_
              refine v_goto (tgt := 107) C (by decide) dX10_refusal_103 ?_
              have e1 : F_X10_refusal μ kd bk al = (3 : Int32) := by rw [F_X10_refusal, if_neg h1, if_neg h2, if_neg h3, if_pos h4, if_neg h8, if_pos h9]
              exact v_Q hQ (v_iret C () trivial (by rw [e1]) rfl (Nat.zero_le _) (Nat.zero_le _) dX10_refusal_107)
            · refine v_aload_n C 1 rfl dX10_refusal_88 ?_
              refine v_cV1 (rest := []) C mv_RX10_103 (m_X10_pending l G E σ μ Y hM.2.1) 24 g_24 rfl rfl rfl rfl (Nat.le_of_ble_eq_true rfl) ⟨Nat.le_of_ble_eq_true rfl, Nat.le_of_ble_eq_true rfl⟩ ⟨rfl, rfl⟩ ⟨Nat.zero_le _, Nat.zero_le _⟩ dX10_refusal_89 ?_
              refine v_bipush (v := (12 : Int32)) C (by decide) dX10_refusal_92 ?_
              refine v_icmp_eq (tgt := 102) C (by decide) dX10_refusal_94 (fun h10 => ?_) (fun h10 => ?_)
              · refine v_iconst (v := (3 : Int32)) C (by decide) dX10_refusal_102 ?_
                refine v_goto (tgt := 107) C (by decide) dX10_refusal_103 ?_
                have e1 : F_X10_refusal μ kd bk al = (3 : Int32) := by rw [F_X10_refusal, if_neg h1, if_neg h2, if_neg h3, if_pos h4, if_neg h8, if_neg h9, if_pos h10]
                exact v_Q hQ (v_iret C () trivial (by rw [e1]) rfl (Nat.zero_le _) (Nat.zero_le _) dX10_refusal_107)
              · refine v_iload C 0 rfl dX10_refusal_97 ?_
                refine v_if_eq (tgt := 106) C (by decide) dX10_refusal_99 (fun h11 => ?_) (fun h11 => ?_)
                · refine v_iconst (v := (0 : Int32)) C (by decide) dX10_refusal_106 ?_
                  have e1 : F_X10_refusal μ kd bk al = (0 : Int32) := by rw [F_X10_refusal, if_neg h1, if_neg h2, if_neg h3, if_pos h4, if_neg h8, if_neg h9, if_neg h10]
                  exact v_Q hQ (v_iret C () trivial (by rw [e1]) rfl (Nat.zero_le _) (Nat.zero_le _) dX10_refusal_107)
                · exact absurd (by decide) h11
          · refine v_aload_n C 0 rfl dX10_refusal_47 ?_
            refine v_get (v := .ref (E.1 25)) C fl_RX10_7 24 g_24 rfl dX10_refusal_48 ?_
            refine v_sipush (v := (510 : Int32)) C (by decide) dX10_refusal_51 ?_
            refine v_iload_n C 2 rfl dX10_refusal_54 ?_
            refine v_iadd C dX10_refusal_55 ?_
            refine v_iald (v := μ 25 ((510 : Int32) + bk).toNatClampNeg) C 25 g_25 (by obtain ⟨j, hj, ej⟩ := isBlock_blk h3; exact vi_add 510 ej (by omega) (by decide)) rfl dX10_refusal_56 ?_
            refine v_if_ne (tgt := 73) C (by decide) dX10_refusal_57 (fun h12 => ?_) (fun h12 => ?_)
            · refine v_iconst (v := (0 : Int32)) C (by decide) dX10_refusal_73 ?_
              refine v_istore (lv' := [(4, .int (0 : Int32)), (0, .ref (E.1 24)), (1, .int kd), (2, .int bk), (3, .int al)]) C (Nat.le_of_ble_eq_true rfl) rfl dX10_refusal_74 ?_
              refine v_aload_n C 1 rfl dX10_refusal_76 ?_
              refine v_get (v := .ref (E.1 25)) C fl_RX10_7 24 g_24 rfl dX10_refusal_77 ?_
              refine v_bipush (v := (12 : Int32)) C (by decide) dX10_refusal_80 ?_
              refine v_iald (v := μ 25 12) C 25 g_25 vi_12_1700 (rdl tn_12 rfl) dX10_refusal_82 ?_
              refine v_bipush (v := (80 : Int32)) C (by decide) dX10_refusal_83 ?_
              refine v_icmp_eq (tgt := 102) C (by decide) dX10_refusal_85 (fun h13 => ?_) (fun h13 => ?_)
              · refine v_iconst (v := (3 : Int32)) C (by decide) dX10_refusal_102 ?_
                refine v_goto (tgt := 107) C (by decide) dX10_refusal_103 ?_
                have e1 : F_X10_refusal μ kd bk al = (3 : Int32) := by rw [F_X10_refusal, if_neg h1, if_neg h2, if_neg h3, if_pos h4, if_pos h8, if_neg h12, if_pos h13]
                exact v_Q hQ (v_iret C () trivial (by rw [e1]) rfl (Nat.zero_le _) (Nat.zero_le _) dX10_refusal_107)
              · refine v_aload_n C 1 rfl dX10_refusal_88 ?_
                refine v_cV1 (rest := []) C mv_RX10_103 (m_X10_pending l G E σ μ Y hM.2.1) 24 g_24 rfl rfl rfl rfl (Nat.le_of_ble_eq_true rfl) ⟨Nat.le_of_ble_eq_true rfl, Nat.le_of_ble_eq_true rfl⟩ ⟨rfl, rfl⟩ ⟨Nat.zero_le _, Nat.zero_le _⟩ dX10_refusal_89 ?_
                refine v_bipush (v := (12 : Int32)) C (by decide) dX10_refusal_92 ?_
                refine v_icmp_eq (tgt := 102) C (by decide) dX10_refusal_94 (fun h14 => ?_) (fun h14 => ?_)
                · refine v_iconst (v := (3 : Int32)) C (by decide) dX10_refusal_102 ?_
                  refine v_goto (tgt := 107) C (by decide) dX10_refusal_103 ?_
                  have e1 : F_X10_refusal μ kd bk al = (3 : Int32) := by rw [F_X10_refusal, if_neg h1, if_neg h2, if_neg h3, if_pos h4, if_pos h8, if_neg h12, if_neg h13, if_pos h14]
                  exact v_Q hQ (v_iret C () trivial (by rw [e1]) rfl (Nat.zero_le _) (Nat.zero_le _) dX10_refusal_107)
                · refine v_iload C 0 rfl dX10_refusal_97 ?_
                  refine v_if_eq (tgt := 106) C (by decide) dX10_refusal_99 (fun h15 => ?_) (fun h15 => ?_)
                  · refine v_iconst (v := (0 : Int32)) C (by decide) dX10_refusal_106 ?_
                    have e1 : F_X10_refusal μ kd bk al = (0 : Int32) := by rw [F_X10_refusal, if_neg h1, if_neg h2, if_neg h3, if_pos h4, if_pos h8, if_neg h12, if_neg h13, if_neg h14]
                    exact v_Q hQ (v_iret C () trivial (by rw [e1]) rfl (Nat.zero_le _) (Nat.zero_le _) dX10_refusal_107)
                  · exact absurd (by decide) h15
            · refine v_aload_n C 0 rfl dX10_refusal_60 ?_
              refine v_cV1 (rest := []) C mv_RX10_81 (m_X10_dirty l G E σ μ Y) 24 g_24 rfl rfl rfl rfl (Nat.le_of_ble_eq_true rfl) ⟨Nat.le_of_ble_eq_true rfl, Nat.le_of_ble_eq_true rfl⟩ ⟨rfl, rfl⟩ ⟨Nat.zero_le _, Nat.zero_le _⟩ dX10_refusal_61 ?_
              refine v_bipush (v := (8 : Int32)) C (by decide) dX10_refusal_64 ?_
              refine v_icmp_ne (tgt := 73) C (by decide) dX10_refusal_66 (fun h16 => ?_) (fun h16 => ?_)
              · refine v_iconst (v := (0 : Int32)) C (by decide) dX10_refusal_73 ?_
                refine v_istore (lv' := [(4, .int (0 : Int32)), (0, .ref (E.1 24)), (1, .int kd), (2, .int bk), (3, .int al)]) C (Nat.le_of_ble_eq_true rfl) rfl dX10_refusal_74 ?_
                refine v_aload_n C 1 rfl dX10_refusal_76 ?_
                refine v_get (v := .ref (E.1 25)) C fl_RX10_7 24 g_24 rfl dX10_refusal_77 ?_
                refine v_bipush (v := (12 : Int32)) C (by decide) dX10_refusal_80 ?_
                refine v_iald (v := μ 25 12) C 25 g_25 vi_12_1700 (rdl tn_12 rfl) dX10_refusal_82 ?_
                refine v_bipush (v := (80 : Int32)) C (by decide) dX10_refusal_83 ?_
                refine v_icmp_eq (tgt := 102) C (by decide) dX10_refusal_85 (fun h17 => ?_) (fun h17 => ?_)
                · refine v_iconst (v := (3 : Int32)) C (by decide) dX10_refusal_102 ?_
                  refine v_goto (tgt := 107) C (by decide) dX10_refusal_103 ?_
                  have e1 : F_X10_refusal μ kd bk al = (3 : Int32) := by rw [F_X10_refusal, if_neg h1, if_neg h2, if_neg h3, if_pos h4, if_pos h8, if_pos h12, if_neg h16, if_pos h17]
                  exact v_Q hQ (v_iret C () trivial (by rw [e1]) rfl (Nat.zero_le _) (Nat.zero_le _) dX10_refusal_107)
                · refine v_aload_n C 1 rfl dX10_refusal_88 ?_
                  refine v_cV1 (rest := []) C mv_RX10_103 (m_X10_pending l G E σ μ Y hM.2.1) 24 g_24 rfl rfl rfl rfl (Nat.le_of_ble_eq_true rfl) ⟨Nat.le_of_ble_eq_true rfl, Nat.le_of_ble_eq_true rfl⟩ ⟨rfl, rfl⟩ ⟨Nat.zero_le _, Nat.zero_le _⟩ dX10_refusal_89 ?_
                  refine v_bipush (v := (12 : Int32)) C (by decide) dX10_refusal_92 ?_
                  refine v_icmp_eq (tgt := 102) C (by decide) dX10_refusal_94 (fun h18 => ?_) (fun h18 => ?_)
                  · refine v_iconst (v := (3 : Int32)) C (by decide) dX10_refusal_102 ?_
                    refine v_goto (tgt := 107) C (by decide) dX10_refusal_103 ?_
                    have e1 : F_X10_refusal μ kd bk al = (3 : Int32) := by rw [F_X10_refusal, if_neg h1, if_neg h2, if_neg h3, if_pos h4, if_pos h8, if_pos h12, if_neg h16, if_neg h17, if_pos h18]
                    exact v_Q hQ (v_iret C () trivial (by rw [e1]) rfl (Nat.zero_le _) (Nat.zero_le _) dX10_refusal_107)
                  · refine v_iload C 0 rfl dX10_refusal_97 ?_
                    refine v_if_eq (tgt := 106) C (by decide) dX10_refusal_99 (fun h19 => ?_) (fun h19 => ?_)
                    · refine v_iconst (v := (0 : Int32)) C (by decide) dX10_refusal_106 ?_
                      have e1 : F_X10_refusal μ kd bk al = (0 : Int32) := by rw [F_X10_refusal, if_neg h1, if_neg h2, if_neg h3, if_pos h4, if_pos h8, if_pos h12, if_neg h16, if_neg h17, if_neg h18]
                      exact v_Q hQ (v_iret C () trivial (by rw [e1]) rfl (Nat.zero_le _) (Nat.zero_le _) dX10_refusal_107)
                    · exact absurd (by decide) h19
              · refine v_iconst (v := (1 : Int32)) C (by decide) dX10_refusal_69 ?_
                refine v_goto (tgt := 74) C (by decide) dX10_refusal_70 ?_
                refine v_istore (lv' := [(4, .int (1 : Int32)), (0, .ref (E.1 24)), (1, .int kd), (2, .int bk), (3, .int al)]) C (Nat.le_of_ble_eq_true rfl) rfl dX10_refusal_74 ?_
                refine v_aload_n C 1 rfl dX10_refusal_76 ?_
                refine v_get (v := .ref (E.1 25)) C fl_RX10_7 24 g_24 rfl dX10_refusal_77 ?_
                refine v_bipush (v := (12 : Int32)) C (by decide) dX10_refusal_80 ?_
                refine v_iald (v := μ 25 12) C 25 g_25 vi_12_1700 (rdl tn_12 rfl) dX10_refusal_82 ?_
                refine v_bipush (v := (80 : Int32)) C (by decide) dX10_refusal_83 ?_
                refine v_icmp_eq (tgt := 102) C (by decide) dX10_refusal_85 (fun h20 => ?_) (fun h20 => ?_)
                · refine v_iconst (v := (3 : Int32)) C (by decide) dX10_refusal_102 ?_
                  refine v_goto (tgt := 107) C (by decide) dX10_refusal_103 ?_
                  have e1 : F_X10_refusal μ kd bk al = (3 : Int32) := by rw [F_X10_refusal, if_neg h1, if_neg h2, if_neg h3, if_pos h4, if_pos h8, if_pos h12, if_pos h16, if_pos h20]
                  exact v_Q hQ (v_iret C () trivial (by rw [e1]) rfl (Nat.zero_le _) (Nat.zero_le _) dX10_refusal_107)
                · refine v_aload_n C 1 rfl dX10_refusal_88 ?_
                  refine v_cV1 (rest := []) C mv_RX10_103 (m_X10_pending l G E σ μ Y hM.2.1) 24 g_24 rfl rfl rfl rfl (Nat.le_of_ble_eq_true rfl) ⟨Nat.le_of_ble_eq_true rfl, Nat.le_of_ble_eq_true rfl⟩ ⟨rfl, rfl⟩ ⟨Nat.zero_le _, Nat.zero_le _⟩ dX10_refusal_89 ?_
                  refine v_bipush (v := (12 : Int32)) C (by decide) dX10_refusal_92 ?_
                  refine v_icmp_eq (tgt := 102) C (by decide) dX10_refusal_94 (fun h21 => ?_) (fun h21 => ?_)
                  · refine v_iconst (v := (3 : Int32)) C (by decide) dX10_refusal_102 ?_
                    refine v_goto (tgt := 107) C (by decide) dX10_refusal_103 ?_
                    have e1 : F_X10_refusal μ kd bk al = (3 : Int32) := by rw [F_X10_refusal, if_neg h1, if_neg h2, if_neg h3, if_pos h4, if_pos h8, if_pos h12, if_pos h16, if_neg h20, if_pos h21]
                    exact v_Q hQ (v_iret C () trivial (by rw [e1]) rfl (Nat.zero_le _) (Nat.zero_le _) dX10_refusal_107)
                  · refine v_iload C 0 rfl dX10_refusal_97 ?_
                    refine v_if_eq (tgt := 106) C (by decide) dX10_refusal_99 (fun h22 => ?_) (fun h22 => ?_)
                    · exact absurd h22 (by decide)
                    · refine v_iconst (v := (3 : Int32)) C (by decide) dX10_refusal_102 ?_
                      refine v_goto (tgt := 107) C (by decide) dX10_refusal_103 ?_
                      have e1 : F_X10_refusal μ kd bk al = (3 : Int32) := by rw [F_X10_refusal, if_neg h1, if_neg h2, if_neg h3, if_pos h4, if_pos h8, if_pos h12, if_pos h16, if_neg h20, if_neg h21]
                      exact v_Q hQ (v_iret C () trivial (by rw [e1]) rfl (Nat.zero_le _) (Nat.zero_le _) dX10_refusal_107)
      · refine v_iconst (v := (2 : Int32)) C (by decide) dX10_refusal_29 ?_
        have e1 : F_X10_refusal μ kd bk al = (2 : Int32) := by rw [F_X10_refusal, if_neg h1, if_neg h2, if_pos h3]
        exact v_Q hQ (v_iret C () trivial (by rw [e1]) rfl (Nat.zero_le _) (Nat.zero_le _) dX10_refusal_30)
    · refine v_iconst (v := (1 : Int32)) C (by decide) dX10_refusal_20 ?_
      have e1 : F_X10_refusal μ kd bk al = (1 : Int32) := by rw [F_X10_refusal, if_neg h1, if_pos h2]
      exact v_Q hQ (v_iret C () trivial (by rw [e1]) rfl (Nat.zero_le _) (Nat.zero_le _) dX10_refusal_21)
def F_X10_comes (μ : Sg) (kd : Int32) (bk : Int32) (al : Int32) : Int32 × Sg := (if al = 0 then (if ((s2 (s2 (s2 (s2 (s2 (s2 (s2 μ 25 12 ((μ 25 12) + (1 : Int32))) 25 ((30 : Int32) + (μ 25 12)).toNatClampNeg kd) 25 ((110 : Int32) + (μ 25 12)).toNatClampNeg bk) 25 ((190 : Int32) + (μ 25 12)).toNatClampNeg ((s2 (s2 (s2 μ 25 12 ((μ 25 12) + (1 : Int32))) 25 ((30 : Int32) + (μ 25 12)).toNatClampNeg kd) 25 ((110 : Int32) + (μ 25 12)).toNatClampNeg bk) 25 8)) 25 ((270 : Int32) + (μ 25 12)).toNatClampNeg (-1 : Int32)) 25 ((350 : Int32) + (μ 25 12)).toNatClampNeg (0 : Int32)) 25 ((430 : Int32) + (μ 25 12)).toNatClampNeg (0 : Int32)) 25 7) = (1 : Int32) then (if kd = (1 : Int32) then (μ 25 12, (s2 (s2 (s2 (s2 (s2 (s2 (s2 (s2 (s2 (s2 μ 25 12 ((μ 25 12) + (1 : Int32))) 25 ((30 : Int32) + (μ 25 12)).toNatClampNeg kd) 25 ((110 : Int32) + (μ 25 12)).toNatClampNeg bk) 25 ((190 : Int32) + (μ 25 12)).toNatClampNeg ((s2 (s2 (s2 μ 25 12 ((μ 25 12) + (1 : Int32))) 25 ((30 : Int32) + (μ 25 12)).toNatClampNeg kd) 25 ((110 : Int32) + (μ 25 12)).toNatClampNeg bk) 25 8)) 25 ((270 : Int32) + (μ 25 12)).toNatClampNeg (-1 : Int32)) 25 ((350 : Int32) + (μ 25 12)).toNatClampNeg (0 : Int32)) 25 ((430 : Int32) + (μ 25 12)).toNatClampNeg (0 : Int32)) 25 ((510 : Int32) + bk).toNatClampNeg (1 : Int32)) 25 ((350 : Int32) + (μ 25 12)).toNatClampNeg (1 : Int32)) 25 ((430 : Int32) + (μ 25 12)).toNatClampNeg ((s2 (s2 (s2 (s2 (s2 (s2 (s2 (s2 (s2 μ 25 12 ((μ 25 12) + (1 : Int32))) 25 ((30 : Int32) + (μ 25 12)).toNatClampNeg kd) 25 ((110 : Int32) + (μ 25 12)).toNatClampNeg bk) 25 ((190 : Int32) + (μ 25 12)).toNatClampNeg ((s2 (s2 (s2 μ 25 12 ((μ 25 12) + (1 : Int32))) 25 ((30 : Int32) + (μ 25 12)).toNatClampNeg kd) 25 ((110 : Int32) + (μ 25 12)).toNatClampNeg bk) 25 8)) 25 ((270 : Int32) + (μ 25 12)).toNatClampNeg (-1 : Int32)) 25 ((350 : Int32) + (μ 25 12)).toNatClampNeg (0 : Int32)) 25 ((430 : Int32) + (μ 25 12)).toNatClampNeg (0 : Int32)) 25 ((510 : Int32) + bk).toNatClampNeg (1 : Int32)) 25 ((350 : Int32) + (μ 25 12)).toNatClampNeg (1 : Int32)) 25 8))) else (if ((s2 (s2 (s2 (s2 (s2 (s2 (s2 μ 25 12 ((μ 25 12) + (1 : Int32))) 25 ((30 : Int32) + (μ 25 12)).toNatClampNeg kd) 25 ((110 : Int32) + (μ 25 12)).toNatClampNeg bk) 25 ((190 : Int32) + (μ 25 12)).toNatClampNeg ((s2 (s2 (s2 μ 25 12 ((μ 25 12) + (1 : Int32))) 25 ((30 : Int32) + (μ 25 12)).toNatClampNeg kd) 25 ((110 : Int32) + (μ 25 12)).toNatClampNeg bk) 25 8)) 25 ((270 : Int32) + (μ 25 12)).toNatClampNeg (-1 : Int32)) 25 ((350 : Int32) + (μ 25 12)).toNatClampNeg (0 : Int32)) 25 ((430 : Int32) + (μ 25 12)).toNatClampNeg (0 : Int32)) 25 ((510 : Int32) + bk).toNatClampNeg) = (1 : Int32) then (μ 25 12, (s2 (s2 (s2 (s2 (s2 (s2 (s2 (s2 (s2 (s2 μ 25 12 ((μ 25 12) + (1 : Int32))) 25 ((30 : Int32) + (μ 25 12)).toNatClampNeg kd) 25 ((110 : Int32) + (μ 25 12)).toNatClampNeg bk) 25 ((190 : Int32) + (μ 25 12)).toNatClampNeg ((s2 (s2 (s2 μ 25 12 ((μ 25 12) + (1 : Int32))) 25 ((30 : Int32) + (μ 25 12)).toNatClampNeg kd) 25 ((110 : Int32) + (μ 25 12)).toNatClampNeg bk) 25 8)) 25 ((270 : Int32) + (μ 25 12)).toNatClampNeg (-1 : Int32)) 25 ((350 : Int32) + (μ 25 12)).toNatClampNeg (0 : Int32)) 25 ((430 : Int32) + (μ 25 12)).toNatClampNeg (0 : Int32)) 25 ((510 : Int32) + bk).toNatClampNeg (1 : Int32)) 25 ((350 : Int32) + (μ 25 12)).toNatClampNeg (1 : Int32)) 25 ((430 : Int32) + (μ 25 12)).toNatClampNeg ((s2 (s2 (s2 (s2 (s2 (s2 (s2 (s2 (s2 μ 25 12 ((μ 25 12) + (1 : Int32))) 25 ((30 : Int32) + (μ 25 12)).toNatClampNeg kd) 25 ((110 : Int32) + (μ 25 12)).toNatClampNeg bk) 25 ((190 : Int32) + (μ 25 12)).toNatClampNeg ((s2 (s2 (s2 μ 25 12 ((μ 25 12) + (1 : Int32))) 25 ((30 : Int32) + (μ 25 12)).toNatClampNeg kd) 25 ((110 : Int32) + (μ 25 12)).toNatClampNeg bk) 25 8)) 25 ((270 : Int32) + (μ 25 12)).toNatClampNeg (-1 : Int32)) 25 ((350 : Int32) + (μ 25 12)).toNatClampNeg (0 : Int32)) 25 ((430 : Int32) + (μ 25 12)).toNatClampNeg (0 : Int32)) 25 ((510 : Int32) + bk).toNatClampNeg (1 : Int32)) 25 ((350 : Int32) + (μ 25 12)).toNatClampNeg (1 : Int32)) 25 8))) else (μ 25 12, (s2 (s2 (s2 (s2 (s2 (s2 (s2 μ 25 12 ((μ 25 12) + (1 : Int32))) 25 ((30 : Int32) + (μ 25 12)).toNatClampNeg kd) 25 ((110 : Int32) + (μ 25 12)).toNatClampNeg bk) 25 ((190 : Int32) + (μ 25 12)).toNatClampNeg ((s2 (s2 (s2 μ 25 12 ((μ 25 12) + (1 : Int32))) 25 ((30 : Int32) + (μ 25 12)).toNatClampNeg kd) 25 ((110 : Int32) + (μ 25 12)).toNatClampNeg bk) 25 8)) 25 ((270 : Int32) + (μ 25 12)).toNatClampNeg (-1 : Int32)) 25 ((350 : Int32) + (μ 25 12)).toNatClampNeg (0 : Int32)) 25 ((430 : Int32) + (μ 25 12)).toNatClampNeg (0 : Int32))))) else (μ 25 12, (s2 (s2 (s2 (s2 (s2 (s2 (s2 μ 25 12 ((μ 25 12) + (1 : Int32))) 25 ((30 : Int32) + (μ 25 12)).toNatClampNeg kd) 25 ((110 : Int32) + (μ 25 12)).toNatClampNeg bk) 25 ((190 : Int32) + (μ 25 12)).toNatClampNeg ((s2 (s2 (s2 μ 25 12 ((μ 25 12) + (1 : Int32))) 25 ((30 : Int32) + (μ 25 12)).toNatClampNeg kd) 25 ((110 : Int32) + (μ 25 12)).toNatClampNeg bk) 25 8)) 25 ((270 : Int32) + (μ 25 12)).toNatClampNeg (-1 : Int32)) 25 ((350 : Int32) + (μ 25 12)).toNatClampNeg (0 : Int32)) 25 ((430 : Int32) + (μ 25 12)).toNatClampNeg (0 : Int32)))) else (if ((s2 (s2 (s2 (s2 (s2 (s2 (s2 μ 25 12 ((μ 25 12) + (1 : Int32))) 25 ((30 : Int32) + (μ 25 12)).toNatClampNeg kd) 25 ((110 : Int32) + (μ 25 12)).toNatClampNeg bk) 25 ((190 : Int32) + (μ 25 12)).toNatClampNeg ((s2 (s2 (s2 μ 25 12 ((μ 25 12) + (1 : Int32))) 25 ((30 : Int32) + (μ 25 12)).toNatClampNeg kd) 25 ((110 : Int32) + (μ 25 12)).toNatClampNeg bk) 25 8)) 25 ((270 : Int32) + (μ 25 12)).toNatClampNeg (((s2 (s2 (s2 (s2 μ 25 12 ((μ 25 12) + (1 : Int32))) 25 ((30 : Int32) + (μ 25 12)).toNatClampNeg kd) 25 ((110 : Int32) + (μ 25 12)).toNatClampNeg bk) 25 ((190 : Int32) + (μ 25 12)).toNatClampNeg ((s2 (s2 (s2 μ 25 12 ((μ 25 12) + (1 : Int32))) 25 ((30 : Int32) + (μ 25 12)).toNatClampNeg kd) 25 ((110 : Int32) + (μ 25 12)).toNatClampNeg bk) 25 8)) 25 8) + al)) 25 ((350 : Int32) + (μ 25 12)).toNatClampNeg (0 : Int32)) 25 ((430 : Int32) + (μ 25 12)).toNatClampNeg (0 : Int32)) 25 7) = (1 : Int32) then (if kd = (1 : Int32) then (μ 25 12, (s2 (s2 (s2 (s2 (s2 (s2 (s2 (s2 (s2 (s2 μ 25 12 ((μ 25 12) + (1 : Int32))) 25 ((30 : Int32) + (μ 25 12)).toNatClampNeg kd) 25 ((110 : Int32) + (μ 25 12)).toNatClampNeg bk) 25 ((190 : Int32) + (μ 25 12)).toNatClampNeg ((s2 (s2 (s2 μ 25 12 ((μ 25 12) + (1 : Int32))) 25 ((30 : Int32) + (μ 25 12)).toNatClampNeg kd) 25 ((110 : Int32) + (μ 25 12)).toNatClampNeg bk) 25 8)) 25 ((270 : Int32) + (μ 25 12)).toNatClampNeg (((s2 (s2 (s2 (s2 μ 25 12 ((μ 25 12) + (1 : Int32))) 25 ((30 : Int32) + (μ 25 12)).toNatClampNeg kd) 25 ((110 : Int32) + (μ 25 12)).toNatClampNeg bk) 25 ((190 : Int32) + (μ 25 12)).toNatClampNeg ((s2 (s2 (s2 μ 25 12 ((μ 25 12) + (1 : Int32))) 25 ((30 : Int32) + (μ 25 12)).toNatClampNeg kd) 25 ((110 : Int32) + (μ 25 12)).toNatClampNeg bk) 25 8)) 25 8) + al)) 25 ((350 : Int32) + (μ 25 12)).toNatClampNeg (0 : Int32)) 25 ((430 : Int32) + (μ 25 12)).toNatClampNeg (0 : Int32)) 25 ((510 : Int32) + bk).toNatClampNeg (1 : Int32)) 25 ((350 : Int32) + (μ 25 12)).toNatClampNeg (1 : Int32)) 25 ((430 : Int32) + (μ 25 12)).toNatClampNeg ((s2 (s2 (s2 (s2 (s2 (s2 (s2 (s2 (s2 μ 25 12 ((μ 25 12) + (1 : Int32))) 25 ((30 : Int32) + (μ 25 12)).toNatClampNeg kd) 25 ((110 : Int32) + (μ 25 12)).toNatClampNeg bk) 25 ((190 : Int32) + (μ 25 12)).toNatClampNeg ((s2 (s2 (s2 μ 25 12 ((μ 25 12) + (1 : Int32))) 25 ((30 : Int32) + (μ 25 12)).toNatClampNeg kd) 25 ((110 : Int32) + (μ 25 12)).toNatClampNeg bk) 25 8)) 25 ((270 : Int32) + (μ 25 12)).toNatClampNeg (((s2 (s2 (s2 (s2 μ 25 12 ((μ 25 12) + (1 : Int32))) 25 ((30 : Int32) + (μ 25 12)).toNatClampNeg kd) 25 ((110 : Int32) + (μ 25 12)).toNatClampNeg bk) 25 ((190 : Int32) + (μ 25 12)).toNatClampNeg ((s2 (s2 (s2 μ 25 12 ((μ 25 12) + (1 : Int32))) 25 ((30 : Int32) + (μ 25 12)).toNatClampNeg kd) 25 ((110 : Int32) + (μ 25 12)).toNatClampNeg bk) 25 8)) 25 8) + al)) 25 ((350 : Int32) + (μ 25 12)).toNatClampNeg (0 : Int32)) 25 ((430 : Int32) + (μ 25 12)).toNatClampNeg (0 : Int32)) 25 ((510 : Int32) + bk).toNatClampNeg (1 : Int32)) 25 ((350 : Int32) + (μ 25 12)).toNatClampNeg (1 : Int32)) 25 8))) else (if ((s2 (s2 (s2 (s2 (s2 (s2 (s2 μ 25 12 ((μ 25 12) + (1 : Int32))) 25 ((30 : Int32) + (μ 25 12)).toNatClampNeg kd) 25 ((110 : Int32) + (μ 25 12)).toNatClampNeg bk) 25 ((190 : Int32) + (μ 25 12)).toNatClampNeg ((s2 (s2 (s2 μ 25 12 ((μ 25 12) + (1 : Int32))) 25 ((30 : Int32) + (μ 25 12)).toNatClampNeg kd) 25 ((110 : Int32) + (μ 25 12)).toNatClampNeg bk) 25 8)) 25 ((270 : Int32) + (μ 25 12)).toNatClampNeg (((s2 (s2 (s2 (s2 μ 25 12 ((μ 25 12) + (1 : Int32))) 25 ((30 : Int32) + (μ 25 12)).toNatClampNeg kd) 25 ((110 : Int32) + (μ 25 12)).toNatClampNeg bk) 25 ((190 : Int32) + (μ 25 12)).toNatClampNeg ((s2 (s2 (s2 μ 25 12 ((μ 25 12) + (1 : Int32))) 25 ((30 : Int32) + (μ 25 12)).toNatClampNeg kd) 25 ((110 : Int32) + (μ 25 12)).toNatClampNeg bk) 25 8)) 25 8) + al)) 25 ((350 : Int32) + (μ 25 12)).toNatClampNeg (0 : Int32)) 25 ((430 : Int32) + (μ 25 12)).toNatClampNeg (0 : Int32)) 25 ((510 : Int32) + bk).toNatClampNeg) = (1 : Int32) then (μ 25 12, (s2 (s2 (s2 (s2 (s2 (s2 (s2 (s2 (s2 (s2 μ 25 12 ((μ 25 12) + (1 : Int32))) 25 ((30 : Int32) + (μ 25 12)).toNatClampNeg kd) 25 ((110 : Int32) + (μ 25 12)).toNatClampNeg bk) 25 ((190 : Int32) + (μ 25 12)).toNatClampNeg ((s2 (s2 (s2 μ 25 12 ((μ 25 12) + (1 : Int32))) 25 ((30 : Int32) + (μ 25 12)).toNatClampNeg kd) 25 ((110 : Int32) + (μ 25 12)).toNatClampNeg bk) 25 8)) 25 ((270 : Int32) + (μ 25 12)).toNatClampNeg (((s2 (s2 (s2 (s2 μ 25 12 ((μ 25 12) + (1 : Int32))) 25 ((30 : Int32) + (μ 25 12)).toNatClampNeg kd) 25 ((110 : Int32) + (μ 25 12)).toNatClampNeg bk) 25 ((190 : Int32) + (μ 25 12)).toNatClampNeg ((s2 (s2 (s2 μ 25 12 ((μ 25 12) + (1 : Int32))) 25 ((30 : Int32) + (μ 25 12)).toNatClampNeg kd) 25 ((110 : Int32) + (μ 25 12)).toNatClampNeg bk) 25 8)) 25 8) + al)) 25 ((350 : Int32) + (μ 25 12)).toNatClampNeg (0 : Int32)) 25 ((430 : Int32) + (μ 25 12)).toNatClampNeg (0 : Int32)) 25 ((510 : Int32) + bk).toNatClampNeg (1 : Int32)) 25 ((350 : Int32) + (μ 25 12)).toNatClampNeg (1 : Int32)) 25 ((430 : Int32) + (μ 25 12)).toNatClampNeg ((s2 (s2 (s2 (s2 (s2 (s2 (s2 (s2 (s2 μ 25 12 ((μ 25 12) + (1 : Int32))) 25 ((30 : Int32) + (μ 25 12)).toNatClampNeg kd) 25 ((110 : Int32) + (μ 25 12)).toNatClampNeg bk) 25 ((190 : Int32) + (μ 25 12)).toNatClampNeg ((s2 (s2 (s2 μ 25 12 ((μ 25 12) + (1 : Int32))) 25 ((30 : Int32) + (μ 25 12)).toNatClampNeg kd) 25 ((110 : Int32) + (μ 25 12)).toNatClampNeg bk) 25 8)) 25 ((270 : Int32) + (μ 25 12)).toNatClampNeg (((s2 (s2 (s2 (s2 μ 25 12 ((μ 25 12) + (1 : Int32))) 25 ((30 : Int32) + (μ 25 12)).toNatClampNeg kd) 25 ((110 : Int32) + (μ 25 12)).toNatClampNeg bk) 25 ((190 : Int32) + (μ 25 12)).toNatClampNeg ((s2 (s2 (s2 μ 25 12 ((μ 25 12) + (1 : Int32))) 25 ((30 : Int32) + (μ 25 12)).toNatClampNeg kd) 25 ((110 : Int32) + (μ 25 12)).toNatClampNeg bk) 25 8)) 25 8) + al)) 25 ((350 : Int32) + (μ 25 12)).toNatClampNeg (0 : Int32)) 25 ((430 : Int32) + (μ 25 12)).toNatClampNeg (0 : Int32)) 25 ((510 : Int32) + bk).toNatClampNeg (1 : Int32)) 25 ((350 : Int32) + (μ 25 12)).toNatClampNeg (1 : Int32)) 25 8))) else (μ 25 12, (s2 (s2 (s2 (s2 (s2 (s2 (s2 μ 25 12 ((μ 25 12) + (1 : Int32))) 25 ((30 : Int32) + (μ 25 12)).toNatClampNeg kd) 25 ((110 : Int32) + (μ 25 12)).toNatClampNeg bk) 25 ((190 : Int32) + (μ 25 12)).toNatClampNeg ((s2 (s2 (s2 μ 25 12 ((μ 25 12) + (1 : Int32))) 25 ((30 : Int32) + (μ 25 12)).toNatClampNeg kd) 25 ((110 : Int32) + (μ 25 12)).toNatClampNeg bk) 25 8)) 25 ((270 : Int32) + (μ 25 12)).toNatClampNeg (((s2 (s2 (s2 (s2 μ 25 12 ((μ 25 12) + (1 : Int32))) 25 ((30 : Int32) + (μ 25 12)).toNatClampNeg kd) 25 ((110 : Int32) + (μ 25 12)).toNatClampNeg bk) 25 ((190 : Int32) + (μ 25 12)).toNatClampNeg ((s2 (s2 (s2 μ 25 12 ((μ 25 12) + (1 : Int32))) 25 ((30 : Int32) + (μ 25 12)).toNatClampNeg kd) 25 ((110 : Int32) + (μ 25 12)).toNatClampNeg bk) 25 8)) 25 8) + al)) 25 ((350 : Int32) + (μ 25 12)).toNatClampNeg (0 : Int32)) 25 ((430 : Int32) + (μ 25 12)).toNatClampNeg (0 : Int32))))) else (μ 25 12, (s2 (s2 (s2 (s2 (s2 (s2 (s2 μ 25 12 ((μ 25 12) + (1 : Int32))) 25 ((30 : Int32) + (μ 25 12)).toNatClampNeg kd) 25 ((110 : Int32) + (μ 25 12)).toNatClampNeg bk) 25 ((190 : Int32) + (μ 25 12)).toNatClampNeg ((s2 (s2 (s2 μ 25 12 ((μ 25 12) + (1 : Int32))) 25 ((30 : Int32) + (μ 25 12)).toNatClampNeg kd) 25 ((110 : Int32) + (μ 25 12)).toNatClampNeg bk) 25 8)) 25 ((270 : Int32) + (μ 25 12)).toNatClampNeg (((s2 (s2 (s2 (s2 μ 25 12 ((μ 25 12) + (1 : Int32))) 25 ((30 : Int32) + (μ 25 12)).toNatClampNeg kd) 25 ((110 : Int32) + (μ 25 12)).toNatClampNeg bk) 25 ((190 : Int32) + (μ 25 12)).toNatClampNeg ((s2 (s2 (s2 μ 25 12 ((μ 25 12) + (1 : Int32))) 25 ((30 : Int32) + (μ 25 12)).toNatClampNeg kd) 25 ((110 : Int32) + (μ 25 12)).toNatClampNeg bk) 25 8)) 25 8) + al)) 25 ((350 : Int32) + (μ 25 12)).toNatClampNeg (0 : Int32)) 25 ((430 : Int32) + (μ 25 12)).toNatClampNeg (0 : Int32)))))
abbrev rm_X10_comes : Room := { frames := 0, cells := 0, slots := 0, locals := 0 }
set_option maxRecDepth 100000 in
set_option maxHeartbeats 4000000 in
theorem m_X10_comes (l : Launch) (G : GG) (E : EE) (σ μ : Sg) (Y : va_W) (kd : Int32) (bk : Int32) (al : Int32) (hM : ∃ m : Nat, m < 80 ∧ μ 25 12 = nI m) (hb : blk bk) : KK l G yX10_comes cX10_comes 5 (some .int) rm_X10_comes [.ref (E.1 24), .int kd, .int bk, .int al] (Wd G E σ μ Y) (some (.int (F_X10_comes μ kd bk al).1)) (Wd G E σ (F_X10_comes μ kd bk al).2 Y) := by
  refine KE.of (by decide) (Nat.le_of_ble_eq_true rfl) ?_
  intro zp ze zs zm za zb zt zc zA C _
  generalize hQ : MQ zb _ za zs _ _ zA = Q
  show V zp l ze rm_X10_comes zs zm za zb zt zc 5 G zA 0 0 Q 0 [(0, .ref (E.1 24)), (1, .int kd), (2, .int bk), (3, .int al)] [] (Wd G E σ μ Y)
  refine v_aload_n C 0 rfl dX10_comes_0 ?_
  refine v_get (v := .ref (E.1 25)) C fl_RX10_7 24 g_24 rfl dX10_comes_1 ?_
  refine v_bipush (v := (12 : Int32)) C (by decide) dX10_comes_4 ?_
  refine v_iald (v := μ 25 12) C 25 g_25 vi_12_1700 (rdl tn_12 rfl) dX10_comes_6 ?_
  refine v_istore (lv' := [(4, .int (μ 25 12)), (0, .ref (E.1 24)), (1, .int kd), (2, .int bk), (3, .int al)]) C (Nat.le_of_ble_eq_true rfl) rfl dX10_comes_7 ?_
  refine v_aload_n C 1 rfl dX10_comes_9 ?_
  refine v_get (v := .ref (E.1 25)) C fl_RX10_7 24 g_24 rfl dX10_comes_10 ?_
  refine v_bipush (v := (12 : Int32)) C (by decide) dX10_comes_13 ?_
  refine v_dup2 C rfl rfl dX10_comes_15 ?_
  refine v_iald (v := μ 25 12) C 25 g_25 vi_12_1700 (rdl tn_12 rfl) dX10_comes_16 ?_
  refine v_iconst (v := (1 : Int32)) C (by decide) dX10_comes_17 ?_
  refine v_iadd C dX10_comes_18 ?_
  refine v_iast (ws' := Wd G E σ (s2 μ 25 12 ((μ 25 12) + (1 : Int32))) Y) C 25 g_25 vi_12_1700 ((p_25 _ _).trans (by rw [tn_12])) dX10_comes_19 ?_
  refine v_aload_n C 1 rfl dX10_comes_20 ?_
  refine v_get (v := .ref (E.1 25)) C fl_RX10_7 24 g_24 rfl dX10_comes_21 ?_
  refine v_bipush (v := (30 : Int32)) C (by decide) dX10_comes_24 ?_
  refine v_iload C 0 rfl dX10_comes_26 ?_
  refine v_iadd C dX10_comes_28 ?_
  refine v_iload_n C 2 rfl dX10_comes_29 ?_
  refine v_iast (ws' := Wd G E σ (s2 (s2 μ 25 12 ((μ 25 12) + (1 : Int32))) 25 ((30 : Int32) + (μ 25 12)).toNatClampNeg kd) Y) C 25 g_25 (by obtain ⟨m, hm, em⟩ := hM; exact vi_add 30 em (by omega) (by decide)) (p_25 _ _) dX10_comes_30 ?_
  refine v_aload_n C 1 rfl dX10_comes_31 ?_
  refine v_get (v := .ref (E.1 25)) C fl_RX10_7 24 g_24 rfl dX10_comes_32 ?_
  refine v_bipush (v := (110 : Int32)) C (by decide) dX10_comes_35 ?_
  refine v_iload C 0 rfl dX10_comes_37 ?_
  refine v_iadd C dX10_comes_39 ?_
  refine v_iload_n C 3 rfl dX10_comes_40 ?_
  refine v_iast (ws' := Wd G E σ (s2 (s2 (s2 μ 25 12 ((μ 25 12) + (1 : Int32))) 25 ((30 : Int32) + (μ 25 12)).toNatClampNeg kd) 25 ((110 : Int32) + (μ 25 12)).toNatClampNeg bk) Y) C 25 g_25 (by obtain ⟨m, hm, em⟩ := hM; exact vi_add 110 em (by omega) (by decide)) (p_25 _ _) dX10_comes_41 ?_
  refine v_aload_n C 1 rfl dX10_comes_42 ?_
  refine v_get (v := .ref (E.1 25)) C fl_RX10_7 24 g_24 rfl dX10_comes_43 ?_
  refine v_sipush (v := (190 : Int32)) C (by decide) dX10_comes_46 ?_
  refine v_iload C 0 rfl dX10_comes_49 ?_
  refine v_iadd C dX10_comes_51 ?_
  refine v_aload_n C 1 rfl dX10_comes_52 ?_
  refine v_get (v := .ref (E.1 25)) C fl_RX10_7 24 g_24 rfl dX10_comes_53 ?_
  refine v_bipush (v := (8 : Int32)) C (by decide) dX10_comes_56 ?_
  refine v_iald (v := (s2 (s2 (s2 μ 25 12 ((μ 25 12) + (1 : Int32))) 25 ((30 : Int32) + (μ 25 12)).toNatClampNeg kd) 25 ((110 : Int32) + (μ 25 12)).toNatClampNeg bk) 25 8) C 25 g_25 vi_8_1700 (rdl tn_8 rfl) dX10_comes_58 ?_
  refine v_iast (ws' := Wd G E σ (s2 (s2 (s2 (s2 μ 25 12 ((μ 25 12) + (1 : Int32))) 25 ((30 : Int32) + (μ 25 12)).toNatClampNeg kd) 25 ((110 : Int32) + (μ 25 12)).toNatClampNeg bk) 25 ((190 : Int32) + (μ 25 12)).toNatClampNeg ((s2 (s2 (s2 μ 25 12 ((μ 25 12) + (1 : Int32))) 25 ((30 : Int32) + (μ 25 12)).toNatClampNeg kd) 25 ((110 : Int32) + (μ 25 12)).toNatClampNeg bk) 25 8)) Y) C 25 g_25 (by obtain ⟨m, hm, em⟩ := hM; exact vi_add 190 em (by omega) (by decide)) (p_25 _ _) dX10_comes_59 ?_
  refine v_aload_n C 1 rfl dX10_comes_60 ?_
  refine v_get (v := .ref (E.1 25)) C fl_RX10_7 24 g_24 rfl dX10_comes_61 ?_
  refine v_sipush (v := (270 : Int32)) C (by decide) dX10_comes_64 ?_
  refine v_iload C 0 rfl dX10_comes_67 ?_
  refine v_iadd C dX10_comes_69 ?_
  refine v_iload_n C 4 rfl dX10_comes_70 ?_
  refine v_if_ne (tgt := 78) C (by decide) dX10_comes_71 (fun h1 => ?_) (fun h1 => ?_)
  · refine v_aload_n C 1 rfl dX10_comes_78 ?_
    refine v_get (v := .ref (E.1 25)) C fl_RX10_7 24 g_24 rfl dX10_comes_79 ?_
    refine v_bipush (v := (8 : Int32)) C (by decide) dX10_comes_82 ?_
    refine v_iald (v := (s2 (s2 (s2 (s2 μ 25 12 ((μ 25 12) + (1 : Int32))) 25 ((30 : Int32) + (μ 25 12)).toNatClampNeg kd) 25 ((110 : Int32) + (μ 25 12)).toNatClampNeg bk) 25 ((190 : Int32) + (μ 25 12)).toNatClampNeg ((s2 (s2 (s2 μ 25 12 ((μ 25 12) + (1 : Int32))) 25 ((30 : Int32) + (μ 25 12)).toNatClampNeg kd) 25 ((110 : Int32) + (μ 25 12)).toNatClampNeg bk) 25 8)) 25 8) C 25 g_25 vi_8_1700 (rdl tn_8 rfl) dX10_comes_84 ?_
    refine v_iload_n C 4 rfl dX10_comes_85 ?_
    refine v_iadd C dX10_comes_86 ?_
    refine v_iast (ws' := Wd G E σ (s2 (s2 (s2 (s2 (s2 μ 25 12 ((μ 25 12) + (1 : Int32))) 25 ((30 : Int32) + (μ 25 12)).toNatClampNeg kd) 25 ((110 : Int32) + (μ 25 12)).toNatClampNeg bk) 25 ((190 : Int32) + (μ 25 12)).toNatClampNeg ((s2 (s2 (s2 μ 25 12 ((μ 25 12) + (1 : Int32))) 25 ((30 : Int32) + (μ 25 12)).toNatClampNeg kd) 25 ((110 : Int32) + (μ 25 12)).toNatClampNeg bk) 25 8)) 25 ((270 : Int32) + (μ 25 12)).toNatClampNeg (((s2 (s2 (s2 (s2 μ 25 12 ((μ 25 12) + (1 : Int32))) 25 ((30 : Int32) + (μ 25 12)).toNatClampNeg kd) 25 ((110 : Int32) + (μ 25 12)).toNatClampNeg bk) 25 ((190 : Int32) + (μ 25 12)).toNatClampNeg ((s2 (s2 (s2 μ 25 12 ((μ 25 12) + (1 : Int32))) 25 ((30 : Int32) + (μ 25 12)).toNatClampNeg kd) 25 ((110 : Int32) + (μ 25 12)).toNatClampNeg bk) 25 8)) 25 8) + al)) Y) C 25 g_25 (by obtain ⟨m, hm, em⟩ := hM; exact vi_add 270 em (by omega) (by decide)) (p_25 _ _) dX10_comes_87 ?_
    refine v_aload_n C 1 rfl dX10_comes_88 ?_
    refine v_get (v := .ref (E.1 25)) C fl_RX10_7 24 g_24 rfl dX10_comes_89 ?_
    refine v_sipush (v := (350 : Int32)) C (by decide) dX10_comes_92 ?_
    refine v_iload C 0 rfl dX10_comes_95 ?_
    refine v_iadd C dX10_comes_97 ?_
    refine v_iconst (v := (0 : Int32)) C (by decide) dX10_comes_98 ?_
    refine v_iast (ws' := Wd G E σ (s2 (s2 (s2 (s2 (s2 (s2 μ 25 12 ((μ 25 12) + (1 : Int32))) 25 ((30 : Int32) + (μ 25 12)).toNatClampNeg kd) 25 ((110 : Int32) + (μ 25 12)).toNatClampNeg bk) 25 ((190 : Int32) + (μ 25 12)).toNatClampNeg ((s2 (s2 (s2 μ 25 12 ((μ 25 12) + (1 : Int32))) 25 ((30 : Int32) + (μ 25 12)).toNatClampNeg kd) 25 ((110 : Int32) + (μ 25 12)).toNatClampNeg bk) 25 8)) 25 ((270 : Int32) + (μ 25 12)).toNatClampNeg (((s2 (s2 (s2 (s2 μ 25 12 ((μ 25 12) + (1 : Int32))) 25 ((30 : Int32) + (μ 25 12)).toNatClampNeg kd) 25 ((110 : Int32) + (μ 25 12)).toNatClampNeg bk) 25 ((190 : Int32) + (μ 25 12)).toNatClampNeg ((s2 (s2 (s2 μ 25 12 ((μ 25 12) + (1 : Int32))) 25 ((30 : Int32) + (μ 25 12)).toNatClampNeg kd) 25 ((110 : Int32) + (μ 25 12)).toNatClampNeg bk) 25 8)) 25 8) + al)) 25 ((350 : Int32) + (μ 25 12)).toNatClampNeg (0 : Int32)) Y) C 25 g_25 (by obtain ⟨m, hm, em⟩ := hM; exact vi_add 350 em (by omega) (by decide)) (p_25 _ _) dX10_comes_99 ?_
    refine v_aload_n C 1 rfl dX10_comes_100 ?_
    refine v_get (v := .ref (E.1 25)) C fl_RX10_7 24 g_24 rfl dX10_comes_101 ?_
    refine v_sipush (v := (430 : Int32)) C (by decide) dX10_comes_104 ?_
    refine v_iload C 0 rfl dX10_comes_107 ?_
    refine v_iadd C dX10_comes_109 ?_
    refine v_iconst (v := (0 : Int32)) C (by decide) dX10_comes_110 ?_
    refine v_iast (ws' := Wd G E σ (s2 (s2 (s2 (s2 (s2 (s2 (s2 μ 25 12 ((μ 25 12) + (1 : Int32))) 25 ((30 : Int32) + (μ 25 12)).toNatClampNeg kd) 25 ((110 : Int32) + (μ 25 12)).toNatClampNeg bk) 25 ((190 : Int32) + (μ 25 12)).toNatClampNeg ((s2 (s2 (s2 μ 25 12 ((μ 25 12) + (1 : Int32))) 25 ((30 : Int32) + (μ 25 12)).toNatClampNeg kd) 25 ((110 : Int32) + (μ 25 12)).toNatClampNeg bk) 25 8)) 25 ((270 : Int32) + (μ 25 12)).toNatClampNeg (((s2 (s2 (s2 (s2 μ 25 12 ((μ 25 12) + (1 : Int32))) 25 ((30 : Int32) + (μ 25 12)).toNatClampNeg kd) 25 ((110 : Int32) + (μ 25 12)).toNatClampNeg bk) 25 ((190 : Int32) + (μ 25 12)).toNatClampNeg ((s2 (s2 (s2 μ 25 12 ((μ 25 12) + (1 : Int32))) 25 ((30 : Int32) + (μ 25 12)).toNatClampNeg kd) 25 ((110 : Int32) + (μ 25 12)).toNatClampNeg bk) 25 8)) 25 8) + al)) 25 ((350 : Int32) + (μ 25 12)).toNatClampNeg (0 : Int32)) 25 ((430 : Int32) + (μ 25 12)).toNatClampNeg (0 : Int32)) Y) C 25 g_25 (by obtain ⟨m, hm, em⟩ := hM; exact vi_add 430 em (by omega) (by decide)) (p_25 _ _) dX10_comes_111 ?_
    refine v_aload_n C 1 rfl dX10_comes_112 ?_
    refine v_get (v := .ref (E.1 25)) C fl_RX10_7 24 g_24 rfl dX10_comes_113 ?_
    refine v_bipush (v := (7 : Int32)) C (by decide) dX10_comes_116 ?_
    refine v_iald (v := (s2 (s2 (s2 (s2 (s2 (s2 (s2 μ 25 12 ((μ 25 12) + (1 : Int32))) 25 ((30 : Int32) + (μ 25 12)).toNatClampNeg kd) 25 ((110 : Int32) + (μ 25 12)).toNatClampNeg bk) 25 ((190 : Int32) + (μ 25 12)).toNatClampNeg ((s2 (s2 (s2 μ 25 12 ((μ 25 12) + (1 : Int32))) 25 ((30 : Int32) + (μ 25 12)).toNatClampNeg kd) 25 ((110 : Int32) + (μ 25 12)).toNatClampNeg bk) 25 8)) 25 ((270 : Int32) + (μ 25 12)).toNatClampNeg (((s2 (s2 (s2 (s2 μ 25 12 ((μ 25 12) + (1 : Int32))) 25 ((30 : Int32) + (μ 25 12)).toNatClampNeg kd) 25 ((110 : Int32) + (μ 25 12)).toNatClampNeg bk) 25 ((190 : Int32) + (μ 25 12)).toNatClampNeg ((s2 (s2 (s2 μ 25 12 ((μ 25 12) + (1 : Int32))) 25 ((30 : Int32) + (μ 25 12)).toNatClampNeg kd) 25 ((110 : Int32) + (μ 25 12)).toNatClampNeg bk) 25 8)) 25 8) + al)) 25 ((350 : Int32) + (μ 25 12)).toNatClampNeg (0 : Int32)) 25 ((430 : Int32) + (μ 25 12)).toNatClampNeg (0 : Int32)) 25 7) C 25 g_25 vi_7_1700 (rdl tn_7 rfl) dX10_comes_118 ?_
    refine v_iconst (v := (1 : Int32)) C (by decide) dX10_comes_119 ?_
    refine v_icmp_ne (tgt := 183) C (by decide) dX10_comes_120 (fun h2 => ?_) (fun h2 => ?_)
    · refine v_iload C 0 rfl dX10_comes_183 ?_
      have e1 : F_X10_comes μ kd bk al = (μ 25 12, (s2 (s2 (s2 (s2 (s2 (s2 (s2 μ 25 12 ((μ 25 12) + (1 : Int32))) 25 ((30 : Int32) + (μ 25 12)).toNatClampNeg kd) 25 ((110 : Int32) + (μ 25 12)).toNatClampNeg bk) 25 ((190 : Int32) + (μ 25 12)).toNatClampNeg ((s2 (s2 (s2 μ 25 12 ((μ 25 12) + (1 : Int32))) 25 ((30 : Int32) + (μ 25 12)).toNatClampNeg kd) 25 ((110 : Int32) + (μ 25 12)).toNatClampNeg bk) 25 8)) 25 ((270 : Int32) + (μ 25 12)).toNatClampNeg (((s2 (s2 (s2 (s2 μ 25 12 ((μ 25 12) + (1 : Int32))) 25 ((30 : Int32) + (μ 25 12)).toNatClampNeg kd) 25 ((110 : Int32) + (μ 25 12)).toNatClampNeg bk) 25 ((190 : Int32) + (μ 25 12)).toNatClampNeg ((s2 (s2 (s2 μ 25 12 ((μ 25 12) + (1 : Int32))) 25 ((30 : Int32) + (μ 25 12)).toNatClampNeg kd) 25 ((110 : Int32) + (μ 25 12)).toNatClampNeg bk) 25 8)) 25 8) + al)) 25 ((350 : Int32) + (μ 25 12)).toNatClampNeg (0 : Int32)) 25 ((430 : Int32) + (μ 25 12)).toNatClampNeg (0 : Int32))) := by rw [F_X10_comes, if_neg h1, if_neg h2]
      exact v_Q hQ (v_iret C () trivial (by rw [e1]) (by rw [e1]) (Nat.zero_le _) (Nat.zero_le _) dX10_comes_185)
    · refine v_iload_n C 2 rfl dX10_comes_123 ?_
      refine v_iconst (v := (1 : Int32)) C (by decide) dX10_comes_124 ?_
      refine v_icmp_eq (tgt := 142) C (by decide) dX10_comes_125 (fun h3 => ?_) (fun h3 => ?_)
      · refine v_aload_n C 1 rfl dX10_comes_142 ?_
        refine v_get (v := .ref (E.1 25)) C fl_RX10_7 24 g_24 rfl dX10_comes_143 ?_
        refine v_sipush (v := (510 : Int32)) C (by decide) dX10_comes_146 ?_
        refine v_iload_n C 3 rfl dX10_comes_149 ?_
        refine v_iadd C dX10_comes_150 ?_
        refine v_iconst (v := (1 : Int32)) C (by decide) dX10_comes_151 ?_
        refine v_iast (ws' := Wd G E σ (s2 (s2 (s2 (s2 (s2 (s2 (s2 (s2 μ 25 12 ((μ 25 12) + (1 : Int32))) 25 ((30 : Int32) + (μ 25 12)).toNatClampNeg kd) 25 ((110 : Int32) + (μ 25 12)).toNatClampNeg bk) 25 ((190 : Int32) + (μ 25 12)).toNatClampNeg ((s2 (s2 (s2 μ 25 12 ((μ 25 12) + (1 : Int32))) 25 ((30 : Int32) + (μ 25 12)).toNatClampNeg kd) 25 ((110 : Int32) + (μ 25 12)).toNatClampNeg bk) 25 8)) 25 ((270 : Int32) + (μ 25 12)).toNatClampNeg (((s2 (s2 (s2 (s2 μ 25 12 ((μ 25 12) + (1 : Int32))) 25 ((30 : Int32) + (μ 25 12)).toNatClampNeg kd) 25 ((110 : Int32) + (μ 25 12)).toNatClampNeg bk) 25 ((190 : Int32) + (μ 25 12)).toNatClampNeg ((s2 (s2 (s2 μ 25 12 ((μ 25 12) + (1 : Int32))) 25 ((30 : Int32) + (μ 25 12)).toNatClampNeg kd) 25 ((110 : Int32) + (μ 25 12)).toNatClampNeg bk) 25 8)) 25 8) + al)) 25 ((350 : Int32) + (μ 25 12)).toNatClampNeg (0 : Int32)) 25 ((430 : Int32) + (μ 25 12)).toNatClampNeg (0 : Int32)) 25 ((510 : Int32) + bk).toNatClampNeg (1 : Int32)) Y) C 25 g_25 (by obtain ⟨j, hj, ej⟩ := hb; exact vi_add 510 ej (by omega) (by decide)) (p_25 _ _) dX10_comes_152 ?_
        refine v_aload_n C 1 rfl dX10_comes_153 ?_
        refine v_get (v := .ref (E.1 25)) C fl_RX10_7 24 g_24 rfl dX10_comes_154 ?_
        refine v_sipush (v := (350 : Int32)) C (by decide) dX10_comes_157 ?_
        refine v_iload C 0 rfl dX10_comes_160 ?_
        refine v_iadd C dX10_comes_162 ?_
        refine v_iconst (v := (1 : Int32)) C (by decide) dX10_comes_163 ?_
        refine v_iast (ws' := Wd G E σ (s2 (s2 (s2 (s2 (s2 (s2 (s2 (s2 (s2 μ 25 12 ((μ 25 12) + (1 : Int32))) 25 ((30 : Int32) + (μ 25 12)).toNatClampNeg kd) 25 ((110 : Int32) + (μ 25 12)).toNatClampNeg bk) 25 ((190 : Int32) + (μ 25 12)).toNatClampNeg ((s2 (s2 (s2 μ 25 12 ((μ 25 12) + (1 : Int32))) 25 ((30 : Int32) + (μ 25 12)).toNatClampNeg kd) 25 ((110 : Int32) + (μ 25 12)).toNatClampNeg bk) 25 8)) 25 ((270 : Int32) + (μ 25 12)).toNatClampNeg (((s2 (s2 (s2 (s2 μ 25 12 ((μ 25 12) + (1 : Int32))) 25 ((30 : Int32) + (μ 25 12)).toNatClampNeg kd) 25 ((110 : Int32) + (μ 25 12)).toNatClampNeg bk) 25 ((190 : Int32) + (μ 25 12)).toNatClampNeg ((s2 (s2 (s2 μ 25 12 ((μ 25 12) + (1 : Int32))) 25 ((30 : Int32) + (μ 25 12)).toNatClampNeg kd) 25 ((110 : Int32) + (μ 25 12)).toNatClampNeg bk) 25 8)) 25 8) + al)) 25 ((350 : Int32) + (μ 25 12)).toNatClampNeg (0 : Int32)) 25 ((430 : Int32) + (μ 25 12)).toNatClampNeg (0 : Int32)) 25 ((510 : Int32) + bk).toNatClampNeg (1 : Int32)) 25 ((350 : Int32) + (μ 25 12)).toNatClampNeg (1 : Int32)) Y) C 25 g_25 (by obtain ⟨m, hm, em⟩ := hM; exact vi_add 350 em (by omega) (by decide)) (p_25 _ _) dX10_comes_164 ?_
        refine v_aload_n C 1 rfl dX10_comes_165 ?_
        refine v_get (v := .ref (E.1 25)) C fl_RX10_7 24 g_24 rfl dX10_comes_166 ?_
        refine v_sipush (v := (430 : Int32)) C (by decide) dX10_comes_169 ?_
        refine v_iload C 0 rfl dX10_comes_172 ?_
        refine v_iadd C dX10_comes_174 ?_
        refine v_aload_n C 1 rfl dX10_comes_175 ?_
        refine v_get (v := .ref (E.1 25)) C fl_RX10_7 24 g_24 rfl dX10_comes_176 ?_
        refine v_bipush (v := (8 : Int32)) C (by decide) dX10_comes_179 ?_
        refine v_iald (v := (s2 (s2 (s2 (s2 (s2 (s2 (s2 (s2 (s2 μ 25 12 ((μ 25 12) + (1 : Int32))) 25 ((30 : Int32) + (μ 25 12)).toNatClampNeg kd) 25 ((110 : Int32) + (μ 25 12)).toNatClampNeg bk) 25 ((190 : Int32) + (μ 25 12)).toNatClampNeg ((s2 (s2 (s2 μ 25 12 ((μ 25 12) + (1 : Int32))) 25 ((30 : Int32) + (μ 25 12)).toNatClampNeg kd) 25 ((110 : Int32) + (μ 25 12)).toNatClampNeg bk) 25 8)) 25 ((270 : Int32) + (μ 25 12)).toNatClampNeg (((s2 (s2 (s2 (s2 μ 25 12 ((μ 25 12) + (1 : Int32))) 25 ((30 : Int32) + (μ 25 12)).toNatClampNeg kd) 25 ((110 : Int32) + (μ 25 12)).toNatClampNeg bk) 25 ((190 : Int32) + (μ 25 12)).toNatClampNeg ((s2 (s2 (s2 μ 25 12 ((μ 25 12) + (1 : Int32))) 25 ((30 : Int32) + (μ 25 12)).toNatClampNeg kd) 25 ((110 : Int32) + (μ 25 12)).toNatClampNeg bk) 25 8)) 25 8) + al)) 25 ((350 : Int32) + (μ 25 12)).toNatClampNeg (0 : Int32)) 25 ((430 : Int32) + (μ 25 12)).toNatClampNeg (0 : Int32)) 25 ((510 : Int32) + bk).toNatClampNeg (1 : Int32)) 25 ((350 : Int32) + (μ 25 12)).toNatClampNeg (1 : Int32)) 25 8) C 25 g_25 vi_8_1700 (rdl tn_8 rfl) dX10_comes_181 ?_
        refine v_iast (ws' := Wd G E σ (s2 (s2 (s2 (s2 (s2 (s2 (s2 (s2 (s2 (s2 μ 25 12 ((μ 25 12) + (1 : Int32))) 25 ((30 : Int32) + (μ 25 12)).toNatClampNeg kd) 25 ((110 : Int32) + (μ 25 12)).toNatClampNeg bk) 25 ((190 : Int32) + (μ 25 12)).toNatClampNeg ((s2 (s2 (s2 μ 25 12 ((μ 25 12) + (1 : Int32))) 25 ((30 : Int32) + (μ 25 12)).toNatClampNeg kd) 25 ((110 : Int32) + (μ 25 12)).toNatClampNeg bk) 25 8)) 25 ((270 : Int32) + (μ 25 12)).toNatClampNeg (((s2 (s2 (s2 (s2 μ 25 12 ((μ 25 12) + (1 : Int32))) 25 ((30 : Int32) + (μ 25 12)).toNatClampNeg kd) 25 ((110 : Int32) + (μ 25 12)).toNatClampNeg bk) 25 ((190 : Int32) + (μ 25 12)).toNatClampNeg ((s2 (s2 (s2 μ 25 12 ((μ 25 12) + (1 : Int32))) 25 ((30 : Int32) + (μ 25 12)).toNatClampNeg kd) 25 ((110 : Int32) + (μ 25 12)).toNatClampNeg bk) 25 8)) 25 8) + al)) 25 ((350 : Int32) + (μ 25 12)).toNatClampNeg (0 : Int32)) 25 ((430 : Int32) + (μ 25 12)).toNatClampNeg (0 : Int32)) 25 ((510 : Int32) + bk).toNatClampNeg (1 : Int32)) 25 ((350 : Int32) + (μ 25 12)).toNatClampNeg (1 : Int32)) 25 ((430 : Int32) + (μ 25 12)).toNatClampNeg ((s2 (s2 (s2 (s2 (s2 (s2 (s2 (s2 (s2 μ 25 12 ((μ 25 12) + (1 : Int32))) 25 ((30 : Int32) + (μ 25 12)).toNatClampNeg kd) 25 ((110 : Int32) + (μ 25 12)).toNatClampNeg bk) 25 ((190 : Int32) + (μ 25 12)).toNatClampNeg ((s2 (s2 (s2 μ 25 12 ((μ 25 12) + (1 : Int32))) 25 ((30 : Int32) + (μ 25 12)).toNatClampNeg kd) 25 ((110 : Int32) + (μ 25 12)).toNatClampNeg bk) 25 8)) 25 ((270 : Int32) + (μ 25 12)).toNatClampNeg (((s2 (s2 (s2 (s2 μ 25 12 ((μ 25 12) + (1 : Int32))) 25 ((30 : Int32) + (μ 25 12)).toNatClampNeg kd) 25 ((110 : Int32) + (μ 25 12)).toNatClampNeg bk) 25 ((190 : Int32) + (μ 25 12)).toNatClampNeg ((s2 (s2 (s2 μ 25 12 ((μ 25 12) + (1 : Int32))) 25 ((30 : Int32) + (μ 25 12)).toNatClampNeg kd) 25 ((110 : Int32) + (μ 25 12)).toNatClampNeg bk) 25 8)) 25 8) + al)) 25 ((350 : Int32) + (μ 25 12)).toNatClampNeg (0 : Int32)) 25 ((430 : Int32) + (μ 25 12)).toNatClampNeg (0 : Int32)) 25 ((510 : Int32) + bk).toNatClampNeg (1 : Int32)) 25 ((350 : Int32) + (μ 25 12)).toNatClampNeg (1 : Int32)) 25 8)) Y) C 25 g_25 (by obtain ⟨m, hm, em⟩ := hM; exact vi_add 430 em (by omega) (by decide)) (p_25 _ _) dX10_comes_182 ?_
        refine v_iload C 0 rfl dX10_comes_183 ?_
        have e1 : F_X10_comes μ kd bk al = (μ 25 12, (s2 (s2 (s2 (s2 (s2 (s2 (s2 (s2 (s2 (s2 μ 25 12 ((μ 25 12) + (1 : Int32))) 25 ((30 : Int32) + (μ 25 12)).toNatClampNeg kd) 25 ((110 : Int32) + (μ 25 12)).toNatClampNeg bk) 25 ((190 : Int32) + (μ 25 12)).toNatClampNeg ((s2 (s2 (s2 μ 25 12 ((μ 25 12) + (1 : Int32))) 25 ((30 : Int32) + (μ 25 12)).toNatClampNeg kd) 25 ((110 : Int32) + (μ 25 12)).toNatClampNeg bk) 25 8)) 25 ((270 : Int32) + (μ 25 12)).toNatClampNeg (((s2 (s2 (s2 (s2 μ 25 12 ((μ 25 12) + (1 : Int32))) 25 ((30 : Int32) + (μ 25 12)).toNatClampNeg kd) 25 ((110 : Int32) + (μ 25 12)).toNatClampNeg bk) 25 ((190 : Int32) + (μ 25 12)).toNatClampNeg ((s2 (s2 (s2 μ 25 12 ((μ 25 12) + (1 : Int32))) 25 ((30 : Int32) + (μ 25 12)).toNatClampNeg kd) 25 ((110 : Int32) + (μ 25 12)).toNatClampNeg bk) 25 8)) 25 8) + al)) 25 ((350 : Int32) + (μ 25 12)).toNatClampNeg (0 : Int32)) 25 ((430 : Int32) + (μ 25 12)).toNatClampNeg (0 : Int32)) 25 ((510 : Int32) + bk).toNatClampNeg (1 : Int32)) 25 ((350 : Int32) + (μ 25 12)).toNatClampNeg (1 : Int32)) 25 ((430 : Int32) + (μ 25 12)).toNatClampNeg ((s2 (s2 (s2 (s2 (s2 (s2 (s2 (s2 (s2 μ 25 12 ((μ 25 12) + (1 : Int32))) 25 ((30 : Int32) + (μ 25 12)).toNatClampNeg kd) 25 ((110 : Int32) + (μ 25 12)).toNatClampNeg bk) 25 ((190 : Int32) + (μ 25 12)).toNatClampNeg ((s2 (s2 (s2 μ 25 12 ((μ 25 12) + (1 : Int32))) 25 ((30 : Int32) + (μ 25 12)).toNatClampNeg kd) 25 ((110 : Int32) + (μ 25 12)).toNatClampNeg bk) 25 8)) 25 ((270 : Int32) + (μ 25 12)).toNatClampNeg (((s2 (s2 (s2 (s2 μ 25 12 ((μ 25 12) + (1 : Int32))) 25 ((30 : Int32) + (μ 25 12)).toNatClampNeg kd) 25 ((110 : Int32) + (μ 25 12)).toNatClampNeg bk) 25 ((190 : Int32) + (μ 25 12)).toNatClampNeg ((s2 (s2 (s2 μ 25 12 ((μ 25 12) + (1 : Int32))) 25 ((30 : Int32) + (μ 25 12)).toNatClampNeg kd) 25 ((110 : Int32) + (μ 25 12)).toNatClampNeg bk) 25 8)) 25 8) + al)) 25 ((350 : Int32) + (μ 25 12)).toNatClampNeg (0 : Int32)) 25 ((430 : Int32) + (μ 25 12)).toNatClampNeg (0 : Int32)) 25 ((510 : Int32) + bk).toNatClampNeg (1 : Int32)) 25 ((350 : Int32) + (μ 25 12)).toNatClampNeg (1 : Int32)) 25 8))) := by rw [F_X10_comes, if_neg h1, if_pos h2, if_pos h3]
        exact v_Q hQ (v_iret C () trivial (by rw [e1]) (by rw [e1]) (Nat.zero_le _) (Nat.zero_le _) dX10_comes_185)
      · refine v_aload_n C 1 rfl dX10_comes_128 ?_
        refine v_get (v := .ref (E.1 25)) C fl_RX10_7 24 g_24 rfl dX10_comes_129 ?_
        refine v_sipush (v := (510 : Int32)) C (by decide) dX10_comes_132 ?_
        refine v_iload_n C 3 rfl dX10_comes_135 ?_
        refine v_iadd C dX10_comes_136 ?_
        refine v_iald (v := (s2 (s2 (s2 (s2 (s2 (s2 (s2 μ 25 12 ((μ 25 12) + (1 : Int32))) 25 ((30 : Int32) + (μ 25 12)).toNatClampNeg kd) 25 ((110 : Int32) + (μ 25 12)).toNatClampNeg bk) 25 ((190 : Int32) + (μ 25 12)).toNatClampNeg ((s2 (s2 (s2 μ 25 12 ((μ 25 12) + (1 : Int32))) 25 ((30 : Int32) + (μ 25 12)).toNatClampNeg kd) 25 ((110 : Int32) + (μ 25 12)).toNatClampNeg bk) 25 8)) 25 ((270 : Int32) + (μ 25 12)).toNatClampNeg (((s2 (s2 (s2 (s2 μ 25 12 ((μ 25 12) + (1 : Int32))) 25 ((30 : Int32) + (μ 25 12)).toNatClampNeg kd) 25 ((110 : Int32) + (μ 25 12)).toNatClampNeg bk) 25 ((190 : Int32) + (μ 25 12)).toNatClampNeg ((s2 (s2 (s2 μ 25 12 ((μ 25 12) + (1 : Int32))) 25 ((30 : Int32) + (μ 25 12)).toNatClampNeg kd) 25 ((110 : Int32) + (μ 25 12)).toNatClampNeg bk) 25 8)) 25 8) + al)) 25 ((350 : Int32) + (μ 25 12)).toNatClampNeg (0 : Int32)) 25 ((430 : Int32) + (μ 25 12)).toNatClampNeg (0 : Int32)) 25 ((510 : Int32) + bk).toNatClampNeg) C 25 g_25 (by obtain ⟨j, hj, ej⟩ := hb; exact vi_add 510 ej (by omega) (by decide)) rfl dX10_comes_137 ?_
        refine v_iconst (v := (1 : Int32)) C (by decide) dX10_comes_138 ?_
        refine v_icmp_ne (tgt := 183) C (by decide) dX10_comes_139 (fun h4 => ?_) (fun h4 => ?_)
        · refine v_iload C 0 rfl dX10_comes_183 ?_
          have e1 : F_X10_comes μ kd bk al = (μ 25 12, (s2 (s2 (s2 (s2 (s2 (s2 (s2 μ 25 12 ((μ 25 12) + (1 : Int32))) 25 ((30 : Int32) + (μ 25 12)).toNatClampNeg kd) 25 ((110 : Int32) + (μ 25 12)).toNatClampNeg bk) 25 ((190 : Int32) + (μ 25 12)).toNatClampNeg ((s2 (s2 (s2 μ 25 12 ((μ 25 12) + (1 : Int32))) 25 ((30 : Int32) + (μ 25 12)).toNatClampNeg kd) 25 ((110 : Int32) + (μ 25 12)).toNatClampNeg bk) 25 8)) 25 ((270 : Int32) + (μ 25 12)).toNatClampNeg (((s2 (s2 (s2 (s2 μ 25 12 ((μ 25 12) + (1 : Int32))) 25 ((30 : Int32) + (μ 25 12)).toNatClampNeg kd) 25 ((110 : Int32) + (μ 25 12)).toNatClampNeg bk) 25 ((190 : Int32) + (μ 25 12)).toNatClampNeg ((s2 (s2 (s2 μ 25 12 ((μ 25 12) + (1 : Int32))) 25 ((30 : Int32) + (μ 25 12)).toNatClampNeg kd) 25 ((110 : Int32) + (μ 25 12)).toNatClampNeg bk) 25 8)) 25 8) + al)) 25 ((350 : Int32) + (μ 25 12)).toNatClampNeg (0 : Int32)) 25 ((430 : Int32) + (μ 25 12)).toNatClampNeg (0 : Int32))) := by rw [F_X10_comes, if_neg h1, if_pos h2, if_neg h3, if_neg h4]
          exact v_Q hQ (v_iret C () trivial (by rw [e1]) (by rw [e1]) (Nat.zero_le _) (Nat.zero_le _) dX10_comes_185)
        · refine v_aload_n C 1 rfl dX10_comes_142 ?_
          refine v_get (v := .ref (E.1 25)) C fl_RX10_7 24 g_24 rfl dX10_comes_143 ?_
          refine v_sipush (v := (510 : Int32)) C (by decide) dX10_comes_146 ?_
          refine v_iload_n C 3 rfl dX10_comes_149 ?_
          refine v_iadd C dX10_comes_150 ?_
          refine v_iconst (v := (1 : Int32)) C (by decide) dX10_comes_151 ?_
          refine v_iast (ws' := Wd G E σ (s2 (s2 (s2 (s2 (s2 (s2 (s2 (s2 μ 25 12 ((μ 25 12) + (1 : Int32))) 25 ((30 : Int32) + (μ 25 12)).toNatClampNeg kd) 25 ((110 : Int32) + (μ 25 12)).toNatClampNeg bk) 25 ((190 : Int32) + (μ 25 12)).toNatClampNeg ((s2 (s2 (s2 μ 25 12 ((μ 25 12) + (1 : Int32))) 25 ((30 : Int32) + (μ 25 12)).toNatClampNeg kd) 25 ((110 : Int32) + (μ 25 12)).toNatClampNeg bk) 25 8)) 25 ((270 : Int32) + (μ 25 12)).toNatClampNeg (((s2 (s2 (s2 (s2 μ 25 12 ((μ 25 12) + (1 : Int32))) 25 ((30 : Int32) + (μ 25 12)).toNatClampNeg kd) 25 ((110 : Int32) + (μ 25 12)).toNatClampNeg bk) 25 ((190 : Int32) + (μ 25 12)).toNatClampNeg ((s2 (s2 (s2 μ 25 12 ((μ 25 12) + (1 : Int32))) 25 ((30 : Int32) + (μ 25 12)).toNatClampNeg kd) 25 ((110 : Int32) + (μ 25 12)).toNatClampNeg bk) 25 8)) 25 8) + al)) 25 ((350 : Int32) + (μ 25 12)).toNatClampNeg (0 : Int32)) 25 ((430 : Int32) + (μ 25 12)).toNatClampNeg (0 : Int32)) 25 ((510 : Int32) + bk).toNatClampNeg (1 : Int32)) Y) C 25 g_25 (by obtain ⟨j, hj, ej⟩ := hb; exact vi_add 510 ej (by omega) (by decide)) (p_25 _ _) dX10_comes_152 ?_
          refine v_aload_n C 1 rfl dX10_comes_153 ?_
          refine v_get (v := .ref (E.1 25)) C fl_RX10_7 24 g_24 rfl dX10_comes_154 ?_
          refine v_sipush (v := (350 : Int32)) C (by decide) dX10_comes_157 ?_
          refine v_iload C 0 rfl dX10_comes_160 ?_
          refine v_iadd C dX10_comes_162 ?_
          refine v_iconst (v := (1 : Int32)) C (by decide) dX10_comes_163 ?_
          refine v_iast (ws' := Wd G E σ (s2 (s2 (s2 (s2 (s2 (s2 (s2 (s2 (s2 μ 25 12 ((μ 25 12) + (1 : Int32))) 25 ((30 : Int32) + (μ 25 12)).toNatClampNeg kd) 25 ((110 : Int32) + (μ 25 12)).toNatClampNeg bk) 25 ((190 : Int32) + (μ 25 12)).toNatClampNeg ((s2 (s2 (s2 μ 25 12 ((μ 25 12) + (1 : Int32))) 25 ((30 : Int32) + (μ 25 12)).toNatClampNeg kd) 25 ((110 : Int32) + (μ 25 12)).toNatClampNeg bk) 25 8)) 25 ((270 : Int32) + (μ 25 12)).toNatClampNeg (((s2 (s2 (s2 (s2 μ 25 12 ((μ 25 12) + (1 : Int32))) 25 ((30 : Int32) + (μ 25 12)).toNatClampNeg kd) 25 ((110 : Int32) + (μ 25 12)).toNatClampNeg bk) 25 ((190 : Int32) + (μ 25 12)).toNatClampNeg ((s2 (s2 (s2 μ 25 12 ((μ 25 12) + (1 : Int32))) 25 ((30 : Int32) + (μ 25 12)).toNatClampNeg kd) 25 ((110 : Int32) + (μ 25 12)).toNatClampNeg bk) 25 8)) 25 8) + al)) 25 ((350 : Int32) + (μ 25 12)).toNatClampNeg (0 : Int32)) 25 ((430 : Int32) + (μ 25 12)).toNatClampNeg (0 : Int32)) 25 ((510 : Int32) + bk).toNatClampNeg (1 : Int32)) 25 ((350 : Int32) + (μ 25 12)).toNatClampNeg (1 : Int32)) Y) C 25 g_25 (by obtain ⟨m, hm, em⟩ := hM; exact vi_add 350 em (by omega) (by decide)) (p_25 _ _) dX10_comes_164 ?_
          refine v_aload_n C 1 rfl dX10_comes_165 ?_
          refine v_get (v := .ref (E.1 25)) C fl_RX10_7 24 g_24 rfl dX10_comes_166 ?_
          refine v_sipush (v := (430 : Int32)) C (by decide) dX10_comes_169 ?_
          refine v_iload C 0 rfl dX10_comes_172 ?_
          refine v_iadd C dX10_comes_174 ?_
          refine v_aload_n C 1 rfl dX10_comes_175 ?_
          refine v_get (v := .ref (E.1 25)) C fl_RX10_7 24 g_24 rfl dX10_comes_176 ?_
          refine v_bipush (v := (8 : Int32)) C (by decide) dX10_comes_179 ?_
          refine v_iald (v := (s2 (s2 (s2 (s2 (s2 (s2 (s2 (s2 (s2 μ 25 12 ((μ 25 12) + (1 : Int32))) 25 ((30 : Int32) + (μ 25 12)).toNatClampNeg kd) 25 ((110 : Int32) + (μ 25 12)).toNatClampNeg bk) 25 ((190 : Int32) + (μ 25 12)).toNatClampNeg ((s2 (s2 (s2 μ 25 12 ((μ 25 12) + (1 : Int32))) 25 ((30 : Int32) + (μ 25 12)).toNatClampNeg kd) 25 ((110 : Int32) + (μ 25 12)).toNatClampNeg bk) 25 8)) 25 ((270 : Int32) + (μ 25 12)).toNatClampNeg (((s2 (s2 (s2 (s2 μ 25 12 ((μ 25 12) + (1 : Int32))) 25 ((30 : Int32) + (μ 25 12)).toNatClampNeg kd) 25 ((110 : Int32) + (μ 25 12)).toNatClampNeg bk) 25 ((190 : Int32) + (μ 25 12)).toNatClampNeg ((s2 (s2 (s2 μ 25 12 ((μ 25 12) + (1 : Int32))) 25 ((30 : Int32) + (μ 25 12)).toNatClampNeg kd) 25 ((110 : Int32) + (μ 25 12)).toNatClampNeg bk) 25 8)) 25 8) + al)) 25 ((350 : Int32) + (μ 25 12)).toNatClampNeg (0 : Int32)) 25 ((430 : Int32) + (μ 25 12)).toNatClampNeg (0 : Int32)) 25 ((510 : Int32) + bk).toNatClampNeg (1 : Int32)) 25 ((350 : Int32) + (μ 25 12)).toNatClampNeg (1 : Int32)) 25 8) C 25 g_25 vi_8_1700 (rdl tn_8 rfl) dX10_comes_181 ?_
          refine v_iast (ws' := Wd G E σ (s2 (s2 (s2 (s2 (s2 (s2 (s2 (s2 (s2 (s2 μ 25 12 ((μ 25 12) + (1 : Int32))) 25 ((30 : Int32) + (μ 25 12)).toNatClampNeg kd) 25 ((110 : Int32) + (μ 25 12)).toNatClampNeg bk) 25 ((190 : Int32) + (μ 25 12)).toNatClampNeg ((s2 (s2 (s2 μ 25 12 ((μ 25 12) + (1 : Int32))) 25 ((30 : Int32) + (μ 25 12)).toNatClampNeg kd) 25 ((110 : Int32) + (μ 25 12)).toNatClampNeg bk) 25 8)) 25 ((270 : Int32) + (μ 25 12)).toNatClampNeg (((s2 (s2 (s2 (s2 μ 25 12 ((μ 25 12) + (1 : Int32))) 25 ((30 : Int32) + (μ 25 12)).toNatClampNeg kd) 25 ((110 : Int32) + (μ 25 12)).toNatClampNeg bk) 25 ((190 : Int32) + (μ 25 12)).toNatClampNeg ((s2 (s2 (s2 μ 25 12 ((μ 25 12) + (1 : Int32))) 25 ((30 : Int32) + (μ 25 12)).toNatClampNeg kd) 25 ((110 : Int32) + (μ 25 12)).toNatClampNeg bk) 25 8)) 25 8) + al)) 25 ((350 : Int32) + (μ 25 12)).toNatClampNeg (0 : Int32)) 25 ((430 : Int32) + (μ 25 12)).toNatClampNeg (0 : Int32)) 25 ((510 : Int32) + bk).toNatClampNeg (1 : Int32)) 25 ((350 : Int32) + (μ 25 12)).toNatClampNeg (1 : Int32)) 25 ((430 : Int32) + (μ 25 12)).toNatClampNeg ((s2 (s2 (s2 (s2 (s2 (s2 (s2 (s2 (s2 μ 25 12 ((μ 25 12) + (1 : Int32))) 25 ((30 : Int32) + (μ 25 12)).toNatClampNeg kd) 25 ((110 : Int32) + (μ 25 12)).toNatClampNeg bk) 25 ((190 : Int32) + (μ 25 12)).toNatClampNeg ((s2 (s2 (s2 μ 25 12 ((μ 25 12) + (1 : Int32))) 25 ((30 : Int32) + (μ 25 12)).toNatClampNeg kd) 25 ((110 : Int32) + (μ 25 12)).toNatClampNeg bk) 25 8)) 25 ((270 : Int32) + (μ 25 12)).toNatClampNeg (((s2 (s2 (s2 (s2 μ 25 12 ((μ 25 12) + (1 : Int32))) 25 ((30 : Int32) + (μ 25 12)).toNatClampNeg kd) 25 ((110 : Int32) + (μ 25 12)).toNatClampNeg bk) 25 ((190 : Int32) + (μ 25 12)).toNatClampNeg ((s2 (s2 (s2 μ 25 12 ((μ 25 12) + (1 : Int32))) 25 ((30 : Int32) + (μ 25 12)).toNatClampNeg kd) 25 ((110 : Int32) + (μ 25 12)).toNatClampNeg bk) 25 8)) 25 8) + al)) 25 ((350 : Int32) + (μ 25 12)).toNatClampNeg (0 : Int32)) 25 ((430 : Int32) + (μ 25 12)).toNatClampNeg (0 : Int32)) 25 ((510 : Int32) + bk).toNatClampNeg (1 : Int32)) 25 ((350 : Int32) + (μ 25 12)).toNatClampNeg (1 : Int32)) 25 8)) Y) C 25 g_25 (by obtain ⟨m, hm, em⟩ := hM; exact vi_add 430 em (by omega) (by decide)) (p_25 _ _) dX10_comes_182 ?_
          refine v_iload C 0 rfl dX10_comes_183 ?_
          have e1 : F_X10_comes μ kd bk al = (μ 25 12, (s2 (s2 (s2 (s2 (s2 (s2 (s2 (s2 (s2 (s2 μ 25 12 ((μ 25 12) + (1 : Int32))) 25 ((30 : Int32) + (μ 25 12)).toNatClampNeg kd) 25 ((110 : Int32) + (μ 25 12)).toNatClampNeg bk) 25 ((190 : Int32) + (μ 25 12)).toNatClampNeg ((s2 (s2 (s2 μ 25 12 ((μ 25 12) + (1 : Int32))) 25 ((30 : Int32) + (μ 25 12)).toNatClampNeg kd) 25 ((110 : Int32) + (μ 25 12)).toNatClampNeg bk) 25 8)) 25 ((270 : Int32) + (μ 25 12)).toNatClampNeg (((s2 (s2 (s2 (s2 μ 25 12 ((μ 25 12) + (1 : Int32))) 25 ((30 : Int32) + (μ 25 12)).toNatClampNeg kd) 25 ((110 : Int32) + (μ 25 12)).toNatClampNeg bk) 25 ((190 : Int32) + (μ 25 12)).toNatClampNeg ((s2 (s2 (s2 μ 25 12 ((μ 25 12) + (1 : Int32))) 25 ((30 : Int32) + (μ 25 12)).toNatClampNeg kd) 25 ((110 : Int32) + (μ 25 12)).toNatClampNeg bk) 25 8)) 25 8) + al)) 25 ((350 : Int32) + (μ 25 12)).toNatClampNeg (0 : Int32)) 25 ((430 : Int32) + (μ 25 12)).toNatClampNeg (0 : Int32)) 25 ((510 : Int32) + bk).toNatClampNeg (1 : Int32)) 25 ((350 : Int32) + (μ 25 12)).toNatClampNeg (1 : Int32)) 25 ((430 : Int32) + (μ 25 12)).toNatClampNeg ((s2 (s2 (s2 (s2 (s2 (s2 (s2 (s2 (s2 μ 25 12 ((μ 25 12) + (1 : Int32))) 25 ((30 : Int32) + (μ 25 12)).toNatClampNeg kd) 25 ((110 : Int32) + (μ 25 12)).toNatClampNeg bk) 25 ((190 : Int32) + (μ 25 12)).toNatClampNeg ((s2 (s2 (s2 μ 25 12 ((μ 25 12) + (1 : Int32))) 25 ((30 : Int32) + (μ 25 12)).toNatClampNeg kd) 25 ((110 : Int32) + (μ 25 12)).toNatClampNeg bk) 25 8)) 25 ((270 : Int32) + (μ 25 12)).toNatClampNeg (((s2 (s2 (s2 (s2 μ 25 12 ((μ 25 12) + (1 : Int32))) 25 ((30 : Int32) + (μ 25 12)).toNatClampNeg kd) 25 ((110 : Int32) + (μ 25 12)).toNatClampNeg bk) 25 ((190 : Int32) + (μ 25 12)).toNatClampNeg ((s2 (s2 (s2 μ 25 12 ((μ 25 12) + (1 : Int32))) 25 ((30 : Int32) + (μ 25 12)).toNatClampNeg kd) 25 ((110 : Int32) + (μ 25 12)).toNatClampNeg bk) 25 8)) 25 8) + al)) 25 ((350 : Int32) + (μ 25 12)).toNatClampNeg (0 : Int32)) 25 ((430 : Int32) + (μ 25 12)).toNatClampNeg (0 : Int32)) 25 ((510 : Int32) + bk).toNatClampNeg (1 : Int32)) 25 ((350 : Int32) + (μ 25 12)).toNatClampNeg (1 : Int32)) 25 8))) := by rw [F_X10_comes, if_neg h1, if_pos h2, if_neg h3, if_pos h4]
          exact v_Q hQ (v_iret C () trivial (by rw [e1]) (by rw [e1]) (Nat.zero_le _) (Nat.zero_le _) dX10_comes_185)
  · refine v_iconst (v := (-1 : Int32)) C (by decide) dX10_comes_74 ?_
    refine v_goto (tgt := 87) C (by decide) dX10_comes_75 ?_
    refine v_iast (ws' := Wd G E σ (s2 (s2 (s2 (s2 (s2 μ 25 12 ((μ 25 12) + (1 : Int32))) 25 ((30 : Int32) + (μ 25 12)).toNatClampNeg kd) 25 ((110 : Int32) + (μ 25 12)).toNatClampNeg bk) 25 ((190 : Int32) + (μ 25 12)).toNatClampNeg ((s2 (s2 (s2 μ 25 12 ((μ 25 12) + (1 : Int32))) 25 ((30 : Int32) + (μ 25 12)).toNatClampNeg kd) 25 ((110 : Int32) + (μ 25 12)).toNatClampNeg bk) 25 8)) 25 ((270 : Int32) + (μ 25 12)).toNatClampNeg (-1 : Int32)) Y) C 25 g_25 (by obtain ⟨m, hm, em⟩ := hM; exact vi_add 270 em (by omega) (by decide)) (p_25 _ _) dX10_comes_87 ?_
    refine v_aload_n C 1 rfl dX10_comes_88 ?_
    refine v_get (v := .ref (E.1 25)) C fl_RX10_7 24 g_24 rfl dX10_comes_89 ?_
    refine v_sipush (v := (350 : Int32)) C (by decide) dX10_comes_92 ?_
    refine v_iload C 0 rfl dX10_comes_95 ?_
    refine v_iadd C dX10_comes_97 ?_
    refine v_iconst (v := (0 : Int32)) C (by decide) dX10_comes_98 ?_
    refine v_iast (ws' := Wd G E σ (s2 (s2 (s2 (s2 (s2 (s2 μ 25 12 ((μ 25 12) + (1 : Int32))) 25 ((30 : Int32) + (μ 25 12)).toNatClampNeg kd) 25 ((110 : Int32) + (μ 25 12)).toNatClampNeg bk) 25 ((190 : Int32) + (μ 25 12)).toNatClampNeg ((s2 (s2 (s2 μ 25 12 ((μ 25 12) + (1 : Int32))) 25 ((30 : Int32) + (μ 25 12)).toNatClampNeg kd) 25 ((110 : Int32) + (μ 25 12)).toNatClampNeg bk) 25 8)) 25 ((270 : Int32) + (μ 25 12)).toNatClampNeg (-1 : Int32)) 25 ((350 : Int32) + (μ 25 12)).toNatClampNeg (0 : Int32)) Y) C 25 g_25 (by obtain ⟨m, hm, em⟩ := hM; exact vi_add 350 em (by omega) (by decide)) (p_25 _ _) dX10_comes_99 ?_
    refine v_aload_n C 1 rfl dX10_comes_100 ?_
    refine v_get (v := .ref (E.1 25)) C fl_RX10_7 24 g_24 rfl dX10_comes_101 ?_
    refine v_sipush (v := (430 : Int32)) C (by decide) dX10_comes_104 ?_
    refine v_iload C 0 rfl dX10_comes_107 ?_
    refine v_iadd C dX10_comes_109 ?_
    refine v_iconst (v := (0 : Int32)) C (by decide) dX10_comes_110 ?_
    refine v_iast (ws' := Wd G E σ (s2 (s2 (s2 (s2 (s2 (s2 (s2 μ 25 12 ((μ 25 12) + (1 : Int32))) 25 ((30 : Int32) + (μ 25 12)).toNatClampNeg kd) 25 ((110 : Int32) + (μ 25 12)).toNatClampNeg bk) 25 ((190 : Int32) + (μ 25 12)).toNatClampNeg ((s2 (s2 (s2 μ 25 12 ((μ 25 12) + (1 : Int32))) 25 ((30 : Int32) + (μ 25 12)).toNatClampNeg kd) 25 ((110 : Int32) + (μ 25 12)).toNatClampNeg bk) 25 8)) 25 ((270 : Int32) + (μ 25 12)).toNatClampNeg (-1 : Int32)) 25 ((350 : Int32) + (μ 25 12)).toNatClampNeg (0 : Int32)) 25 ((430 : Int32) + (μ 25 12)).toNatClampNeg (0 : Int32)) Y) C 25 g_25 (by obtain ⟨m, hm, em⟩ := hM; exact vi_add 430 em (by omega) (by decide)) (p_25 _ _) dX10_comes_111 ?_
    refine v_aload_n C 1 rfl dX10_comes_112 ?_
    refine v_get (v := .ref (E.1 25)) C fl_RX10_7 24 g_24 rfl dX10_comes_113 ?_
    refine v_bipush (v := (7 : Int32)) C (by decide) dX10_comes_116 ?_
    refine v_iald (v := (s2 (s2 (s2 (s2 (s2 (s2 (s2 μ 25 12 ((μ 25 12) + (1 : Int32))) 25 ((30 : Int32) + (μ 25 12)).toNatClampNeg kd) 25 ((110 : Int32) + (μ 25 12)).toNatClampNeg bk) 25 ((190 : Int32) + (μ 25 12)).toNatClampNeg ((s2 (s2 (s2 μ 25 12 ((μ 25 12) + (1 : Int32))) 25 ((30 : Int32) + (μ 25 12)).toNatClampNeg kd) 25 ((110 : Int32) + (μ 25 12)).toNatClampNeg bk) 25 8)) 25 ((270 : Int32) + (μ 25 12)).toNatClampNeg (-1 : Int32)) 25 ((350 : Int32) + (μ 25 12)).toNatClampNeg (0 : Int32)) 25 ((430 : Int32) + (μ 25 12)).toNatClampNeg (0 : Int32)) 25 7) C 25 g_25 vi_7_1700 (rdl tn_7 rfl) dX10_comes_118 ?_
    refine v_iconst (v := (1 : Int32)) C (by decide) dX10_comes_119 ?_
    refine v_icmp_ne (tgt := 183) C (by decide) dX10_comes_120 (fun h5 => ?_) (fun h5 => ?_)
    · refine v_iload C 0 rfl dX10_comes_183 ?_
      have e1 : F_X10_comes μ kd bk al = (μ 25 12, (s2 (s2 (s2 (s2 (s2 (s2 (s2 μ 25 12 ((μ 25 12) + (1 : Int32))) 25 ((30 : Int32) + (μ 25 12)).toNatClampNeg kd) 25 ((110 : Int32) + (μ 25 12)).toNatClampNeg bk) 25 ((190 : Int32) + (μ 25 12)).toNatClampNeg ((s2 (s2 (s2 μ 25 12 ((μ 25 12) + (1 : Int32))) 25 ((30 : Int32) + (μ 25 12)).toNatClampNeg kd) 25 ((110 : Int32) + (μ 25 12)).toNatClampNeg bk) 25 8)) 25 ((270 : Int32) + (μ 25 12)).toNatClampNeg (-1 : Int32)) 25 ((350 : Int32) + (μ 25 12)).toNatClampNeg (0 : Int32)) 25 ((430 : Int32) + (μ 25 12)).toNatClampNeg (0 : Int32))) := by rw [F_X10_comes, if_pos h1, if_neg h5]
      exact v_Q hQ (v_iret C () trivial (by rw [e1]) (by rw [e1]) (Nat.zero_le _) (Nat.zero_le _) dX10_comes_185)
    · refine v_iload_n C 2 rfl dX10_comes_123 ?_
      refine v_iconst (v := (1 : Int32)) C (by decide) dX10_comes_124 ?_
      refine v_icmp_eq (tgt := 142) C (by decide) dX10_comes_125 (fun h6 => ?_) (fun h6 => ?_)
      · refine v_aload_n C 1 rfl dX10_comes_142 ?_
        refine v_get (v := .ref (E.1 25)) C fl_RX10_7 24 g_24 rfl dX10_comes_143 ?_
        refine v_sipush (v := (510 : Int32)) C (by decide) dX10_comes_146 ?_
        refine v_iload_n C 3 rfl dX10_comes_149 ?_
        refine v_iadd C dX10_comes_150 ?_
        refine v_iconst (v := (1 : Int32)) C (by decide) dX10_comes_151 ?_
        refine v_iast (ws' := Wd G E σ (s2 (s2 (s2 (s2 (s2 (s2 (s2 (s2 μ 25 12 ((μ 25 12) + (1 : Int32))) 25 ((30 : Int32) + (μ 25 12)).toNatClampNeg kd) 25 ((110 : Int32) + (μ 25 12)).toNatClampNeg bk) 25 ((190 : Int32) + (μ 25 12)).toNatClampNeg ((s2 (s2 (s2 μ 25 12 ((μ 25 12) + (1 : Int32))) 25 ((30 : Int32) + (μ 25 12)).toNatClampNeg kd) 25 ((110 : Int32) + (μ 25 12)).toNatClampNeg bk) 25 8)) 25 ((270 : Int32) + (μ 25 12)).toNatClampNeg (-1 : Int32)) 25 ((350 : Int32) + (μ 25 12)).toNatClampNeg (0 : Int32)) 25 ((430 : Int32) + (μ 25 12)).toNatClampNeg (0 : Int32)) 25 ((510 : Int32) + bk).toNatClampNeg (1 : Int32)) Y) C 25 g_25 (by obtain ⟨j, hj, ej⟩ := hb; exact vi_add 510 ej (by omega) (by decide)) (p_25 _ _) dX10_comes_152 ?_
        refine v_aload_n C 1 rfl dX10_comes_153 ?_
        refine v_get (v := .ref (E.1 25)) C fl_RX10_7 24 g_24 rfl dX10_comes_154 ?_
        refine v_sipush (v := (350 : Int32)) C (by decide) dX10_comes_157 ?_
        refine v_iload C 0 rfl dX10_comes_160 ?_
        refine v_iadd C dX10_comes_162 ?_
        refine v_iconst (v := (1 : Int32)) C (by decide) dX10_comes_163 ?_
        refine v_iast (ws' := Wd G E σ (s2 (s2 (s2 (s2 (s2 (s2 (s2 (s2 (s2 μ 25 12 ((μ 25 12) + (1 : Int32))) 25 ((30 : Int32) + (μ 25 12)).toNatClampNeg kd) 25 ((110 : Int32) + (μ 25 12)).toNatClampNeg bk) 25 ((190 : Int32) + (μ 25 12)).toNatClampNeg ((s2 (s2 (s2 μ 25 12 ((μ 25 12) + (1 : Int32))) 25 ((30 : Int32) + (μ 25 12)).toNatClampNeg kd) 25 ((110 : Int32) + (μ 25 12)).toNatClampNeg bk) 25 8)) 25 ((270 : Int32) + (μ 25 12)).toNatClampNeg (-1 : Int32)) 25 ((350 : Int32) + (μ 25 12)).toNatClampNeg (0 : Int32)) 25 ((430 : Int32) + (μ 25 12)).toNatClampNeg (0 : Int32)) 25 ((510 : Int32) + bk).toNatClampNeg (1 : Int32)) 25 ((350 : Int32) + (μ 25 12)).toNatClampNeg (1 : Int32)) Y) C 25 g_25 (by obtain ⟨m, hm, em⟩ := hM; exact vi_add 350 em (by omega) (by decide)) (p_25 _ _) dX10_comes_164 ?_
        refine v_aload_n C 1 rfl dX10_comes_165 ?_
        refine v_get (v := .ref (E.1 25)) C fl_RX10_7 24 g_24 rfl dX10_comes_166 ?_
        refine v_sipush (v := (430 : Int32)) C (by decide) dX10_comes_169 ?_
        refine v_iload C 0 rfl dX10_comes_172 ?_
        refine v_iadd C dX10_comes_174 ?_
        refine v_aload_n C 1 rfl dX10_comes_175 ?_
        refine v_get (v := .ref (E.1 25)) C fl_RX10_7 24 g_24 rfl dX10_comes_176 ?_
        refine v_bipush (v := (8 : Int32)) C (by decide) dX10_comes_179 ?_
        refine v_iald (v := (s2 (s2 (s2 (s2 (s2 (s2 (s2 (s2 (s2 μ 25 12 ((μ 25 12) + (1 : Int32))) 25 ((30 : Int32) + (μ 25 12)).toNatClampNeg kd) 25 ((110 : Int32) + (μ 25 12)).toNatClampNeg bk) 25 ((190 : Int32) + (μ 25 12)).toNatClampNeg ((s2 (s2 (s2 μ 25 12 ((μ 25 12) + (1 : Int32))) 25 ((30 : Int32) + (μ 25 12)).toNatClampNeg kd) 25 ((110 : Int32) + (μ 25 12)).toNatClampNeg bk) 25 8)) 25 ((270 : Int32) + (μ 25 12)).toNatClampNeg (-1 : Int32)) 25 ((350 : Int32) + (μ 25 12)).toNatClampNeg (0 : Int32)) 25 ((430 : Int32) + (μ 25 12)).toNatClampNeg (0 : Int32)) 25 ((510 : Int32) + bk).toNatClampNeg (1 : Int32)) 25 ((350 : Int32) + (μ 25 12)).toNatClampNeg (1 : Int32)) 25 8) C 25 g_25 vi_8_1700 (rdl tn_8 rfl) dX10_comes_181 ?_
        refine v_iast (ws' := Wd G E σ (s2 (s2 (s2 (s2 (s2 (s2 (s2 (s2 (s2 (s2 μ 25 12 ((μ 25 12) + (1 : Int32))) 25 ((30 : Int32) + (μ 25 12)).toNatClampNeg kd) 25 ((110 : Int32) + (μ 25 12)).toNatClampNeg bk) 25 ((190 : Int32) + (μ 25 12)).toNatClampNeg ((s2 (s2 (s2 μ 25 12 ((μ 25 12) + (1 : Int32))) 25 ((30 : Int32) + (μ 25 12)).toNatClampNeg kd) 25 ((110 : Int32) + (μ 25 12)).toNatClampNeg bk) 25 8)) 25 ((270 : Int32) + (μ 25 12)).toNatClampNeg (-1 : Int32)) 25 ((350 : Int32) + (μ 25 12)).toNatClampNeg (0 : Int32)) 25 ((430 : Int32) + (μ 25 12)).toNatClampNeg (0 : Int32)) 25 ((510 : Int32) + bk).toNatClampNeg (1 : Int32)) 25 ((350 : Int32) + (μ 25 12)).toNatClampNeg (1 : Int32)) 25 ((430 : Int32) + (μ 25 12)).toNatClampNeg ((s2 (s2 (s2 (s2 (s2 (s2 (s2 (s2 (s2 μ 25 12 ((μ 25 12) + (1 : Int32))) 25 ((30 : Int32) + (μ 25 12)).toNatClampNeg kd) 25 ((110 : Int32) + (μ 25 12)).toNatClampNeg bk) 25 ((190 : Int32) + (μ 25 12)).toNatClampNeg ((s2 (s2 (s2 μ 25 12 ((μ 25 12) + (1 : Int32))) 25 ((30 : Int32) + (μ 25 12)).toNatClampNeg kd) 25 ((110 : Int32) + (μ 25 12)).toNatClampNeg bk) 25 8)) 25 ((270 : Int32) + (μ 25 12)).toNatClampNeg (-1 : Int32)) 25 ((350 : Int32) + (μ 25 12)).toNatClampNeg (0 : Int32)) 25 ((430 : Int32) + (μ 25 12)).toNatClampNeg (0 : Int32)) 25 ((510 : Int32) + bk).toNatClampNeg (1 : Int32)) 25 ((350 : Int32) + (μ 25 12)).toNatClampNeg (1 : Int32)) 25 8)) Y) C 25 g_25 (by obtain ⟨m, hm, em⟩ := hM; exact vi_add 430 em (by omega) (by decide)) (p_25 _ _) dX10_comes_182 ?_
        refine v_iload C 0 rfl dX10_comes_183 ?_
        have e1 : F_X10_comes μ kd bk al = (μ 25 12, (s2 (s2 (s2 (s2 (s2 (s2 (s2 (s2 (s2 (s2 μ 25 12 ((μ 25 12) + (1 : Int32))) 25 ((30 : Int32) + (μ 25 12)).toNatClampNeg kd) 25 ((110 : Int32) + (μ 25 12)).toNatClampNeg bk) 25 ((190 : Int32) + (μ 25 12)).toNatClampNeg ((s2 (s2 (s2 μ 25 12 ((μ 25 12) + (1 : Int32))) 25 ((30 : Int32) + (μ 25 12)).toNatClampNeg kd) 25 ((110 : Int32) + (μ 25 12)).toNatClampNeg bk) 25 8)) 25 ((270 : Int32) + (μ 25 12)).toNatClampNeg (-1 : Int32)) 25 ((350 : Int32) + (μ 25 12)).toNatClampNeg (0 : Int32)) 25 ((430 : Int32) + (μ 25 12)).toNatClampNeg (0 : Int32)) 25 ((510 : Int32) + bk).toNatClampNeg (1 : Int32)) 25 ((350 : Int32) + (μ 25 12)).toNatClampNeg (1 : Int32)) 25 ((430 : Int32) + (μ 25 12)).toNatClampNeg ((s2 (s2 (s2 (s2 (s2 (s2 (s2 (s2 (s2 μ 25 12 ((μ 25 12) + (1 : Int32))) 25 ((30 : Int32) + (μ 25 12)).toNatClampNeg kd) 25 ((110 : Int32) + (μ 25 12)).toNatClampNeg bk) 25 ((190 : Int32) + (μ 25 12)).toNatClampNeg ((s2 (s2 (s2 μ 25 12 ((μ 25 12) + (1 : Int32))) 25 ((30 : Int32) + (μ 25 12)).toNatClampNeg kd) 25 ((110 : Int32) + (μ 25 12)).toNatClampNeg bk) 25 8)) 25 ((270 : Int32) + (μ 25 12)).toNatClampNeg (-1 : Int32)) 25 ((350 : Int32) + (μ 25 12)).toNatClampNeg (0 : Int32)) 25 ((430 : Int32) + (μ 25 12)).toNatClampNeg (0 : Int32)) 25 ((510 : Int32) + bk).toNatClampNeg (1 : Int32)) 25 ((350 : Int32) + (μ 25 12)).toNatClampNeg (1 : Int32)) 25 8))) := by rw [F_X10_comes, if_pos h1, if_pos h5, if_pos h6]
        exact v_Q hQ (v_iret C () trivial (by rw [e1]) (by rw [e1]) (Nat.zero_le _) (Nat.zero_le _) dX10_comes_185)
      · refine v_aload_n C 1 rfl dX10_comes_128 ?_
        refine v_get (v := .ref (E.1 25)) C fl_RX10_7 24 g_24 rfl dX10_comes_129 ?_
        refine v_sipush (v := (510 : Int32)) C (by decide) dX10_comes_132 ?_
        refine v_iload_n C 3 rfl dX10_comes_135 ?_
        refine v_iadd C dX10_comes_136 ?_
        refine v_iald (v := (s2 (s2 (s2 (s2 (s2 (s2 (s2 μ 25 12 ((μ 25 12) + (1 : Int32))) 25 ((30 : Int32) + (μ 25 12)).toNatClampNeg kd) 25 ((110 : Int32) + (μ 25 12)).toNatClampNeg bk) 25 ((190 : Int32) + (μ 25 12)).toNatClampNeg ((s2 (s2 (s2 μ 25 12 ((μ 25 12) + (1 : Int32))) 25 ((30 : Int32) + (μ 25 12)).toNatClampNeg kd) 25 ((110 : Int32) + (μ 25 12)).toNatClampNeg bk) 25 8)) 25 ((270 : Int32) + (μ 25 12)).toNatClampNeg (-1 : Int32)) 25 ((350 : Int32) + (μ 25 12)).toNatClampNeg (0 : Int32)) 25 ((430 : Int32) + (μ 25 12)).toNatClampNeg (0 : Int32)) 25 ((510 : Int32) + bk).toNatClampNeg) C 25 g_25 (by obtain ⟨j, hj, ej⟩ := hb; exact vi_add 510 ej (by omega) (by decide)) rfl dX10_comes_137 ?_
        refine v_iconst (v := (1 : Int32)) C (by decide) dX10_comes_138 ?_
        refine v_icmp_ne (tgt := 183) C (by decide) dX10_comes_139 (fun h7 => ?_) (fun h7 => ?_)
        · refine v_iload C 0 rfl dX10_comes_183 ?_
          have e1 : F_X10_comes μ kd bk al = (μ 25 12, (s2 (s2 (s2 (s2 (s2 (s2 (s2 μ 25 12 ((μ 25 12) + (1 : Int32))) 25 ((30 : Int32) + (μ 25 12)).toNatClampNeg kd) 25 ((110 : Int32) + (μ 25 12)).toNatClampNeg bk) 25 ((190 : Int32) + (μ 25 12)).toNatClampNeg ((s2 (s2 (s2 μ 25 12 ((μ 25 12) + (1 : Int32))) 25 ((30 : Int32) + (μ 25 12)).toNatClampNeg kd) 25 ((110 : Int32) + (μ 25 12)).toNatClampNeg bk) 25 8)) 25 ((270 : Int32) + (μ 25 12)).toNatClampNeg (-1 : Int32)) 25 ((350 : Int32) + (μ 25 12)).toNatClampNeg (0 : Int32)) 25 ((430 : Int32) + (μ 25 12)).toNatClampNeg (0 : Int32))) := by rw [F_X10_comes, if_pos h1, if_pos h5, if_neg h6, if_neg h7]
          exact v_Q hQ (v_iret C () trivial (by rw [e1]) (by rw [e1]) (Nat.zero_le _) (Nat.zero_le _) dX10_comes_185)
        · refine v_aload_n C 1 rfl dX10_comes_142 ?_
          refine v_get (v := .ref (E.1 25)) C fl_RX10_7 24 g_24 rfl dX10_comes_143 ?_
          refine v_sipush (v := (510 : Int32)) C (by decide) dX10_comes_146 ?_
          refine v_iload_n C 3 rfl dX10_comes_149 ?_
          refine v_iadd C dX10_comes_150 ?_
          refine v_iconst (v := (1 : Int32)) C (by decide) dX10_comes_151 ?_
          refine v_iast (ws' := Wd G E σ (s2 (s2 (s2 (s2 (s2 (s2 (s2 (s2 μ 25 12 ((μ 25 12) + (1 : Int32))) 25 ((30 : Int32) + (μ 25 12)).toNatClampNeg kd) 25 ((110 : Int32) + (μ 25 12)).toNatClampNeg bk) 25 ((190 : Int32) + (μ 25 12)).toNatClampNeg ((s2 (s2 (s2 μ 25 12 ((μ 25 12) + (1 : Int32))) 25 ((30 : Int32) + (μ 25 12)).toNatClampNeg kd) 25 ((110 : Int32) + (μ 25 12)).toNatClampNeg bk) 25 8)) 25 ((270 : Int32) + (μ 25 12)).toNatClampNeg (-1 : Int32)) 25 ((350 : Int32) + (μ 25 12)).toNatClampNeg (0 : Int32)) 25 ((430 : Int32) + (μ 25 12)).toNatClampNeg (0 : Int32)) 25 ((510 : Int32) + bk).toNatClampNeg (1 : Int32)) Y) C 25 g_25 (by obtain ⟨j, hj, ej⟩ := hb; exact vi_add 510 ej (by omega) (by decide)) (p_25 _ _) dX10_comes_152 ?_
          refine v_aload_n C 1 rfl dX10_comes_153 ?_
          refine v_get (v := .ref (E.1 25)) C fl_RX10_7 24 g_24 rfl dX10_comes_154 ?_
          refine v_sipush (v := (350 : Int32)) C (by decide) dX10_comes_157 ?_
          refine v_iload C 0 rfl dX10_comes_160 ?_
          refine v_iadd C dX10_comes_162 ?_
          refine v_iconst (v := (1 : Int32)) C (by decide) dX10_comes_163 ?_
          refine v_iast (ws' := Wd G E σ (s2 (s2 (s2 (s2 (s2 (s2 (s2 (s2 (s2 μ 25 12 ((μ 25 12) + (1 : Int32))) 25 ((30 : Int32) + (μ 25 12)).toNatClampNeg kd) 25 ((110 : Int32) + (μ 25 12)).toNatClampNeg bk) 25 ((190 : Int32) + (μ 25 12)).toNatClampNeg ((s2 (s2 (s2 μ 25 12 ((μ 25 12) + (1 : Int32))) 25 ((30 : Int32) + (μ 25 12)).toNatClampNeg kd) 25 ((110 : Int32) + (μ 25 12)).toNatClampNeg bk) 25 8)) 25 ((270 : Int32) + (μ 25 12)).toNatClampNeg (-1 : Int32)) 25 ((350 : Int32) + (μ 25 12)).toNatClampNeg (0 : Int32)) 25 ((430 : Int32) + (μ 25 12)).toNatClampNeg (0 : Int32)) 25 ((510 : Int32) + bk).toNatClampNeg (1 : Int32)) 25 ((350 : Int32) + (μ 25 12)).toNatClampNeg (1 : Int32)) Y) C 25 g_25 (by obtain ⟨m, hm, em⟩ := hM; exact vi_add 350 em (by omega) (by decide)) (p_25 _ _) dX10_comes_164 ?_
          refine v_aload_n C 1 rfl dX10_comes_165 ?_
          refine v_get (v := .ref (E.1 25)) C fl_RX10_7 24 g_24 rfl dX10_comes_166 ?_
          refine v_sipush (v := (430 : Int32)) C (by decide) dX10_comes_169 ?_
          refine v_iload C 0 rfl dX10_comes_172 ?_
          refine v_iadd C dX10_comes_174 ?_
          refine v_aload_n C 1 rfl dX10_comes_175 ?_
          refine v_get (v := .ref (E.1 25)) C fl_RX10_7 24 g_24 rfl dX10_comes_176 ?_
          refine v_bipush (v := (8 : Int32)) C (by decide) dX10_comes_179 ?_
          refine v_iald (v := (s2 (s2 (s2 (s2 (s2 (s2 (s2 (s2 (s2 μ 25 12 ((μ 25 12) + (1 : Int32))) 25 ((30 : Int32) + (μ 25 12)).toNatClampNeg kd) 25 ((110 : Int32) + (μ 25 12)).toNatClampNeg bk) 25 ((190 : Int32) + (μ 25 12)).toNatClampNeg ((s2 (s2 (s2 μ 25 12 ((μ 25 12) + (1 : Int32))) 25 ((30 : Int32) + (μ 25 12)).toNatClampNeg kd) 25 ((110 : Int32) + (μ 25 12)).toNatClampNeg bk) 25 8)) 25 ((270 : Int32) + (μ 25 12)).toNatClampNeg (-1 : Int32)) 25 ((350 : Int32) + (μ 25 12)).toNatClampNeg (0 : Int32)) 25 ((430 : Int32) + (μ 25 12)).toNatClampNeg (0 : Int32)) 25 ((510 : Int32) + bk).toNatClampNeg (1 : Int32)) 25 ((350 : Int32) + (μ 25 12)).toNatClampNeg (1 : Int32)) 25 8) C 25 g_25 vi_8_1700 (rdl tn_8 rfl) dX10_comes_181 ?_
          refine v_iast (ws' := Wd G E σ (s2 (s2 (s2 (s2 (s2 (s2 (s2 (s2 (s2 (s2 μ 25 12 ((μ 25 12) + (1 : Int32))) 25 ((30 : Int32) + (μ 25 12)).toNatClampNeg kd) 25 ((110 : Int32) + (μ 25 12)).toNatClampNeg bk) 25 ((190 : Int32) + (μ 25 12)).toNatClampNeg ((s2 (s2 (s2 μ 25 12 ((μ 25 12) + (1 : Int32))) 25 ((30 : Int32) + (μ 25 12)).toNatClampNeg kd) 25 ((110 : Int32) + (μ 25 12)).toNatClampNeg bk) 25 8)) 25 ((270 : Int32) + (μ 25 12)).toNatClampNeg (-1 : Int32)) 25 ((350 : Int32) + (μ 25 12)).toNatClampNeg (0 : Int32)) 25 ((430 : Int32) + (μ 25 12)).toNatClampNeg (0 : Int32)) 25 ((510 : Int32) + bk).toNatClampNeg (1 : Int32)) 25 ((350 : Int32) + (μ 25 12)).toNatClampNeg (1 : Int32)) 25 ((430 : Int32) + (μ 25 12)).toNatClampNeg ((s2 (s2 (s2 (s2 (s2 (s2 (s2 (s2 (s2 μ 25 12 ((μ 25 12) + (1 : Int32))) 25 ((30 : Int32) + (μ 25 12)).toNatClampNeg kd) 25 ((110 : Int32) + (μ 25 12)).toNatClampNeg bk) 25 ((190 : Int32) + (μ 25 12)).toNatClampNeg ((s2 (s2 (s2 μ 25 12 ((μ 25 12) + (1 : Int32))) 25 ((30 : Int32) + (μ 25 12)).toNatClampNeg kd) 25 ((110 : Int32) + (μ 25 12)).toNatClampNeg bk) 25 8)) 25 ((270 : Int32) + (μ 25 12)).toNatClampNeg (-1 : Int32)) 25 ((350 : Int32) + (μ 25 12)).toNatClampNeg (0 : Int32)) 25 ((430 : Int32) + (μ 25 12)).toNatClampNeg (0 : Int32)) 25 ((510 : Int32) + bk).toNatClampNeg (1 : Int32)) 25 ((350 : Int32) + (μ 25 12)).toNatClampNeg (1 : Int32)) 25 8)) Y) C 25 g_25 (by obtain ⟨m, hm, em⟩ := hM; exact vi_add 430 em (by omega) (by decide)) (p_25 _ _) dX10_comes_182 ?_
          refine v_iload C 0 rfl dX10_comes_183 ?_
          have e1 : F_X10_comes μ kd bk al = (μ 25 12, (s2 (s2 (s2 (s2 (s2 (s2 (s2 (s2 (s2 (s2 μ 25 12 ((μ 25 12) + (1 : Int32))) 25 ((30 : Int32) + (μ 25 12)).toNatClampNeg kd) 25 ((110 : Int32) + (μ 25 12)).toNatClampNeg bk) 25 ((190 : Int32) + (μ 25 12)).toNatClampNeg ((s2 (s2 (s2 μ 25 12 ((μ 25 12) + (1 : Int32))) 25 ((30 : Int32) + (μ 25 12)).toNatClampNeg kd) 25 ((110 : Int32) + (μ 25 12)).toNatClampNeg bk) 25 8)) 25 ((270 : Int32) + (μ 25 12)).toNatClampNeg (-1 : Int32)) 25 ((350 : Int32) + (μ 25 12)).toNatClampNeg (0 : Int32)) 25 ((430 : Int32) + (μ 25 12)).toNatClampNeg (0 : Int32)) 25 ((510 : Int32) + bk).toNatClampNeg (1 : Int32)) 25 ((350 : Int32) + (μ 25 12)).toNatClampNeg (1 : Int32)) 25 ((430 : Int32) + (μ 25 12)).toNatClampNeg ((s2 (s2 (s2 (s2 (s2 (s2 (s2 (s2 (s2 μ 25 12 ((μ 25 12) + (1 : Int32))) 25 ((30 : Int32) + (μ 25 12)).toNatClampNeg kd) 25 ((110 : Int32) + (μ 25 12)).toNatClampNeg bk) 25 ((190 : Int32) + (μ 25 12)).toNatClampNeg ((s2 (s2 (s2 μ 25 12 ((μ 25 12) + (1 : Int32))) 25 ((30 : Int32) + (μ 25 12)).toNatClampNeg kd) 25 ((110 : Int32) + (μ 25 12)).toNatClampNeg bk) 25 8)) 25 ((270 : Int32) + (μ 25 12)).toNatClampNeg (-1 : Int32)) 25 ((350 : Int32) + (μ 25 12)).toNatClampNeg (0 : Int32)) 25 ((430 : Int32) + (μ 25 12)).toNatClampNeg (0 : Int32)) 25 ((510 : Int32) + bk).toNatClampNeg (1 : Int32)) 25 ((350 : Int32) + (μ 25 12)).toNatClampNeg (1 : Int32)) 25 8))) := by rw [F_X10_comes, if_pos h1, if_pos h5, if_neg h6, if_pos h7]
          exact v_Q hQ (v_iret C () trivial (by rw [e1]) (by rw [e1]) (Nat.zero_le _) (Nat.zero_le _) dX10_comes_185)
