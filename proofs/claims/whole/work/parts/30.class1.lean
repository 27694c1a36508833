def F_X9_isWithin (n : Int32) (lo : Int32) (hi : Int32) : Int32 := (if n < lo then (0 : Int32) else (if hi < n then (0 : Int32) else (1 : Int32)))
theorem z01_X9_isWithin (n : Int32) (lo : Int32) (hi : Int32) : F_X9_isWithin n lo hi = 0 ∨ F_X9_isWithin n lo hi = 1 := by
  unfold F_X9_isWithin; (repeat' split) <;> first | exact Or.inl rfl | exact Or.inr rfl
abbrev rm_X9_isWithin : Room := { frames := 0, cells := 0, slots := 0, locals := 0 }
set_option maxRecDepth 100000 in
set_option maxHeartbeats 4000000 in
theorem m_X9_isWithin (l : Launch) (G : GG) (E : EE) (σ μ : Sg) (Y : va_W) (n : Int32) (lo : Int32) (hi : Int32) : KK l G yX9_isWithin cX9_isWithin 3 (some .boolean) rm_X9_isWithin [.int n, .int lo, .int hi] (Wd G E σ μ Y) (some (.int (F_X9_isWithin n lo hi))) (Wd G E σ μ Y) := by
  refine KE.of (by decide) (Nat.le_of_ble_eq_true rfl) ?_
  intro zp ze zs zm za zb zt zc zA C _
  generalize hQ : MQ zb _ za zs _ _ zA = Q
  show V zp l ze rm_X9_isWithin zs zm za zb zt zc 3 G zA 0 0 Q 0 [(0, .int n), (1, .int lo), (2, .int hi)] [] (Wd G E σ μ Y)
  refine v_iload_n C 0 rfl dX9_isWithin_0 ?_
  refine v_iload_n C 1 rfl dX9_isWithin_1 ?_
  refine v_icmp_lt (tgt := 14) C (by decide) dX9_isWithin_2 (fun h1 => ?_) (fun h1 => ?_)
  · refine v_iconst (v := (0 : Int32)) C (by decide) dX9_isWithin_14 ?_
    have e1 : F_X9_isWithin n lo hi = (0 : Int32) := by rw [F_X9_isWithin, if_pos h1]
    exact v_Q hQ (v_zret C rfl () trivial (by rw [e1]) rfl (Nat.zero_le _) (Nat.zero_le _) dX9_isWithin_15)
  · refine v_iload_n C 0 rfl dX9_isWithin_5 ?_
    refine v_iload_n C 2 rfl dX9_isWithin_6 ?_
    refine v_icmp_gt (tgt := 14) C (by decide) dX9_isWithin_7 (fun h2 => ?_) (fun h2 => ?_)
    · refine v_iconst (v := (0 : Int32)) C (by decide) dX9_isWithin_14 ?_
      have e1 : F_X9_isWithin n lo hi = (0 : Int32) := by rw [F_X9_isWithin, if_neg h1, if_pos h2]
      exact v_Q hQ (v_zret C rfl () trivial (by rw [e1]) rfl (Nat.zero_le _) (Nat.zero_le _) dX9_isWithin_15)
    · refine v_iconst (v := (1 : Int32)) C (by decide) dX9_isWithin_10 ?_
      refine v_goto (tgt := 15) C (by decide) dX9_isWithin_11 ?_
      have e1 : F_X9_isWithin n lo hi = (1 : Int32) := by rw [F_X9_isWithin, if_neg h1, if_neg h2]
      exact v_Q hQ (v_zret C rfl () trivial (by rw [e1]) rfl (Nat.zero_le _) (Nat.zero_le _) dX9_isWithin_15)
def F_X9_isBlock (b : Int32) : Int32 := F_X9_isWithin b (0 : Int32) (571 : Int32)
theorem z01_X9_isBlock (b : Int32) : F_X9_isBlock b = 0 ∨ F_X9_isBlock b = 1 := by
  exact z01_X9_isWithin _ _ _
abbrev rm_X9_isBlock : Room := { frames := 1, cells := 0, slots := 0, locals := 22 }
set_option maxRecDepth 100000 in
set_option maxHeartbeats 4000000 in
theorem m_X9_isBlock (l : Launch) (G : GG) (E : EE) (σ μ : Sg) (Y : va_W) (b : Int32) : KK l G yX9_isBlock cX9_isBlock 1 (some .boolean) rm_X9_isBlock [.int b] (Wd G E σ μ Y) (some (.int (F_X9_isBlock b))) (Wd G E σ μ Y) := by
  refine KE.of (by decide) (Nat.le_of_ble_eq_true rfl) ?_
  intro zp ze zs zm za zb zt zc zA C _
  generalize hQ : MQ zb _ za zs _ _ zA = Q
  show V zp l ze rm_X9_isBlock zs zm za zb zt zc 1 G zA 0 0 Q 0 [(0, .int b)] [] (Wd G E σ μ Y)
  refine v_iload_n C 0 rfl dX9_isBlock_0 ?_
  refine v_iconst (v := (0 : Int32)) C (by decide) dX9_isBlock_1 ?_
  refine v_sipush (v := (571 : Int32)) C (by decide) dX9_isBlock_2 ?_
  refine v_cS1 (rest := []) C ms_RX9_30 (m_X9_isWithin l G E σ μ Y b (0 : Int32) (571 : Int32)) rfl rfl (Nat.le_of_ble_eq_true rfl) ⟨Nat.le_of_ble_eq_true rfl, Nat.le_of_ble_eq_true rfl⟩ ⟨rfl, rfl⟩ ⟨Nat.zero_le _, Nat.zero_le _⟩ dX9_isBlock_5 ?_
  have e1 : F_X9_isBlock b = F_X9_isWithin b (0 : Int32) (571 : Int32) := by rw [F_X9_isBlock]
  exact v_Q hQ (v_zret C (nbz (z01_X9_isWithin b (0 : Int32) (571 : Int32))) () trivial (by rw [e1]) rfl (Nat.zero_le _) (Nat.zero_le _) dX9_isBlock_8)
theorem within_of {v lo hi : Int32} (h : ¬ F_X9_isWithin v lo hi = 0) : lo ≤ v ∧ v ≤ hi := by
  unfold F_X9_isWithin at h
  by_cases h1 : v < lo
  · rw [if_pos h1] at h; exact absurd rfl h
  · rw [if_neg h1] at h
    by_cases h2 : hi < v
    · rw [if_pos h2] at h; exact absurd rfl h
    · exact ⟨Int32.not_lt.mp h1, Int32.not_lt.mp h2⟩
theorem within_in {v hi : Int32} {N : Nat} (hN : N < 2 ^ 31) (e : hi = nI N) (h : ¬ F_X9_isWithin v 0 hi = 0) : vp_in v (N + 1) := by
  obtain ⟨a, b⟩ := within_of h
  rw [e] at b
  obtain ⟨j, hj, ej⟩ := nI_rng hN ⟨a, b⟩
  rw [ej, vp_in_iff, nI_toInt (by omega)]; omega
def F_X2_quotient (x : Int32) (y : Int32) : Int32 := (if y ≤ 0 then (0 : Int32) else x / y)
abbrev rm_X2_quotient : Room := { frames := 0, cells := 0, slots := 0, locals := 0 }
set_option maxRecDepth 100000 in
set_option maxHeartbeats 4000000 in
theorem m_X2_quotient (l : Launch) (G : GG) (E : EE) (σ μ : Sg) (Y : va_W) (x : Int32) (y : Int32) : KK l G yX2_quotient cX2_quotient 2 (some .int) rm_X2_quotient [.int x, .int y] (Wd G E σ μ Y) (some (.int (F_X2_quotient x y))) (Wd G E σ μ Y) := by
  refine KE.of (by decide) (Nat.le_of_ble_eq_true rfl) ?_
  intro zp ze zs zm za zb zt zc zA C _
  generalize hQ : MQ zb _ za zs _ _ zA = Q
  show V zp l ze rm_X2_quotient zs zm za zb zt zc 2 G zA 0 0 Q 0 [(0, .int x), (1, .int y)] [] (Wd G E σ μ Y)
  refine v_iload_n C 1 rfl dX2_quotient_0 ?_
  refine v_if_le (tgt := 10) C (by decide) dX2_quotient_1 (fun h1 => ?_) (fun h1 => ?_)
  · refine v_iconst (v := (0 : Int32)) C (by decide) dX2_quotient_10 ?_
    have e1 : F_X2_quotient x y = (0 : Int32) := by rw [F_X2_quotient, if_pos h1]
    exact v_Q hQ (v_iret C () trivial (by rw [e1]) rfl (Nat.zero_le _) (Nat.zero_le _) dX2_quotient_11)
  · refine v_iload_n C 0 rfl dX2_quotient_4 ?_
    refine v_iload_n C 1 rfl dX2_quotient_5 ?_
    refine v_idiv C (ne0_of_nle h1) dX2_quotient_6 ?_
    refine v_goto (tgt := 11) C (by decide) dX2_quotient_7 ?_
    have e1 : F_X2_quotient x y = x / y := by rw [F_X2_quotient, if_neg h1]
    exact v_Q hQ (v_iret C () trivial (by rw [e1]) rfl (Nat.zero_le _) (Nat.zero_le _) dX2_quotient_11)
def L_X2_zoneOfPlace_2 (pl : Int32) : Nat → Int32 → Int32
  | 0, _ => 0
  | n + 1, x => (if x ≤ 0 then (0 : Int32) else (if pl < (zFP (x).toNatClampNeg) then L_X2_zoneOfPlace_2 pl n (x + (-1 : Int32)) else x))
def F_X2_zoneOfPlace (pl : Int32) : Int32 := L_X2_zoneOfPlace_2 pl 4 (3 : Int32)
abbrev rm_X2_zoneOfPlace : Room := { frames := 0, cells := 0, slots := 0, locals := 0 }
set_option maxRecDepth 100000 in
set_option maxHeartbeats 4000000 in
theorem m_X2_zoneOfPlace (l : Launch) (G : GG) (E : EE) (σ μ : Sg) (Y : va_W) (pl : Int32) : KK l G yX2_zoneOfPlace cX2_zoneOfPlace 2 (some .int) rm_X2_zoneOfPlace [.int pl] (Wd G E σ μ Y) (some (.int (F_X2_zoneOfPlace pl))) (Wd G E σ μ Y) := by
  refine KE.of (by decide) (Nat.le_of_ble_eq_true rfl) ?_
  intro zp ze zs zm za zb zt zc zA C _
  generalize hQ : MQ zb _ za zs _ _ zA = Q
  have loop_2 : ∀ (n : Nat) (x : Int32), (∃ j : Nat, x = nI j ∧ j ≤ 3 ∧ j + 1 = n) → F_X2_zoneOfPlace pl = L_X2_zoneOfPlace_2 pl n x → V zp l ze rm_X2_zoneOfPlace zs zm za zb zt zc 2 G zA 0 0 Q 2 [(0, .int pl), (1, .int x)] [] (Wd G E σ μ Y) := by
    intro n
    induction n with
    | zero =>
      intro x hI hL
      exact False.elim (by obtain ⟨j, _, _, h⟩ := hI; omega)
    | succ n ih =>
      intro x hI hL
      obtain ⟨j, ej, h3, hn⟩ := hI
      refine v_iload_n C 1 rfl dX2_zoneOfPlace_2 ?_
      refine v_if_le (tgt := 23) C (by decide) dX2_zoneOfPlace_3 (fun h1 => ?_) (fun h1 => ?_)
      · refine v_iconst (v := (0 : Int32)) C (by decide) dX2_zoneOfPlace_23 ?_
        have e1 : F_X2_zoneOfPlace pl = (0 : Int32) := by rw [hL, L_X2_zoneOfPlace_2, if_pos h1]
        exact v_Q hQ (v_iret C () trivial (by rw [e1]) rfl (Nat.zero_le _) (Nat.zero_le _) dX2_zoneOfPlace_24)
      · refine v_iload_n C 0 rfl dX2_zoneOfPlace_6 ?_
        refine v_gets (q := nestF[0]) C (by simp [nestF]) dX2_zoneOfPlace_7 (fun t2 ht3 => ?_)
        refine v_iload_n C 1 rfl dX2_zoneOfPlace_10 ?_
        refine v_ti (v := zFP (x).toNatClampNeg) C ht3 (vi_x ej (by omega) (by decide)) rfl dX2_zoneOfPlace_11 ?_
        refine v_icmp_lt (tgt := 17) C (by decide) dX2_zoneOfPlace_12 (fun h4 => ?_) (fun h4 => ?_)
        · refine v_iinc (v := x + (-1 : Int32)) (lv' := [(1, .int (x + (-1 : Int32))), (0, .int pl)]) C 1 rfl (congrArg (fun z => x + z) (by decide)) (Nat.le_of_ble_eq_true rfl) rfl dX2_zoneOfPlace_17 ?_
          refine v_goto (tgt := 2) C (by decide) dX2_zoneOfPlace_20 ?_
          refine v_lv [1, 0] rfl ?_
          exact ih (x + (-1 : Int32)) (by rcases j with _ | j; exact absurd (by rw [ej]; decide) h1; exact ⟨j, by rw [ej]; exact pk_m1 j, by omega, by omega⟩) (by rw [hL, L_X2_zoneOfPlace_2, if_neg h1, if_pos h4])
        · refine v_iload_n C 1 rfl dX2_zoneOfPlace_15 ?_
          have e1 : F_X2_zoneOfPlace pl = x := by rw [hL, L_X2_zoneOfPlace_2, if_neg h1, if_neg h4]
          exact v_Q hQ (v_iret C () trivial (by rw [e1]) rfl (Nat.zero_le _) (Nat.zero_le _) dX2_zoneOfPlace_16)
  show V zp l ze rm_X2_zoneOfPlace zs zm za zb zt zc 2 G zA 0 0 Q 0 [(0, .int pl)] [] (Wd G E σ μ Y)
  refine v_iconst (v := (3 : Int32)) C (by decide) dX2_zoneOfPlace_0 ?_
  refine v_istore_n (lv' := [(1, .int (3 : Int32)), (0, .int pl)]) C (Nat.le_of_ble_eq_true rfl) rfl dX2_zoneOfPlace_1 ?_
  refine v_lv [1, 0] rfl ?_
  exact loop_2 4 (3 : Int32) (⟨3, rfl, by omega, by omega⟩) (by rw [F_X2_zoneOfPlace])
theorem L_zone_ok {pl : Int32} : ∀ (n j : Nat), j ≤ 3 → ∃ k : Nat, k ≤ 3 ∧ L_X2_zoneOfPlace_2 pl n (nI j) = nI k := by
  intro n
  induction n with
  | zero => intro j _; exact ⟨0, by omega, rfl⟩
  | succ n ih =>
    intro j hj
    rw [L_X2_zoneOfPlace_2]
    by_cases h1 : nI j ≤ 0
    · rw [if_pos h1]; exact ⟨0, by omega, rfl⟩
    · rw [if_neg h1]
      split
      · rcases j with _ | j
        · exact absurd (by decide) h1
        · rw [show nI (j + 1) + (-1 : Int32) = nI j from pk_m1 j]; exact ih j (by omega)
      · exact ⟨j, hj, rfl⟩
theorem zone_ok (pl : Int32) : ∃ k : Nat, k ≤ 3 ∧ F_X2_zoneOfPlace pl = nI k := by unfold F_X2_zoneOfPlace; exact L_zone_ok 4 3 (by omega)
theorem zone_in (pl : Int32) : vp_in (F_X2_zoneOfPlace pl) 4 := by
  obtain ⟨k, hk, ek⟩ := zone_ok pl
  exact vi_x ek (by omega) (by decide)
def F_X2_cylinderOfPlace (pl : Int32) : Int32 := ((F_X2_zoneOfPlace pl) * (16 : Int32)) + (F_X2_quotient (pl - (zFP (F_X2_zoneOfPlace pl).toNatClampNeg)) (zSE (F_X2_zoneOfPlace pl).toNatClampNeg))
abbrev rm_X2_cylinderOfPlace : Room := { frames := 1, cells := 0, slots := 0, locals := 21 }
set_option maxRecDepth 100000 in
set_option maxHeartbeats 4000000 in
theorem m_X2_cylinderOfPlace (l : Launch) (G : GG) (E : EE) (σ μ : Sg) (Y : va_W) (pl : Int32) : KK l G yX2_cylinderOfPlace cX2_cylinderOfPlace 2 (some .int) rm_X2_cylinderOfPlace [.int pl] (Wd G E σ μ Y) (some (.int (F_X2_cylinderOfPlace pl))) (Wd G E σ μ Y) := by
  refine KE.of (by decide) (Nat.le_of_ble_eq_true rfl) ?_
  intro zp ze zs zm za zb zt zc zA C _
  generalize hQ : MQ zb _ za zs _ _ zA = Q
  show V zp l ze rm_X2_cylinderOfPlace zs zm za zb zt zc 2 G zA 0 0 Q 0 [(0, .int pl)] [] (Wd G E σ μ Y)
  refine v_iload_n C 0 rfl dX2_cylinderOfPlace_0 ?_
  refine v_cS1 (rest := []) C ms_RX2_13 (m_X2_zoneOfPlace l G E σ μ Y pl) rfl rfl (Nat.le_of_ble_eq_true rfl) ⟨Nat.le_of_ble_eq_true rfl, Nat.le_of_ble_eq_true rfl⟩ ⟨rfl, rfl⟩ ⟨Nat.zero_le _, Nat.zero_le _⟩ dX2_cylinderOfPlace_1 ?_
  refine v_istore_n (lv' := [(1, .int (F_X2_zoneOfPlace pl)), (0, .int pl)]) C (Nat.le_of_ble_eq_true rfl) rfl dX2_cylinderOfPlace_4 ?_
  refine v_iload_n C 0 rfl dX2_cylinderOfPlace_5 ?_
  refine v_bipush (v := (16 : Int32)) C (by decide) dX2_cylinderOfPlace_6 ?_
  refine v_imul C dX2_cylinderOfPlace_8 ?_
  refine v_iload_n C 1 rfl dX2_cylinderOfPlace_9 ?_
  refine v_gets (q := nestF[0]) C (by simp [nestF]) dX2_cylinderOfPlace_10 (fun t1 ht2 => ?_)
  refine v_iload_n C 0 rfl dX2_cylinderOfPlace_13 ?_
  refine v_ti (v := zFP (F_X2_zoneOfPlace pl).toNatClampNeg) C ht2 (zone_in _) rfl dX2_cylinderOfPlace_14 ?_
  refine v_isub C dX2_cylinderOfPlace_15 ?_
  refine v_gets (q := nestF[1]) C (by simp [nestF]) dX2_cylinderOfPlace_16 (fun t3 ht4 => ?_)
  refine v_iload_n C 0 rfl dX2_cylinderOfPlace_19 ?_
  refine v_ti (v := zSE (F_X2_zoneOfPlace pl).toNatClampNeg) C ht4 (zone_in _) rfl dX2_cylinderOfPlace_20 ?_
  refine v_cS1 (rest := [.int ((F_X2_zoneOfPlace pl) * (16 : Int32))]) C ms_RX2_22 (m_X2_quotient l G E σ μ Y (pl - (zFP (F_X2_zoneOfPlace pl).toNatClampNeg)) (zSE (F_X2_zoneOfPlace pl).toNatClampNeg)) rfl rfl (Nat.le_of_ble_eq_true rfl) ⟨Nat.le_of_ble_eq_true rfl, Nat.le_of_ble_eq_true rfl⟩ ⟨rfl, rfl⟩ ⟨Nat.zero_le _, Nat.zero_le _⟩ dX2_cylinderOfPlace_21 ?_
  refine v_iadd C dX2_cylinderOfPlace_24 ?_
  have e1 : F_X2_cylinderOfPlace pl = ((F_X2_zoneOfPlace pl) * (16 : Int32)) + (F_X2_quotient (pl - (zFP (F_X2_zoneOfPlace pl).toNatClampNeg)) (zSE (F_X2_zoneOfPlace pl).toNatClampNeg)) := by rw [F_X2_cylinderOfPlace]
  exact v_Q hQ (v_iret C () trivial (by rw [e1]) rfl (Nat.zero_le _) (Nat.zero_le _) dX2_cylinderOfPlace_25)
def F_X2_sectorOfPlace (pl : Int32) : Int32 := (pl - (zFP (F_X2_zoneOfPlace pl).toNatClampNeg)) - ((F_X2_quotient (pl - (zFP (F_X2_zoneOfPlace pl).toNatClampNeg)) (zSE (F_X2_zoneOfPlace pl).toNatClampNeg)) * (zSE (F_X2_zoneOfPlace pl).toNatClampNeg))
abbrev rm_X2_sectorOfPlace : Room := { frames := 1, cells := 0, slots := 0, locals := 21 }
set_option maxRecDepth 100000 in
set_option maxHeartbeats 4000000 in
theorem m_X2_sectorOfPlace (l : Launch) (G : GG) (E : EE) (σ μ : Sg) (Y : va_W) (pl : Int32) : KK l G yX2_sectorOfPlace cX2_sectorOfPlace 3 (some .int) rm_X2_sectorOfPlace [.int pl] (Wd G E σ μ Y) (some (.int (F_X2_sectorOfPlace pl))) (Wd G E σ μ Y) := by
  refine KE.of (by decide) (Nat.le_of_ble_eq_true rfl) ?_
  intro zp ze zs zm za zb zt zc zA C _
  generalize hQ : MQ zb _ za zs _ _ zA = Q
  show V zp l ze rm_X2_sectorOfPlace zs zm za zb zt zc 3 G zA 0 0 Q 0 [(0, .int pl)] [] (Wd G E σ μ Y)
  refine v_iload_n C 0 rfl dX2_sectorOfPlace_0 ?_
  refine v_cS1 (rest := []) C ms_RX2_13 (m_X2_zoneOfPlace l G E σ μ Y pl) rfl rfl (Nat.le_of_ble_eq_true rfl) ⟨Nat.le_of_ble_eq_true rfl, Nat.le_of_ble_eq_true rfl⟩ ⟨rfl, rfl⟩ ⟨Nat.zero_le _, Nat.zero_le _⟩ dX2_sectorOfPlace_1 ?_
  refine v_istore_n (lv' := [(1, .int (F_X2_zoneOfPlace pl)), (0, .int pl)]) C (Nat.le_of_ble_eq_true rfl) rfl dX2_sectorOfPlace_4 ?_
  refine v_iload_n C 1 rfl dX2_sectorOfPlace_5 ?_
  refine v_gets (q := nestF[0]) C (by simp [nestF]) dX2_sectorOfPlace_6 (fun t1 ht2 => ?_)
  refine v_iload_n C 0 rfl dX2_sectorOfPlace_9 ?_
  refine v_ti (v := zFP (F_X2_zoneOfPlace pl).toNatClampNeg) C ht2 (zone_in _) rfl dX2_sectorOfPlace_10 ?_
  refine v_isub C dX2_sectorOfPlace_11 ?_
  refine v_istore_n (lv' := [(2, .int (pl - (zFP (F_X2_zoneOfPlace pl).toNatClampNeg))), (1, .int (F_X2_zoneOfPlace pl)), (0, .int pl)]) C (Nat.le_of_ble_eq_true rfl) rfl dX2_sectorOfPlace_12 ?_
  refine v_iload_n C 0 rfl dX2_sectorOfPlace_13 ?_
  refine v_iload_n C 0 rfl dX2_sectorOfPlace_14 ?_
  refine v_gets (q := nestF[1]) C (by simp [nestF]) dX2_sectorOfPlace_15 (fun t3 ht4 => ?_)
  refine v_iload_n C 1 rfl dX2_sectorOfPlace_18 ?_
  refine v_ti (v := zSE (F_X2_zoneOfPlace pl).toNatClampNeg) C ht4 (zone_in _) rfl dX2_sectorOfPlace_19 ?_
  refine v_cS1 (rest := [.int (pl - (zFP (F_X2_zoneOfPlace pl).toNatClampNeg))]) C ms_RX2_22 (m_X2_quotient l G E σ μ Y (pl - (zFP (F_X2_zoneOfPlace pl).toNatClampNeg)) (zSE (F_X2_zoneOfPlace pl).toNatClampNeg)) rfl rfl (Nat.le_of_ble_eq_true rfl) ⟨Nat.le_of_ble_eq_true rfl, Nat.le_of_ble_eq_true rfl⟩ ⟨rfl, rfl⟩ ⟨Nat.zero_le _, Nat.zero_le _⟩ dX2_sectorOfPlace_20 ?_
  refine v_gets (q := nestF[1]) C (by simp [nestF]) dX2_sectorOfPlace_23 (fun t5 ht6 => ?_)
  refine v_iload_n C 1 rfl dX2_sectorOfPlace_26 ?_
  refine v_ti (v := zSE (F_X2_zoneOfPlace pl).toNatClampNeg) C ht6 (zone_in _) rfl dX2_sectorOfPlace_27 ?_
  refine v_imul C dX2_sectorOfPlace_28 ?_
  refine v_isub C dX2_sectorOfPlace_29 ?_
  have e1 : F_X2_sectorOfPlace pl = (pl - (zFP (F_X2_zoneOfPlace pl).toNatClampNeg)) - ((F_X2_quotient (pl - (zFP (F_X2_zoneOfPlace pl).toNatClampNeg)) (zSE (F_X2_zoneOfPlace pl).toNatClampNeg)) * (zSE (F_X2_zoneOfPlace pl).toNatClampNeg)) := by rw [F_X2_sectorOfPlace]
  exact v_Q hQ (v_iret C () trivial (by rw [e1]) rfl (Nat.zero_le _) (Nat.zero_le _) dX2_sectorOfPlace_30)
def F_X2_sectorTicksAt (pl : Int32) : Int32 := zTI (F_X2_zoneOfPlace pl).toNatClampNeg
abbrev rm_X2_sectorTicksAt : Room := { frames := 1, cells := 0, slots := 0, locals := 21 }
set_option maxRecDepth 100000 in
set_option maxHeartbeats 4000000 in
theorem m_X2_sectorTicksAt (l : Launch) (G : GG) (E : EE) (σ μ : Sg) (Y : va_W) (pl : Int32) : KK l G yX2_sectorTicksAt cX2_sectorTicksAt 1 (some .int) rm_X2_sectorTicksAt [.int pl] (Wd G E σ μ Y) (some (.int (F_X2_sectorTicksAt pl))) (Wd G E σ μ Y) := by
  refine KE.of (by decide) (Nat.le_of_ble_eq_true rfl) ?_
  intro zp ze zs zm za zb zt zc zA C _
  generalize hQ : MQ zb _ za zs _ _ zA = Q
  show V zp l ze rm_X2_sectorTicksAt zs zm za zb zt zc 1 G zA 0 0 Q 0 [(0, .int pl)] [] (Wd G E σ μ Y)
  refine v_gets (q := nestF[2]) C (by simp [nestF]) dX2_sectorTicksAt_0 (fun t1 ht2 => ?_)
  refine v_iload_n C 0 rfl dX2_sectorTicksAt_3 ?_
  refine v_cS1 (rest := [.ref t1]) C ms_RX2_13 (m_X2_zoneOfPlace l G E σ μ Y pl) rfl rfl (Nat.le_of_ble_eq_true rfl) ⟨Nat.le_of_ble_eq_true rfl, Nat.le_of_ble_eq_true rfl⟩ ⟨rfl, rfl⟩ ⟨Nat.zero_le _, Nat.zero_le _⟩ dX2_sectorTicksAt_4 ?_
  refine v_ti (v := zTI (F_X2_zoneOfPlace pl).toNatClampNeg) C ht2 (zone_in _) rfl dX2_sectorTicksAt_7 ?_
  have e1 : F_X2_sectorTicksAt pl = zTI (F_X2_zoneOfPlace pl).toNatClampNeg := by rw [F_X2_sectorTicksAt]
  exact v_Q hQ (v_iret C () trivial (by rw [e1]) rfl (Nat.zero_le _) (Nat.zero_le _) dX2_sectorTicksAt_8)
theorem Met_ofWF {l : Launch} {y : MethodName} {ws ws' : List Cond} {rm : Room} {Pc : Array Value → State → Prop} {Qc : Array Value → State → Outcome → State → Prop} {mc ms : Nat} {free : Addr → Prop} {cc : ByteArray} {maxL : Nat} {ret : Option FieldType} (hy : plainFor y = true) (hw : ws = Cond.code y cc maxL ret :: ws')
    (body : ∀ p e s m args below meth c s₁, BodyLoose p l y (headSpec ws rm) cc maxL ret e s m args below meth c s₁ → c.maxLocals = maxL → Pc args s →
      W p l e (headSpec ws rm).room s m args below meth c s.heap [] 0 0 (MQ below Qc args s mc ms free) (entryFrame m args maxL)) : Met l y ws rm Pc Qc mc ms free := by
  refine MetFree.of_bodySF (code := cc) (maxLocals := maxL) (ret := ret) hy ?_ ?_
  · intro args s m h hn
    obtain ⟨meth, c, h1, h2, h3, h4, h5, h6, -, -⟩ := Cond.code_spec hn (atoms_spec (ws := ws) h _ (by rw [hw]; exact List.mem_cons_self))
    exact ⟨meth, c, h1, h2, h3, h4, h5, h6⟩
  · intro p e s m args below meth c s₁ B hml hP _
    obtain ⟨t, a1, o, b1, b2, b3⟩ := body p e s m args below meth c s₁ B hml hP s₁ (by rw [B.state]; rfl) (Stand.of_body B)
    exact ⟨t, o, a1, b1, b2, ⟨b3.1, b3.2⟩⟩
theorem KE.ofF {S : Type} {l : Launch} {G : GG} {y : MethodName} {cc : ByteArray} {nL : Nat} {rt : Option FieldType} {rm : Room} {av : List Value} {ws : va_W} {rv : S → Option Value} {ws1 : S → va_W} {post : S → Prop} (hy : plainFor y = true) (hn : (lg_sl av).length ≤ nL)
    (body : ∀ (p : Program) (e : Env) (s : State) (m : MethodId) (args : Array Value) (below : List Frame) (meth : Method) (c : Code) (A : Nat → Prop), CX p l rm s m args meth c cc nL y.cls rt G A → meth.name = y.name →
      V p l e rm s m args below meth c nL G A 0 0 (MQ below (QcW G A rv ws1 post) args s rm.cells rm.slots A) 0 (lv_args 0 av) [] ws) : KE l G y cc nL rt rm av ws rv ws1 post := by
  intro sz
  refine Met_ofWF (cc := cc) (maxL := nL) (ret := rt) hy rfl ?_
  intro p e s m args below meth c s₁ B hml hv
  obtain ⟨rfl, hsz, hP, hD0, hg⟩ := hv
  have hts := atoms_spec (ws := ws_ y cc nL rt) B.pre
  have hown : s.vm.findClass y.cls = some m.cls := findClass_of_methodNamed B.named
  subst hsz
  have hl := lv_entry av (n := nL) hn
  rw [lg_entry_eq]
  exact body p e s m av.toArray below meth c (va_A ws s.heap.size) ⟨B.exec, B.bytes, hml, hown, fun w h => hts w (List.mem_cons_of_mem _ h), hg, fun q h => Or.inr h, B.notSynchronized, B.returns⟩ (name_of_methodNamed B.named B.method).1 s.heap [] _ hP (hD0.self (sz := s.heap.size)) va_S.rf hl
def F_J9_floorMod_7cf53 (x : Int32) (y : Int32) : Int32 := (if 0 ≤ (x ^^^ y) then x - x / y * y else (if (x - x / y * y) = 0 then x - x / y * y else (x - x / y * y) + y))
abbrev rm_J9_floorMod_7cf53 : Room := { frames := 0, cells := 0, slots := 0, locals := 0 }
set_option maxRecDepth 100000 in
set_option maxHeartbeats 4000000 in
theorem m_J9_floorMod_7cf53 (l : Launch) (G : GG) (E : EE) (σ μ : Sg) (Y : va_W) (x : Int32) (y : Int32) (hy : ¬ y = 0) : KK l G yJ9_floorMod_7cf53 cJ9_floorMod_7cf53 3 (some .int) rm_J9_floorMod_7cf53 [.int x, .int y] (Wd G E σ μ Y) (some (.int (F_J9_floorMod_7cf53 x y))) (Wd G E σ μ Y) := by
  refine KE.ofF (by decide +kernel) (Nat.le_of_ble_eq_true rfl) ?_
  intro zp ze zs zm za zb zt zc zA C _
  generalize hQ : MQ zb _ za zs _ _ zA = Q
  show V zp l ze rm_J9_floorMod_7cf53 zs zm za zb zt zc 3 G zA 0 0 Q 0 [(0, .int x), (1, .int y)] [] (Wd G E σ μ Y)
  refine v_iload_n C 0 rfl dJ9_floorMod_7cf53_0 ?_
  refine v_iload_n C 1 rfl dJ9_floorMod_7cf53_1 ?_
  refine v_irem C hy dJ9_floorMod_7cf53_2 ?_
  refine v_istore_n (lv' := [(2, .int (x - x / y * y)), (0, .int x), (1, .int y)]) C (Nat.le_of_ble_eq_true rfl) rfl dJ9_floorMod_7cf53_3 ?_
  refine v_iload_n C 1 rfl dJ9_floorMod_7cf53_4 ?_
  refine v_iload_n C 2 rfl dJ9_floorMod_7cf53_5 ?_
  refine v_ixor C dJ9_floorMod_7cf53_6 ?_
  refine v_if_ge (tgt := 18) C (by decide) dJ9_floorMod_7cf53_7 (fun h1 => ?_) (fun h1 => ?_)
  · refine v_iload_n C 0 rfl dJ9_floorMod_7cf53_18 ?_
    have e1 : F_J9_floorMod_7cf53 x y = x - x / y * y := by rw [F_J9_floorMod_7cf53, if_pos h1]
    exact v_Q hQ (v_iret C () trivial (by rw [e1]) rfl (Nat.zero_le _) (Nat.zero_le _) dJ9_floorMod_7cf53_19)
  · refine v_iload_n C 0 rfl dJ9_floorMod_7cf53_10 ?_
    refine v_if_eq (tgt := 18) C (by decide) dJ9_floorMod_7cf53_11 (fun h2 => ?_) (fun h2 => ?_)
    · refine v_iload_n C 0 rfl dJ9_floorMod_7cf53_18 ?_
      have e1 : F_J9_floorMod_7cf53 x y = x - x / y * y := by rw [F_J9_floorMod_7cf53, if_neg h1, if_pos h2]
      exact v_Q hQ (v_iret C () trivial (by rw [e1]) rfl (Nat.zero_le _) (Nat.zero_le _) dJ9_floorMod_7cf53_19)
    · refine v_iload_n C 0 rfl dJ9_floorMod_7cf53_14 ?_
      refine v_iload_n C 2 rfl dJ9_floorMod_7cf53_15 ?_
      refine v_iadd C dJ9_floorMod_7cf53_16 ?_
      have e1 : F_J9_floorMod_7cf53 x y = (x - x / y * y) + y := by rw [F_J9_floorMod_7cf53, if_neg h1, if_neg h2]
      exact v_Q hQ (v_iret C () trivial (by rw [e1]) rfl (Nat.zero_le _) (Nat.zero_le _) dJ9_floorMod_7cf53_17)
def L_X1_spareOfBlock_2 (σ : Sg) (bk : Int32) : Nat → Int32 → Int32
  | 0, _ => 0
  | n + 1, x => (if (σ 2 10) ≤ x then (-1 : Int32) else (if (4 : Int32) ≤ x then (-1 : Int32) else (if (σ 3 (x).toNatClampNeg) = bk then (572 : Int32) + x else L_X1_spareOfBlock_2 σ bk n (x + (1 : Int32)))))
def F_X1_spareOfBlock (σ : Sg) (bk : Int32) : Int32 := L_X1_spareOfBlock_2 σ bk 5 (0 : Int32)
abbrev rm_X1_spareOfBlock : Room := { frames := 0, cells := 0, slots := 0, locals := 0 }
set_option maxRecDepth 100000 in
set_option maxHeartbeats 4000000 in
theorem m_X1_spareOfBlock (l : Launch) (G : GG) (E : EE) (σ μ : Sg) (Y : va_W) (bk : Int32) : KK l G yX1_spareOfBlock cX1_spareOfBlock 3 (some .int) rm_X1_spareOfBlock [.ref (E.1 2), .int bk] (Wd G E σ μ Y) (some (.int (F_X1_spareOfBlock σ bk))) (Wd G E σ μ Y) := by
  refine KE.of (by decide) (Nat.le_of_ble_eq_true rfl) ?_
  intro zp ze zs zm za zb zt zc zA C _
  generalize hQ : MQ zb _ za zs _ _ zA = Q
  have loop_2 : ∀ (n : Nat) (x : Int32), (∃ j : Nat, x = nI j ∧ j ≤ 4 ∧ j + n = 5) → F_X1_spareOfBlock σ bk = L_X1_spareOfBlock_2 σ bk n x → V zp l ze rm_X1_spareOfBlock zs zm za zb zt zc 3 G zA 0 0 Q 2 [(0, .ref (E.1 2)), (1, .int bk), (2, .int x)] [] (Wd G E σ μ Y) := by
    intro n
    induction n with
    | zero =>
      intro x hI hL
      exact False.elim (by obtain ⟨j, _, h4, hn⟩ := hI; omega)
    | succ n ih =>
      intro x hI hL
      obtain ⟨j, ej, h4, hn⟩ := hI
      refine v_iload_n C 2 rfl dX1_spareOfBlock_2 ?_
      refine v_aload_n C 0 rfl dX1_spareOfBlock_3 ?_
      refine v_get (v := .int (σ 2 10)) C fl_RX1_49 2 g_2 rfl dX1_spareOfBlock_4 ?_
      refine v_icmp_ge (tgt := 37) C (by decide) dX1_spareOfBlock_7 (fun h1 => ?_) (fun h1 => ?_)
      · refine v_iconst (v := (-1 : Int32)) C (by decide) dX1_spareOfBlock_37 ?_
        have e1 : F_X1_spareOfBlock σ bk = (-1 : Int32) := by rw [hL, L_X1_spareOfBlock_2, if_pos h1]
        exact v_Q hQ (v_iret C () trivial (by rw [e1]) rfl (Nat.zero_le _) (Nat.zero_le _) dX1_spareOfBlock_38)
      · refine v_iload_n C 2 rfl dX1_spareOfBlock_10 ?_
        refine v_iconst (v := (4 : Int32)) C (by decide) dX1_spareOfBlock_11 ?_
        refine v_icmp_ge (tgt := 37) C (by decide) dX1_spareOfBlock_12 (fun h2 => ?_) (fun h2 => ?_)
        · refine v_iconst (v := (-1 : Int32)) C (by decide) dX1_spareOfBlock_37 ?_
          have e1 : F_X1_spareOfBlock σ bk = (-1 : Int32) := by rw [hL, L_X1_spareOfBlock_2, if_neg h1, if_pos h2]
          exact v_Q hQ (v_iret C () trivial (by rw [e1]) rfl (Nat.zero_le _) (Nat.zero_le _) dX1_spareOfBlock_38)
        · refine v_aload_n C 0 rfl dX1_spareOfBlock_15 ?_
          refine v_get (v := .ref (E.1 3)) C fl_RX1_21 2 g_2 rfl dX1_spareOfBlock_16 ?_
          refine v_iload_n C 2 rfl dX1_spareOfBlock_19 ?_
          refine v_iald (v := σ 3 (x).toNatClampNeg) C 3 g_3 (by have q := gt_of_nle (a := 4) rfl ej (by omega) (by omega) h2; exact vi_x ej (by omega) (by decide)) rfl dX1_spareOfBlock_20 ?_
          refine v_iload_n C 1 rfl dX1_spareOfBlock_21 ?_
          refine v_icmp_ne (tgt := 31) C (by decide) dX1_spareOfBlock_22 (fun h3 => ?_) (fun h3 => ?_)
          · refine v_iinc (v := x + (1 : Int32)) (lv' := [(2, .int (x + (1 : Int32))), (0, .ref (E.1 2)), (1, .int bk)]) C 2 rfl rfl (Nat.le_of_ble_eq_true rfl) rfl dX1_spareOfBlock_31 ?_
            refine v_goto (tgt := 2) C (by decide) dX1_spareOfBlock_34 ?_
            refine v_lv [1, 2, 0] rfl ?_
            exact ih (x + (1 : Int32)) (by have q := gt_of_nle (a := 4) rfl ej (by omega) (by omega) h2; exact ⟨j + 1, by rw [ej]; exact nI_1 j, by omega, by omega⟩) (by rw [hL, L_X1_spareOfBlock_2, if_neg h1, if_neg h2, if_neg h3])
          · refine v_sipush (v := (572 : Int32)) C (by decide) dX1_spareOfBlock_25 ?_
            refine v_iload_n C 2 rfl dX1_spareOfBlock_28 ?_
            refine v_iadd C dX1_spareOfBlock_29 ?_
            have e1 : F_X1_spareOfBlock σ bk = (572 : Int32) + x := by rw [hL, L_X1_spareOfBlock_2, if_neg h1, if_neg h2, if_pos h3]
            exact v_Q hQ (v_iret C () trivial (by rw [e1]) rfl (Nat.zero_le _) (Nat.zero_le _) dX1_spareOfBlock_30)
  show V zp l ze rm_X1_spareOfBlock zs zm za zb zt zc 3 G zA 0 0 Q 0 [(0, .ref (E.1 2)), (1, .int bk)] [] (Wd G E σ μ Y)
  refine v_iconst (v := (0 : Int32)) C (by decide) dX1_spareOfBlock_0 ?_
  refine v_istore_n (lv' := [(2, .int (0 : Int32)), (0, .ref (E.1 2)), (1, .int bk)]) C (Nat.le_of_ble_eq_true rfl) rfl dX1_spareOfBlock_1 ?_
  refine v_lv [1, 2, 0] rfl ?_
  exact loop_2 5 (0 : Int32) (⟨0, rfl, by omega, by omega⟩) (by rw [F_X1_spareOfBlock])
def F_X1_takeSpare (σ : Sg) (bk : Int32) : Int32 × Sg := (if (F_X9_isWithin (σ 2 10) (0 : Int32) (3 : Int32)) = 0 then ((-1 : Int32), σ) else (((572 : Int32) + ((σ 2 10) + (1 : Int32))) - (1 : Int32), (s2 (s2 σ 3 (σ 2 10).toNatClampNeg bk) 2 10 ((σ 2 10) + (1 : Int32)))))
abbrev rm_X1_takeSpare : Room := { frames := 1, cells := 0, slots := 0, locals := 22 }
set_option maxRecDepth 100000 in
set_option maxHeartbeats 4000000 in
theorem m_X1_takeSpare (l : Launch) (G : GG) (E : EE) (σ μ : Sg) (Y : va_W) (bk : Int32) : KK l G yX1_takeSpare cX1_takeSpare 2 (some .int) rm_X1_takeSpare [.ref (E.1 2), .int bk] (Wd G E σ μ Y) (some (.int (F_X1_takeSpare σ bk).1)) (Wd G E (F_X1_takeSpare σ bk).2 μ Y) := by
  refine KE.of (by decide) (Nat.le_of_ble_eq_true rfl) ?_
  intro zp ze zs zm za zb zt zc zA C _
  generalize hQ : MQ zb _ za zs _ _ zA = Q
  show V zp l ze rm_X1_takeSpare zs zm za zb zt zc 2 G zA 0 0 Q 0 [(0, .ref (E.1 2)), (1, .int bk)] [] (Wd G E σ μ Y)
  refine v_aload_n C 0 rfl dX1_takeSpare_0 ?_
  refine v_get (v := .int (σ 2 10)) C fl_RX1_49 2 g_2 rfl dX1_takeSpare_1 ?_
  refine v_iconst (v := (0 : Int32)) C (by decide) dX1_takeSpare_4 ?_
  refine v_iconst (v := (3 : Int32)) C (by decide) dX1_takeSpare_5 ?_
  refine v_cN1 (rest := []) C mn_RX1_56 w_378 (m_X9_isWithin l G E σ μ Y (σ 2 10) (0 : Int32) (3 : Int32)) rfl rfl (Nat.le_of_ble_eq_true rfl) ⟨Nat.le_of_ble_eq_true rfl, Nat.le_of_ble_eq_true rfl⟩ ⟨rfl, rfl⟩ ⟨Nat.zero_le _, Nat.zero_le _⟩ dX1_takeSpare_6 ?_
  refine v_if_ne (tgt := 14) C (by decide) dX1_takeSpare_9 (fun h1 => ?_) (fun h1 => ?_)
  · refine v_aload_n C 0 rfl dX1_takeSpare_14 ?_
    refine v_get (v := .ref (E.1 3)) C fl_RX1_21 2 g_2 rfl dX1_takeSpare_15 ?_
    refine v_aload_n C 0 rfl dX1_takeSpare_18 ?_
    refine v_get (v := .int (σ 2 10)) C fl_RX1_49 2 g_2 rfl dX1_takeSpare_19 ?_
    refine v_iload_n C 1 rfl dX1_takeSpare_22 ?_
    refine v_iast (ws' := Wd G E (s2 σ 3 (σ 2 10).toNatClampNeg bk) μ Y) C 3 g_3 (within_in (N := 3) (by decide) rfl h1) (p_3 _ _) dX1_takeSpare_23 ?_
    refine v_aload_n C 0 rfl dX1_takeSpare_24 ?_
    refine v_dup C rfl dX1_takeSpare_25 ?_
    refine v_get (v := .int (σ 2 10)) C fl_RX1_49 2 g_2 rfl dX1_takeSpare_26 ?_
    refine v_iconst (v := (1 : Int32)) C (by decide) dX1_takeSpare_29 ?_
    refine v_iadd C dX1_takeSpare_30 ?_
    refine v_put C fp_RX1_49 2 g_2 rfl rfl (Nat.le_of_ble_eq_true rfl) (p_2_10 _) dX1_takeSpare_31 ?_
    refine v_sipush (v := (572 : Int32)) C (by decide) dX1_takeSpare_34 ?_
    refine v_aload_n C 0 rfl dX1_takeSpare_37 ?_
    refine v_get (v := .int ((σ 2 10) + (1 : Int32))) C fl_RX1_49 2 g_2 rfl dX1_takeSpare_38 ?_
    refine v_iadd C dX1_takeSpare_41 ?_
    refine v_iconst (v := (1 : Int32)) C (by decide) dX1_takeSpare_42 ?_
    refine v_isub C dX1_takeSpare_43 ?_
    have e1 : F_X1_takeSpare σ bk = (((572 : Int32) + ((σ 2 10) + (1 : Int32))) - (1 : Int32), (s2 (s2 σ 3 (σ 2 10).toNatClampNeg bk) 2 10 ((σ 2 10) + (1 : Int32)))) := by rw [F_X1_takeSpare, if_neg h1]
    exact v_Q hQ (v_iret C () trivial (by rw [e1]) (by rw [e1]) (Nat.zero_le _) (Nat.zero_le _) dX1_takeSpare_44)
  · refine v_iconst (v := (-1 : Int32)) C (by decide) dX1_takeSpare_12 ?_
    have e1 : F_X1_takeSpare σ bk = ((-1 : Int32), σ) := by rw [F_X1_takeSpare, if_pos h1]
    exact v_Q hQ (v_iret C () trivial (by rw [e1]) (by rw [e1]) (Nat.zero_le _) (Nat.zero_le _) dX1_takeSpare_13)
def F_X1_placeOfBlock (σ : Sg) (bk : Int32) : Int32 := (if (F_X1_spareOfBlock σ bk) = (-1 : Int32) then bk else F_X1_spareOfBlock σ bk)
abbrev rm_X1_placeOfBlock : Room := { frames := 1, cells := 0, slots := 0, locals := 22 }
set_option maxRecDepth 100000 in
set_option maxHeartbeats 4000000 in
theorem m_X1_placeOfBlock (l : Launch) (G : GG) (E : EE) (σ μ : Sg) (Y : va_W) (bk : Int32) : KK l G yX1_placeOfBlock cX1_placeOfBlock 3 (some .int) rm_X1_placeOfBlock [.ref (E.1 2), .int bk] (Wd G E σ μ Y) (some (.int (F_X1_placeOfBlock σ bk))) (Wd G E σ μ Y) := by
  refine KE.of (by decide) (Nat.le_of_ble_eq_true rfl) ?_
  intro zp ze zs zm za zb zt zc zA C _
  generalize hQ : MQ zb _ za zs _ _ zA = Q
  show V zp l ze rm_X1_placeOfBlock zs zm za zb zt zc 3 G zA 0 0 Q 0 [(0, .ref (E.1 2)), (1, .int bk)] [] (Wd G E σ μ Y)
  refine v_aload_n C 0 rfl dX1_placeOfBlock_0 ?_
  refine v_iload_n C 1 rfl dX1_placeOfBlock_1 ?_
  refine v_cV1 (rest := []) C mv_RX1_60 (m_X1_spareOfBlock l G E σ μ Y bk) 2 g_2 rfl rfl rfl rfl (Nat.le_of_ble_eq_true rfl) ⟨Nat.le_of_ble_eq_true rfl, Nat.le_of_ble_eq_true rfl⟩ ⟨rfl, rfl⟩ ⟨Nat.zero_le _, Nat.zero_le _⟩ dX1_placeOfBlock_2 ?_
  refine v_istore_n (lv' := [(2, .int (F_X1_spareOfBlock σ bk)), (0, .ref (E.1 2)), (1, .int bk)]) C (Nat.le_of_ble_eq_true rfl) rfl dX1_placeOfBlock_5 ?_
  refine v_iload_n C 0 rfl dX1_placeOfBlock_6 ?_
  refine v_iconst (v := (-1 : Int32)) C (by decide) dX1_placeOfBlock_7 ?_
  refine v_icmp_ne (tgt := 15) C (by decide) dX1_placeOfBlock_8 (fun h1 => ?_) (fun h1 => ?_)
  · refine v_iload_n C 0 rfl dX1_placeOfBlock_15 ?_
    have e1 : F_X1_placeOfBlock σ bk = F_X1_spareOfBlock σ bk := by rw [F_X1_placeOfBlock, if_neg h1]
    exact v_Q hQ (v_iret C () trivial (by rw [e1]) rfl (Nat.zero_le _) (Nat.zero_le _) dX1_placeOfBlock_16)
  · refine v_iload_n C 2 rfl dX1_placeOfBlock_11 ?_
    refine v_goto (tgt := 16) C (by decide) dX1_placeOfBlock_12 ?_
    have e1 : F_X1_placeOfBlock σ bk = bk := by rw [F_X1_placeOfBlock, if_pos h1]
    exact v_Q hQ (v_iret C () trivial (by rw [e1]) rfl (Nat.zero_le _) (Nat.zero_le _) dX1_placeOfBlock_16)
def F_X1_accessesAt (σ : Sg) (pl : Int32) : Int32 := (if (F_X9_isWithin pl (0 : Int32) (575 : Int32)) = 0 then (0 : Int32) else σ 4 (pl).toNatClampNeg)
abbrev rm_X1_accessesAt : Room := { frames := 1, cells := 0, slots := 0, locals := 22 }
set_option maxRecDepth 100000 in
set_option maxHeartbeats 4000000 in
theorem m_X1_accessesAt (l : Launch) (G : GG) (E : EE) (σ μ : Sg) (Y : va_W) (pl : Int32) : KK l G yX1_accessesAt cX1_accessesAt 2 (some .int) rm_X1_accessesAt [.ref (E.1 2), .int pl] (Wd G E σ μ Y) (some (.int (F_X1_accessesAt σ pl))) (Wd G E σ μ Y) := by
  refine KE.of (by decide) (Nat.le_of_ble_eq_true rfl) ?_
  intro zp ze zs zm za zb zt zc zA C _
  generalize hQ : MQ zb _ za zs _ _ zA = Q
  show V zp l ze rm_X1_accessesAt zs zm za zb zt zc 2 G zA 0 0 Q 0 [(0, .ref (E.1 2)), (1, .int pl)] [] (Wd G E σ μ Y)
  refine v_iload_n C 1 rfl dX1_accessesAt_0 ?_
  refine v_iconst (v := (0 : Int32)) C (by decide) dX1_accessesAt_1 ?_
  refine v_sipush (v := (575 : Int32)) C (by decide) dX1_accessesAt_2 ?_
  refine v_cN1 (rest := []) C mn_RX1_56 w_378 (m_X9_isWithin l G E σ μ Y pl (0 : Int32) (575 : Int32)) rfl rfl (Nat.le_of_ble_eq_true rfl) ⟨Nat.le_of_ble_eq_true rfl, Nat.le_of_ble_eq_true rfl⟩ ⟨rfl, rfl⟩ ⟨Nat.zero_le _, Nat.zero_le _⟩ dX1_accessesAt_5 ?_
  refine v_if_eq (tgt := 20) C (by decide) dX1_accessesAt_8 (fun h1 => ?_) (fun h1 => ?_)
  · refine v_iconst (v := (0 : Int32)) C (by decide) dX1_accessesAt_20 ?_
    have e1 : F_X1_accessesAt σ pl = (0 : Int32) := by rw [F_X1_accessesAt, if_pos h1]
    exact v_Q hQ (v_iret C () trivial (by rw [e1]) rfl (Nat.zero_le _) (Nat.zero_le _) dX1_accessesAt_21)
  · refine v_aload_n C 0 rfl dX1_accessesAt_11 ?_
    refine v_get (v := .ref (E.1 4)) C fl_RX1_25 2 g_2 rfl dX1_accessesAt_12 ?_
    refine v_iload_n C 1 rfl dX1_accessesAt_15 ?_
    refine v_iald (v := σ 4 (pl).toNatClampNeg) C 4 g_4 (within_in (N := 575) (by decide) rfl h1) rfl dX1_accessesAt_16 ?_
    refine v_goto (tgt := 21) C (by decide) dX1_accessesAt_17 ?_
    have e1 : F_X1_accessesAt σ pl = σ 4 (pl).toNatClampNeg := by rw [F_X1_accessesAt, if_neg h1]
    exact v_Q hQ (v_iret C () trivial (by rw [e1]) rfl (Nat.zero_le _) (Nat.zero_le _) dX1_accessesAt_21)
def L_X1_ticksOfSeek_24 (σ : Sg) (fr : Int32) (to : Int32) : Nat → Int32 → Int32 → Int32
  | 0, _, _ => 0
  | n + 1, ds, x => (if (64 : Int32) ≤ x then ((σ 2 0) + ((σ 2 1) * x)) + ((σ 2 2) * ds) else (if ds < ((x + (1 : Int32)) * (x + (1 : Int32))) then ((σ 2 0) + ((σ 2 1) * x)) + ((σ 2 2) * ds) else L_X1_ticksOfSeek_24 σ fr to n ds (x + (1 : Int32))))
def F_X1_ticksOfSeek (σ : Sg) (fr : Int32) (to : Int32) : Int32 := (if to ≤ fr then (if (fr - to) = 0 then (0 : Int32) else L_X1_ticksOfSeek_24 σ fr to 64 (fr - to) (1 : Int32)) else (if (to - fr) = 0 then (0 : Int32) else L_X1_ticksOfSeek_24 σ fr to 64 (to - fr) (1 : Int32)))
abbrev rm_X1_ticksOfSeek : Room := { frames := 0, cells := 0, slots := 0, locals := 0 }
set_option maxRecDepth 100000 in
set_option maxHeartbeats 4000000 in
theorem m_X1_ticksOfSeek (l : Launch) (G : GG) (E : EE) (σ μ : Sg) (Y : va_W) (fr : Int32) (to : Int32) : KK l G yX1_ticksOfSeek cX1_ticksOfSeek 5 (some .int) rm_X1_ticksOfSeek [.ref (E.1 2), .int fr, .int to] (Wd G E σ μ Y) (some (.int (F_X1_ticksOfSeek σ fr to))) (Wd G E σ μ Y) := by
  refine KE.of (by decide) (Nat.le_of_ble_eq_true rfl) ?_
  intro zp ze zs zm za zb zt zc zA C _
  generalize hQ : MQ zb _ za zs _ _ zA = Q
  have loop_24 : ∀ (n : Nat) (ds : Int32) (x : Int32), (∃ j : Nat, x = nI j ∧ j ≤ 64 ∧ j + n = 65) → F_X1_ticksOfSeek σ fr to = L_X1_ticksOfSeek_24 σ fr to n ds x → V zp l ze rm_X1_ticksOfSeek zs zm za zb zt zc 5 G zA 0 0 Q 24 [(0, .ref (E.1 2)), (1, .int fr), (2, .int to), (3, .int ds), (4, .int x)] [] (Wd G E σ μ Y) := by
    intro n
    induction n with
    | zero =>
      intro ds x hI hL
      exact False.elim (by obtain ⟨j, _, h4, hn⟩ := hI; omega)
    | succ n ih =>
      intro ds x hI hL
      obtain ⟨j, ej, h4, hn⟩ := hI
      refine v_iload C 4 rfl dX1_ticksOfSeek_24 ?_
      refine v_bipush (v := (64 : Int32)) C (by decide) dX1_ticksOfSeek_26 ?_
      refine v_icmp_ge (tgt := 50) C (by decide) dX1_ticksOfSeek_28 (fun h1 => ?_) (fun h1 => ?_)
      · refine v_aload_n C 0 rfl dX1_ticksOfSeek_50 ?_
        refine v_get (v := .int (σ 2 0)) C fl_RX1_9 2 g_2 rfl dX1_ticksOfSeek_51 ?_
        refine v_aload_n C 0 rfl dX1_ticksOfSeek_54 ?_
        refine v_get (v := .int (σ 2 1)) C fl_RX1_15 2 g_2 rfl dX1_ticksOfSeek_55 ?_
        refine v_iload C 4 rfl dX1_ticksOfSeek_58 ?_
        refine v_imul C dX1_ticksOfSeek_60 ?_
        refine v_iadd C dX1_ticksOfSeek_61 ?_
        refine v_aload_n C 0 rfl dX1_ticksOfSeek_62 ?_
        refine v_get (v := .int (σ 2 2)) C fl_RX1_18 2 g_2 rfl dX1_ticksOfSeek_63 ?_
        refine v_iload_n C 3 rfl dX1_ticksOfSeek_66 ?_
        refine v_imul C dX1_ticksOfSeek_67 ?_
        refine v_iadd C dX1_ticksOfSeek_68 ?_
        have e1 : F_X1_ticksOfSeek σ fr to = ((σ 2 0) + ((σ 2 1) * x)) + ((σ 2 2) * ds) := by rw [hL, L_X1_ticksOfSeek_24, if_pos h1]
        exact v_Q hQ (v_iret C () trivial (by rw [e1]) rfl (Nat.zero_le _) (Nat.zero_le _) dX1_ticksOfSeek_69)
      · refine v_iload C 4 rfl dX1_ticksOfSeek_31 ?_
        refine v_iconst (v := (1 : Int32)) C (by decide) dX1_ticksOfSeek_33 ?_
        refine v_iadd C dX1_ticksOfSeek_34 ?_
        refine v_iload C 4 rfl dX1_ticksOfSeek_35 ?_
        refine v_iconst (v := (1 : Int32)) C (by decide) dX1_ticksOfSeek_37 ?_
        refine v_iadd C dX1_ticksOfSeek_38 ?_
        refine v_imul C dX1_ticksOfSeek_39 ?_
        refine v_iload_n C 3 rfl dX1_ticksOfSeek_40 ?_
        refine v_icmp_gt (tgt := 50) C (by decide) dX1_ticksOfSeek_41 (fun h2 => ?_) (fun h2 => ?_)
        · refine v_aload_n C 0 rfl dX1_ticksOfSeek_50 ?_
          refine v_get (v := .int (σ 2 0)) C fl_RX1_9 2 g_2 rfl dX1_ticksOfSeek_51 ?_
          refine v_aload_n C 0 rfl dX1_ticksOfSeek_54 ?_
          refine v_get (v := .int (σ 2 1)) C fl_RX1_15 2 g_2 rfl dX1_ticksOfSeek_55 ?_
          refine v_iload C 4 rfl dX1_ticksOfSeek_58 ?_
          refine v_imul C dX1_ticksOfSeek_60 ?_
          refine v_iadd C dX1_ticksOfSeek_61 ?_
          refine v_aload_n C 0 rfl dX1_ticksOfSeek_62 ?_
          refine v_get (v := .int (σ 2 2)) C fl_RX1_18 2 g_2 rfl dX1_ticksOfSeek_63 ?_
          refine v_iload_n C 3 rfl dX1_ticksOfSeek_66 ?_
          refine v_imul C dX1_ticksOfSeek_67 ?_
          refine v_iadd C dX1_ticksOfSeek_68 ?_
          have e1 : F_X1_ticksOfSeek σ fr to = ((σ 2 0) + ((σ 2 1) * x)) + ((σ 2 2) * ds) := by rw [hL, L_X1_ticksOfSeek_24, if_neg h1, if_pos h2]
          exact v_Q hQ (v_iret C () trivial (by rw [e1]) rfl (Nat.zero_le _) (Nat.zero_le _) dX1_ticksOfSeek_69)
        · refine v_iinc (v := x + (1 : Int32)) (lv' := [(4, .int (x + (1 : Int32))), (0, .ref (E.1 2)), (1, .int fr), (2, .int to), (3, .int ds)]) C 4 rfl rfl (Nat.le_of_ble_eq_true rfl) rfl dX1_ticksOfSeek_44 ?_
          refine v_goto (tgt := 24) C (by decide) dX1_ticksOfSeek_47 ?_
          refine v_lv [1, 2, 3, 4, 0] rfl ?_
          exact ih ds (x + (1 : Int32)) (by have q := gt_of_nle (a := 64) rfl ej (by omega) (by omega) h1; exact ⟨j + 1, by rw [ej]; exact nI_1 j, by omega, by omega⟩) (by rw [hL, L_X1_ticksOfSeek_24, if_neg h1, if_neg h2])
  show V zp l ze rm_X1_ticksOfSeek zs zm za zb zt zc 5 G zA 0 0 Q 0 [(0, .ref (E.1 2)), (1, .int fr), (2, .int to)] [] (Wd G E σ μ Y)
  refine v_iload_n C 1 rfl dX1_ticksOfSeek_0 ?_
  refine v_iload_n C 2 rfl dX1_ticksOfSeek_1 ?_
  refine v_icmp_ge (tgt := 11) C (by decide) dX1_ticksOfSeek_2 (fun h3 => ?_) (fun h3 => ?_)
  · refine v_iload_n C 1 rfl dX1_ticksOfSeek_11 ?_
    refine v_iload_n C 2 rfl dX1_ticksOfSeek_12 ?_
    refine v_isub C dX1_ticksOfSeek_13 ?_
    refine v_istore_n (lv' := [(3, .int (fr - to)), (0, .ref (E.1 2)), (1, .int fr), (2, .int to)]) C (Nat.le_of_ble_eq_true rfl) rfl dX1_ticksOfSeek_14 ?_
    refine v_iload_n C 0 rfl dX1_ticksOfSeek_15 ?_
    refine v_if_ne (tgt := 21) C (by decide) dX1_ticksOfSeek_16 (fun h4 => ?_) (fun h4 => ?_)
    · refine v_iconst (v := (1 : Int32)) C (by decide) dX1_ticksOfSeek_21 ?_
      refine v_istore (lv' := [(4, .int (1 : Int32)), (3, .int (fr - to)), (0, .ref (E.1 2)), (1, .int fr), (2, .int to)]) C (Nat.le_of_ble_eq_true rfl) rfl dX1_ticksOfSeek_22 ?_
      refine v_lv [2, 3, 4, 1, 0] rfl ?_
      exact loop_24 64 (fr - to) (1 : Int32) (⟨1, rfl, by omega, by omega⟩) (by rw [F_X1_ticksOfSeek, if_pos h3, if_neg h4])
    · refine v_iconst (v := (0 : Int32)) C (by decide) dX1_ticksOfSeek_19 ?_
      have e1 : F_X1_ticksOfSeek σ fr to = (0 : Int32) := by rw [F_X1_ticksOfSeek, if_pos h3, if_pos h4]
      exact v_Q hQ (v_iret C () trivial (by rw [e1]) rfl (Nat.zero_le _) (Nat.zero_le _) dX1_ticksOfSeek_20)
  · refine v_iload_n C 2 rfl dX1_ticksOfSeek_5 ?_
    refine v_iload_n C 1 rfl dX1_ticksOfSeek_6 ?_
    refine v_isub C dX1_ticksOfSeek_7 ?_
    refine v_goto (tgt := 14) C (by decide) dX1_ticksOfSeek_8 ?_
    refine v_istore_n (lv' := [(3, .int (to - fr)), (0, .ref (E.1 2)), (1, .int fr), (2, .int to)]) C (Nat.le_of_ble_eq_true rfl) rfl dX1_ticksOfSeek_14 ?_
    refine v_iload_n C 0 rfl dX1_ticksOfSeek_15 ?_
    refine v_if_ne (tgt := 21) C (by decide) dX1_ticksOfSeek_16 (fun h5 => ?_) (fun h5 => ?_)
    · refine v_iconst (v := (1 : Int32)) C (by decide) dX1_ticksOfSeek_21 ?_
      refine v_istore (lv' := [(4, .int (1 : Int32)), (3, .int (to - fr)), (0, .ref (E.1 2)), (1, .int fr), (2, .int to)]) C (Nat.le_of_ble_eq_true rfl) rfl dX1_ticksOfSeek_22 ?_
      refine v_lv [2, 3, 4, 1, 0] rfl ?_
      exact loop_24 64 (to - fr) (1 : Int32) (⟨1, rfl, by omega, by omega⟩) (by rw [F_X1_ticksOfSeek, if_neg h3, if_neg h5])
    · refine v_iconst (v := (0 : Int32)) C (by decide) dX1_ticksOfSeek_19 ?_
      have e1 : F_X1_ticksOfSeek σ fr to = (0 : Int32) := by rw [F_X1_ticksOfSeek, if_neg h3, if_pos h5]
      exact v_Q hQ (v_iret C () trivial (by rw [e1]) rfl (Nat.zero_le _) (Nat.zero_le _) dX1_ticksOfSeek_20)
def F_X1_angleOfPlace (σ : Sg) (pl : Int32) : Int32 := (((F_X2_sectorOfPlace pl) * (F_X2_sectorTicksAt pl)) + ((F_X2_cylinderOfPlace pl) * (σ 2 3))) - (((F_X2_sectorOfPlace pl) * (F_X2_sectorTicksAt pl)) + ((F_X2_cylinderOfPlace pl) * (σ 2 3))) / (120 : Int32) * (120 : Int32)
abbrev rm_X1_angleOfPlace : Room := { frames := 2, cells := 0, slots := 0, locals := 43 }
set_option maxRecDepth 100000 in
set_option maxHeartbeats 4000000 in
theorem m_X1_angleOfPlace (l : Launch) (G : GG) (E : EE) (σ μ : Sg) (Y : va_W) (pl : Int32) : KK l G yX1_angleOfPlace cX1_angleOfPlace 3 (some .int) rm_X1_angleOfPlace [.ref (E.1 2), .int pl] (Wd G E σ μ Y) (some (.int (F_X1_angleOfPlace σ pl))) (Wd G E σ μ Y) := by
  refine KE.of (by decide) (Nat.le_of_ble_eq_true rfl) ?_
  intro zp ze zs zm za zb zt zc zA C _
  generalize hQ : MQ zb _ za zs _ _ zA = Q
  show V zp l ze rm_X1_angleOfPlace zs zm za zb zt zc 3 G zA 0 0 Q 0 [(0, .ref (E.1 2)), (1, .int pl)] [] (Wd G E σ μ Y)
  refine v_iload_n C 1 rfl dX1_angleOfPlace_0 ?_
  refine v_cS1 (rest := []) C ms_RX1_64 (m_X2_sectorOfPlace l G E σ μ Y pl) rfl rfl (Nat.le_of_ble_eq_true rfl) ⟨Nat.le_of_ble_eq_true rfl, Nat.le_of_ble_eq_true rfl⟩ ⟨rfl, rfl⟩ ⟨Nat.zero_le _, Nat.zero_le _⟩ dX1_angleOfPlace_1 ?_
  refine v_iload_n C 1 rfl dX1_angleOfPlace_4 ?_
  refine v_cS1 (rest := [.int (F_X2_sectorOfPlace pl)]) C ms_RX1_69 (m_X2_sectorTicksAt l G E σ μ Y pl) rfl rfl (Nat.le_of_ble_eq_true rfl) ⟨Nat.le_of_ble_eq_true rfl, Nat.le_of_ble_eq_true rfl⟩ ⟨rfl, rfl⟩ ⟨Nat.zero_le _, Nat.zero_le _⟩ dX1_angleOfPlace_5 ?_
  refine v_imul C dX1_angleOfPlace_8 ?_
  refine v_istore_n (lv' := [(2, .int ((F_X2_sectorOfPlace pl) * (F_X2_sectorTicksAt pl))), (0, .ref (E.1 2)), (1, .int pl)]) C (Nat.le_of_ble_eq_true rfl) rfl dX1_angleOfPlace_9 ?_
  refine v_iload_n C 0 rfl dX1_angleOfPlace_10 ?_
  refine v_iload_n C 2 rfl dX1_angleOfPlace_11 ?_
  refine v_cS1 (rest := [.int ((F_X2_sectorOfPlace pl) * (F_X2_sectorTicksAt pl))]) C ms_RX1_72 (m_X2_cylinderOfPlace l G E σ μ Y pl) rfl rfl (Nat.le_of_ble_eq_true rfl) ⟨Nat.le_of_ble_eq_true rfl, Nat.le_of_ble_eq_true rfl⟩ ⟨rfl, rfl⟩ ⟨Nat.zero_le _, Nat.zero_le _⟩ dX1_angleOfPlace_12 ?_
  refine v_aload_n C 1 rfl dX1_angleOfPlace_15 ?_
  refine v_get (v := .int (σ 2 3)) C fl_RX1_28 2 g_2 rfl dX1_angleOfPlace_16 ?_
  refine v_imul C dX1_angleOfPlace_19 ?_
  refine v_iadd C dX1_angleOfPlace_20 ?_
  refine v_bipush (v := (120 : Int32)) C (by decide) dX1_angleOfPlace_21 ?_
  refine v_irem C (by decide) dX1_angleOfPlace_23 ?_
  have e1 : F_X1_angleOfPlace σ pl = (((F_X2_sectorOfPlace pl) * (F_X2_sectorTicksAt pl)) + ((F_X2_cylinderOfPlace pl) * (σ 2 3))) - (((F_X2_sectorOfPlace pl) * (F_X2_sectorTicksAt pl)) + ((F_X2_cylinderOfPlace pl) * (σ 2 3))) / (120 : Int32) * (120 : Int32) := by rw [F_X1_angleOfPlace]
  exact v_Q hQ (v_iret C () trivial (by rw [e1]) rfl (Nat.zero_le _) (Nat.zero_le _) dX1_angleOfPlace_24)
def F_X1_ticksOfWait (an : Int32) (t : Int32) : Int32 := F_J9_floorMod_7cf53 (an - t) (120 : Int32)
abbrev rm_X1_ticksOfWait : Room := { frames := 1, cells := 0, slots := 0, locals := 22 }
set_option maxRecDepth 100000 in
set_option maxHeartbeats 4000000 in
theorem m_X1_ticksOfWait (l : Launch) (G : GG) (E : EE) (σ μ : Sg) (Y : va_W) (an : Int32) (t : Int32) : KK l G yX1_ticksOfWait cX1_ticksOfWait 2 (some .int) rm_X1_ticksOfWait [.int an, .int t] (Wd G E σ μ Y) (some (.int (F_X1_ticksOfWait an t))) (Wd G E σ μ Y) := by
  refine KE.of (by decide) (Nat.le_of_ble_eq_true rfl) ?_
  intro zp ze zs zm za zb zt zc zA C _
  generalize hQ : MQ zb _ za zs _ _ zA = Q
  show V zp l ze rm_X1_ticksOfWait zs zm za zb zt zc 2 G zA 0 0 Q 0 [(0, .int an), (1, .int t)] [] (Wd G E σ μ Y)
  refine v_iload_n C 0 rfl dX1_ticksOfWait_0 ?_
  refine v_iload_n C 1 rfl dX1_ticksOfWait_1 ?_
  refine v_isub C dX1_ticksOfWait_2 ?_
  refine v_bipush (v := (120 : Int32)) C (by decide) dX1_ticksOfWait_3 ?_
  refine v_cS1 (rest := []) C ms_RX1_85 (m_J9_floorMod_7cf53 l G E σ μ Y (an - t) (120 : Int32) (by decide)) rfl rfl (Nat.le_of_ble_eq_true rfl) ⟨Nat.le_of_ble_eq_true rfl, Nat.le_of_ble_eq_true rfl⟩ ⟨rfl, rfl⟩ ⟨Nat.zero_le _, Nat.zero_le _⟩ dX1_ticksOfWait_5 ?_
  have e1 : F_X1_ticksOfWait an t = F_J9_floorMod_7cf53 (an - t) (120 : Int32) := by rw [F_X1_ticksOfWait]
  exact v_Q hQ (v_iret C () trivial (by rw [e1]) rfl (Nat.zero_le _) (Nat.zero_le _) dX1_ticksOfWait_8)
def F_X1_ticksToAccess (σ : Sg) (pl : Int32) : Int32 := ((F_X1_ticksOfSeek σ (σ 2 5) (F_X2_cylinderOfPlace pl)) + (F_X1_ticksOfWait (F_X1_angleOfPlace σ pl) ((σ 2 4) + (F_X1_ticksOfSeek σ (σ 2 5) (F_X2_cylinderOfPlace pl))))) + (F_X2_sectorTicksAt pl)
abbrev rm_X1_ticksToAccess : Room := { frames := 3, cells := 0, slots := 0, locals := 65 }
set_option maxRecDepth 100000 in
set_option maxHeartbeats 4000000 in
theorem m_X1_ticksToAccess (l : Launch) (G : GG) (E : EE) (σ μ : Sg) (Y : va_W) (pl : Int32) : KK l G yX1_ticksToAccess cX1_ticksToAccess 3 (some .int) rm_X1_ticksToAccess [.ref (E.1 2), .int pl] (Wd G E σ μ Y) (some (.int (F_X1_ticksToAccess σ pl))) (Wd G E σ μ Y) := by
  refine KE.of (by decide) (Nat.le_of_ble_eq_true rfl) ?_
  intro zp ze zs zm za zb zt zc zA C _
  generalize hQ : MQ zb _ za zs _ _ zA = Q
  show V zp l ze rm_X1_ticksToAccess zs zm za zb zt zc 3 G zA 0 0 Q 0 [(0, .ref (E.1 2)), (1, .int pl)] [] (Wd G E σ μ Y)
  refine v_aload_n C 0 rfl dX1_ticksToAccess_0 ?_
  refine v_aload_n C 0 rfl dX1_ticksToAccess_1 ?_
  refine v_get (v := .int (σ 2 5)) C fl_RX1_34 2 g_2 rfl dX1_ticksToAccess_2 ?_
  refine v_iload_n C 1 rfl dX1_ticksToAccess_5 ?_
  refine v_cS1 (rest := [.int (σ 2 5), .ref (E.1 2)]) C ms_RX1_72 (m_X2_cylinderOfPlace l G E σ μ Y pl) rfl rfl (Nat.le_of_ble_eq_true rfl) ⟨Nat.le_of_ble_eq_true rfl, Nat.le_of_ble_eq_true rfl⟩ ⟨rfl, rfl⟩ ⟨Nat.zero_le _, Nat.zero_le _⟩ dX1_ticksToAccess_6 ?_
  refine v_cV1 (rest := []) C mv_RX1_75 (m_X1_ticksOfSeek l G E σ μ Y (σ 2 5) (F_X2_cylinderOfPlace pl)) 2 g_2 rfl rfl rfl rfl (Nat.le_of_ble_eq_true rfl) ⟨Nat.le_of_ble_eq_true rfl, Nat.le_of_ble_eq_true rfl⟩ ⟨rfl, rfl⟩ ⟨Nat.zero_le _, Nat.zero_le _⟩ dX1_ticksToAccess_9 ?_
  refine v_istore_n (lv' := [(2, .int (F_X1_ticksOfSeek σ (σ 2 5) (F_X2_cylinderOfPlace pl))), (0, .ref (E.1 2)), (1, .int pl)]) C (Nat.le_of_ble_eq_true rfl) rfl dX1_ticksToAccess_12 ?_
  refine v_iload_n C 0 rfl dX1_ticksToAccess_13 ?_
  refine v_aload_n C 1 rfl dX1_ticksToAccess_14 ?_
  refine v_iload_n C 2 rfl dX1_ticksToAccess_15 ?_
  refine v_cV1 (rest := [.int (F_X1_ticksOfSeek σ (σ 2 5) (F_X2_cylinderOfPlace pl))]) C mv_RX1_79 (m_X1_angleOfPlace l G E σ μ Y pl) 2 g_2 rfl rfl rfl rfl (Nat.le_of_ble_eq_true rfl) ⟨Nat.le_of_ble_eq_true rfl, Nat.le_of_ble_eq_true rfl⟩ ⟨rfl, rfl⟩ ⟨Nat.zero_le _, Nat.zero_le _⟩ dX1_ticksToAccess_16 ?_
  refine v_aload_n C 1 rfl dX1_ticksToAccess_19 ?_
  refine v_get (v := .int (σ 2 4)) C fl_RX1_31 2 g_2 rfl dX1_ticksToAccess_20 ?_
  refine v_iload_n C 0 rfl dX1_ticksToAccess_23 ?_
  refine v_iadd C dX1_ticksToAccess_24 ?_
  refine v_cS1 (rest := [.int (F_X1_ticksOfSeek σ (σ 2 5) (F_X2_cylinderOfPlace pl))]) C ms_RX1_82 (m_X1_ticksOfWait l G E σ μ Y (F_X1_angleOfPlace σ pl) ((σ 2 4) + (F_X1_ticksOfSeek σ (σ 2 5) (F_X2_cylinderOfPlace pl)))) rfl rfl (Nat.le_of_ble_eq_true rfl) ⟨Nat.le_of_ble_eq_true rfl, Nat.le_of_ble_eq_true rfl⟩ ⟨rfl, rfl⟩ ⟨Nat.zero_le _, Nat.zero_le _⟩ dX1_ticksToAccess_25 ?_
  refine v_iadd C dX1_ticksToAccess_28 ?_
  refine v_iload_n C 2 rfl dX1_ticksToAccess_29 ?_
  refine v_cS1 (rest := [.int ((F_X1_ticksOfSeek σ (σ 2 5) (F_X2_cylinderOfPlace pl)) + (F_X1_ticksOfWait (F_X1_angleOfPlace σ pl) ((σ 2 4) + (F_X1_ticksOfSeek σ (σ 2 5) (F_X2_cylinderOfPlace pl)))))]) C ms_RX1_69 (m_X2_sectorTicksAt l G E σ μ Y pl) rfl rfl (Nat.le_of_ble_eq_true rfl) ⟨Nat.le_of_ble_eq_true rfl, Nat.le_of_ble_eq_true rfl⟩ ⟨rfl, rfl⟩ ⟨Nat.zero_le _, Nat.zero_le _⟩ dX1_ticksToAccess_30 ?_
  refine v_iadd C dX1_ticksToAccess_33 ?_
  have e1 : F_X1_ticksToAccess σ pl = ((F_X1_ticksOfSeek σ (σ 2 5) (F_X2_cylinderOfPlace pl)) + (F_X1_ticksOfWait (F_X1_angleOfPlace σ pl) ((σ 2 4) + (F_X1_ticksOfSeek σ (σ 2 5) (F_X2_cylinderOfPlace pl))))) + (F_X2_sectorTicksAt pl) := by rw [F_X1_ticksToAccess]
  exact v_Q hQ (v_iret C () trivial (by rw [e1]) rfl (Nat.zero_le _) (Nat.zero_le _) dX1_ticksToAccess_34)
def F_X1_access (σ : Sg) (pl : Int32) : Sg := (if (F_X9_isWithin pl (0 : Int32) (575 : Int32)) = 0 then (s2 (s2 (s2 (s2 (s2 (s2 σ 2 4 ((σ 2 4) + (((F_X1_ticksOfSeek σ (σ 2 5) (F_X2_cylinderOfPlace pl)) + (F_X1_ticksOfWait (F_X1_angleOfPlace σ pl) ((σ 2 4) + (F_X1_ticksOfSeek σ (σ 2 5) (F_X2_cylinderOfPlace pl))))) + (F_X2_sectorTicksAt pl)))) 2 5 (F_X2_cylinderOfPlace pl)) 2 6 ((σ 2 6) + (F_X1_ticksOfSeek σ (σ 2 5) (F_X2_cylinderOfPlace pl)))) 2 7 ((σ 2 7) + (F_X1_ticksOfWait (F_X1_angleOfPlace σ pl) ((σ 2 4) + (F_X1_ticksOfSeek σ (σ 2 5) (F_X2_cylinderOfPlace pl)))))) 2 8 ((σ 2 8) + (F_X2_sectorTicksAt pl))) 2 9 ((σ 2 9) + (1 : Int32))) else (s2 (s2 (s2 (s2 (s2 (s2 (s2 σ 2 4 ((σ 2 4) + (((F_X1_ticksOfSeek σ (σ 2 5) (F_X2_cylinderOfPlace pl)) + (F_X1_ticksOfWait (F_X1_angleOfPlace σ pl) ((σ 2 4) + (F_X1_ticksOfSeek σ (σ 2 5) (F_X2_cylinderOfPlace pl))))) + (F_X2_sectorTicksAt pl)))) 2 5 (F_X2_cylinderOfPlace pl)) 2 6 ((σ 2 6) + (F_X1_ticksOfSeek σ (σ 2 5) (F_X2_cylinderOfPlace pl)))) 2 7 ((σ 2 7) + (F_X1_ticksOfWait (F_X1_angleOfPlace σ pl) ((σ 2 4) + (F_X1_ticksOfSeek σ (σ 2 5) (F_X2_cylinderOfPlace pl)))))) 2 8 ((σ 2 8) + (F_X2_sectorTicksAt pl))) 2 9 ((σ 2 9) + (1 : Int32))) 4 (pl).toNatClampNeg ((σ 4 (pl).toNatClampNeg) + (1 : Int32))))
abbrev rm_X1_access : Room := { frames := 3, cells := 0, slots := 0, locals := 65 }
set_option maxRecDepth 100000 in
set_option maxHeartbeats 4000000 in
theorem m_X1_access (l : Launch) (G : GG) (E : EE) (σ μ : Sg) (Y : va_W) (pl : Int32) : KK l G yX1_access cX1_access 6 none rm_X1_access [.ref (E.1 2), .int pl] (Wd G E σ μ Y) none (Wd G E (F_X1_access σ pl) μ Y) := by
  refine KE.of (by decide) (Nat.le_of_ble_eq_true rfl) ?_
  intro zp ze zs zm za zb zt zc zA C _
  generalize hQ : MQ zb _ za zs _ _ zA = Q
  show V zp l ze rm_X1_access zs zm za zb zt zc 6 G zA 0 0 Q 0 [(0, .ref (E.1 2)), (1, .int pl)] [] (Wd G E σ μ Y)
  refine v_iload_n C 1 rfl dX1_access_0 ?_
  refine v_cS1 (rest := []) C ms_RX1_72 (m_X2_cylinderOfPlace l G E σ μ Y pl) rfl rfl (Nat.le_of_ble_eq_true rfl) ⟨Nat.le_of_ble_eq_true rfl, Nat.le_of_ble_eq_true rfl⟩ ⟨rfl, rfl⟩ ⟨Nat.zero_le _, Nat.zero_le _⟩ dX1_access_1 ?_
  refine v_istore_n (lv' := [(2, .int (F_X2_cylinderOfPlace pl)), (0, .ref (E.1 2)), (1, .int pl)]) C (Nat.le_of_ble_eq_true rfl) rfl dX1_access_4 ?_
  refine v_aload_n C 1 rfl dX1_access_5 ?_
  refine v_aload_n C 1 rfl dX1_access_6 ?_
  refine v_get (v := .int (σ 2 5)) C fl_RX1_34 2 g_2 rfl dX1_access_7 ?_
  refine v_iload_n C 0 rfl dX1_access_10 ?_
  refine v_cV1 (rest := []) C mv_RX1_75 (m_X1_ticksOfSeek l G E σ μ Y (σ 2 5) (F_X2_cylinderOfPlace pl)) 2 g_2 rfl rfl rfl rfl (Nat.le_of_ble_eq_true rfl) ⟨Nat.le_of_ble_eq_true rfl, Nat.le_of_ble_eq_true rfl⟩ ⟨rfl, rfl⟩ ⟨Nat.zero_le _, Nat.zero_le _⟩ dX1_access_11 ?_
  refine v_istore_n (lv' := [(3, .int (F_X1_ticksOfSeek σ (σ 2 5) (F_X2_cylinderOfPlace pl))), (2, .int (F_X2_cylinderOfPlace pl)), (0, .ref (E.1 2)), (1, .int pl)]) C (Nat.le_of_ble_eq_true rfl) rfl dX1_access_14 ?_
  refine v_aload_n C 2 rfl dX1_access_15 ?_
  refine v_iload_n C 3 rfl dX1_access_16 ?_
  refine v_cV1 (rest := []) C mv_RX1_79 (m_X1_angleOfPlace l G E σ μ Y pl) 2 g_2 rfl rfl rfl rfl (Nat.le_of_ble_eq_true rfl) ⟨Nat.le_of_ble_eq_true rfl, Nat.le_of_ble_eq_true rfl⟩ ⟨rfl, rfl⟩ ⟨Nat.zero_le _, Nat.zero_le _⟩ dX1_access_17 ?_
  refine v_aload_n C 2 rfl dX1_access_20 ?_
  refine v_get (v := .int (σ 2 4)) C fl_RX1_31 2 g_2 rfl dX1_access_21 ?_
  refine v_iload_n C 0 rfl dX1_access_24 ?_
  refine v_iadd C dX1_access_25 ?_
  refine v_cS1 (rest := []) C ms_RX1_82 (m_X1_ticksOfWait l G E σ μ Y (F_X1_angleOfPlace σ pl) ((σ 2 4) + (F_X1_ticksOfSeek σ (σ 2 5) (F_X2_cylinderOfPlace pl)))) rfl rfl (Nat.le_of_ble_eq_true rfl) ⟨Nat.le_of_ble_eq_true rfl, Nat.le_of_ble_eq_true rfl⟩ ⟨rfl, rfl⟩ ⟨Nat.zero_le _, Nat.zero_le _⟩ dX1_access_26 ?_
  refine v_istore (lv' := [(4, .int (F_X1_ticksOfWait (F_X1_angleOfPlace σ pl) ((σ 2 4) + (F_X1_ticksOfSeek σ (σ 2 5) (F_X2_cylinderOfPlace pl))))), (3, .int (F_X1_ticksOfSeek σ (σ 2 5) (F_X2_cylinderOfPlace pl))), (2, .int (F_X2_cylinderOfPlace pl)), (0, .ref (E.1 2)), (1, .int pl)]) C (Nat.le_of_ble_eq_true rfl) rfl dX1_access_29 ?_
  refine v_iload_n C 4 rfl dX1_access_31 ?_
  refine v_cS1 (rest := []) C ms_RX1_69 (m_X2_sectorTicksAt l G E σ μ Y pl) rfl rfl (Nat.le_of_ble_eq_true rfl) ⟨Nat.le_of_ble_eq_true rfl, Nat.le_of_ble_eq_true rfl⟩ ⟨rfl, rfl⟩ ⟨Nat.zero_le _, Nat.zero_le _⟩ dX1_access_32 ?_
  refine v_istore (lv' := [(5, .int (F_X2_sectorTicksAt pl)), (4, .int (F_X1_ticksOfWait (F_X1_angleOfPlace σ pl) ((σ 2 4) + (F_X1_ticksOfSeek σ (σ 2 5) (F_X2_cylinderOfPlace pl))))), (3, .int (F_X1_ticksOfSeek σ (σ 2 5) (F_X2_cylinderOfPlace pl))), (2, .int (F_X2_cylinderOfPlace pl)), (0, .ref (E.1 2)), (1, .int pl)]) C (Nat.le_of_ble_eq_true rfl) rfl dX1_access_35 ?_
  refine v_aload_n C 4 rfl dX1_access_37 ?_
  refine v_dup C rfl dX1_access_38 ?_
  refine v_get (v := .int (σ 2 4)) C fl_RX1_31 2 g_2 rfl dX1_access_39 ?_
  refine v_iload_n C 2 rfl dX1_access_42 ?_
  refine v_iload C 1 rfl dX1_access_43 ?_
  refine v_iadd C dX1_access_45 ?_
  refine v_iload C 0 rfl dX1_access_46 ?_
  refine v_iadd C dX1_access_48 ?_
  refine v_iadd C dX1_access_49 ?_
  refine v_put C fp_RX1_31 2 g_2 rfl rfl (Nat.le_of_ble_eq_true rfl) (p_2_4 _) dX1_access_50 ?_
  refine v_aload_n C 4 rfl dX1_access_53 ?_
  refine v_iload_n C 3 rfl dX1_access_54 ?_
  refine v_put C fp_RX1_34 2 g_2 rfl rfl (Nat.le_of_ble_eq_true rfl) (p_2_5 _) dX1_access_55 ?_
  refine v_aload_n C 4 rfl dX1_access_58 ?_
  refine v_dup C rfl dX1_access_59 ?_
  refine v_get (v := .int (σ 2 6)) C fl_RX1_37 2 g_2 rfl dX1_access_60 ?_
  refine v_iload_n C 2 rfl dX1_access_63 ?_
  refine v_iadd C dX1_access_64 ?_
  refine v_put C fp_RX1_37 2 g_2 rfl rfl (Nat.le_of_ble_eq_true rfl) (p_2_6 _) dX1_access_65 ?_
  refine v_aload_n C 4 rfl dX1_access_68 ?_
  refine v_dup C rfl dX1_access_69 ?_
  refine v_get (v := .int (σ 2 7)) C fl_RX1_40 2 g_2 rfl dX1_access_70 ?_
  refine v_iload C 1 rfl dX1_access_73 ?_
  refine v_iadd C dX1_access_75 ?_
  refine v_put C fp_RX1_40 2 g_2 rfl rfl (Nat.le_of_ble_eq_true rfl) (p_2_7 _) dX1_access_76 ?_
  refine v_aload_n C 4 rfl dX1_access_79 ?_
  refine v_dup C rfl dX1_access_80 ?_
  refine v_get (v := .int (σ 2 8)) C fl_RX1_43 2 g_2 rfl dX1_access_81 ?_
  refine v_iload C 0 rfl dX1_access_84 ?_
  refine v_iadd C dX1_access_86 ?_
  refine v_put C fp_RX1_43 2 g_2 rfl rfl (Nat.le_of_ble_eq_true rfl) (p_2_8 _) dX1_access_87 ?_
  refine v_aload_n C 4 rfl dX1_access_90 ?_
  refine v_dup C rfl dX1_access_91 ?_
  refine v_get (v := .int (σ 2 9)) C fl_RX1_46 2 g_2 rfl dX1_access_92 ?_
  refine v_iconst (v := (1 : Int32)) C (by decide) dX1_access_95 ?_
  refine v_iadd C dX1_access_96 ?_
  refine v_put C fp_RX1_46 2 g_2 rfl rfl (Nat.le_of_ble_eq_true rfl) (p_2_9 _) dX1_access_97 ?_
  refine v_iload_n C 5 rfl dX1_access_100 ?_
  refine v_iconst (v := (0 : Int32)) C (by decide) dX1_access_101 ?_
  refine v_sipush (v := (575 : Int32)) C (by decide) dX1_access_102 ?_
  refine v_cN1 (rest := []) C mn_RX1_56 w_378 (m_X9_isWithin l G E (s2 (s2 (s2 (s2 (s2 (s2 σ 2 4 ((σ 2 4) + (((F_X1_ticksOfSeek σ (σ 2 5) (F_X2_cylinderOfPlace pl)) + (F_X1_ticksOfWait (F_X1_angleOfPlace σ pl) ((σ 2 4) + (F_X1_ticksOfSeek σ (σ 2 5) (F_X2_cylinderOfPlace pl))))) + (F_X2_sectorTicksAt pl)))) 2 5 (F_X2_cylinderOfPlace pl)) 2 6 ((σ 2 6) + (F_X1_ticksOfSeek σ (σ 2 5) (F_X2_cylinderOfPlace pl)))) 2 7 ((σ 2 7) + (F_X1_ticksOfWait (F_X1_angleOfPlace σ pl) ((σ 2 4) + (F_X1_ticksOfSeek σ (σ 2 5) (F_X2_cylinderOfPlace pl)))))) 2 8 ((σ 2 8) + (F_X2_sectorTicksAt pl))) 2 9 ((σ 2 9) + (1 : Int32))) μ Y pl (0 : Int32) (575 : Int32)) rfl rfl (Nat.le_of_ble_eq_true rfl) ⟨Nat.le_of_ble_eq_true rfl, Nat.le_of_ble_eq_true rfl⟩ ⟨rfl, rfl⟩ ⟨Nat.zero_le _, Nat.zero_le _⟩ dX1_access_105 ?_
  refine v_if_eq (tgt := 121) C (by decide) dX1_access_108 (fun h1 => ?_) (fun h1 => ?_)
  · have e1 : F_X1_access σ pl = (s2 (s2 (s2 (s2 (s2 (s2 σ 2 4 ((σ 2 4) + (((F_X1_ticksOfSeek σ (σ 2 5) (F_X2_cylinderOfPlace pl)) + (F_X1_ticksOfWait (F_X1_angleOfPlace σ pl) ((σ 2 4) + (F_X1_ticksOfSeek σ (σ 2 5) (F_X2_cylinderOfPlace pl))))) + (F_X2_sectorTicksAt pl)))) 2 5 (F_X2_cylinderOfPlace pl)) 2 6 ((σ 2 6) + (F_X1_ticksOfSeek σ (σ 2 5) (F_X2_cylinderOfPlace pl)))) 2 7 ((σ 2 7) + (F_X1_ticksOfWait (F_X1_angleOfPlace σ pl) ((σ 2 4) + (F_X1_ticksOfSeek σ (σ 2 5) (F_X2_cylinderOfPlace pl)))))) 2 8 ((σ 2 8) + (F_X2_sectorTicksAt pl))) 2 9 ((σ 2 9) + (1 : Int32))) := by rw [F_X1_access, if_pos h1]
    exact v_Q hQ (v_vret C () trivial rfl (by rw [e1]) (Nat.zero_le _) (Nat.zero_le _) dX1_access_121)
  · refine v_aload_n C 4 rfl dX1_access_111 ?_
    refine v_get (v := .ref (E.1 4)) C fl_RX1_25 2 g_2 rfl dX1_access_112 ?_
    refine v_iload_n C 5 rfl dX1_access_115 ?_
    refine v_dup2 C rfl rfl dX1_access_116 ?_
    refine v_iald (v := σ 4 (pl).toNatClampNeg) C 4 g_4 (within_in (N := 575) (by decide) rfl h1) rfl dX1_access_117 ?_
    refine v_iconst (v := (1 : Int32)) C (by decide) dX1_access_118 ?_
    refine v_iadd C dX1_access_119 ?_
    refine v_iast (ws' := Wd G E (s2 (s2 (s2 (s2 (s2 (s2 (s2 σ 2 4 ((σ 2 4) + (((F_X1_ticksOfSeek σ (σ 2 5) (F_X2_cylinderOfPlace pl)) + (F_X1_ticksOfWait (F_X1_angleOfPlace σ pl) ((σ 2 4) + (F_X1_ticksOfSeek σ (σ 2 5) (F_X2_cylinderOfPlace pl))))) + (F_X2_sectorTicksAt pl)))) 2 5 (F_X2_cylinderOfPlace pl)) 2 6 ((σ 2 6) + (F_X1_ticksOfSeek σ (σ 2 5) (F_X2_cylinderOfPlace pl)))) 2 7 ((σ 2 7) + (F_X1_ticksOfWait (F_X1_angleOfPlace σ pl) ((σ 2 4) + (F_X1_ticksOfSeek σ (σ 2 5) (F_X2_cylinderOfPlace pl)))))) 2 8 ((σ 2 8) + (F_X2_sectorTicksAt pl))) 2 9 ((σ 2 9) + (1 : Int32))) 4 (pl).toNatClampNeg ((σ 4 (pl).toNatClampNeg) + (1 : Int32))) μ Y) C 4 g_4 (within_in (N := 575) (by decide) rfl h1) (p_4 _ _) dX1_access_120 ?_
    have e1 : F_X1_access σ pl = (s2 (s2 (s2 (s2 (s2 (s2 (s2 σ 2 4 ((σ 2 4) + (((F_X1_ticksOfSeek σ (σ 2 5) (F_X2_cylinderOfPlace pl)) + (F_X1_ticksOfWait (F_X1_angleOfPlace σ pl) ((σ 2 4) + (F_X1_ticksOfSeek σ (σ 2 5) (F_X2_cylinderOfPlace pl))))) + (F_X2_sectorTicksAt pl)))) 2 5 (F_X2_cylinderOfPlace pl)) 2 6 ((σ 2 6) + (F_X1_ticksOfSeek σ (σ 2 5) (F_X2_cylinderOfPlace pl)))) 2 7 ((σ 2 7) + (F_X1_ticksOfWait (F_X1_angleOfPlace σ pl) ((σ 2 4) + (F_X1_ticksOfSeek σ (σ 2 5) (F_X2_cylinderOfPlace pl)))))) 2 8 ((σ 2 8) + (F_X2_sectorTicksAt pl))) 2 9 ((σ 2 9) + (1 : Int32))) 4 (pl).toNatClampNeg ((σ 4 (pl).toNatClampNeg) + (1 : Int32))) := by rw [F_X1_access, if_neg h1]
    exact v_Q hQ (v_vret C () trivial rfl (by rw [e1]) (Nat.zero_le _) (Nat.zero_le _) dX1_access_121)
