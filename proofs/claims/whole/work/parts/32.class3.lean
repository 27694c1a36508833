theorem nn_in {x y : Int32} {N : Nat} (hy : y = nI N) (hN : N < 2 ^ 31) (h1 : ¬ x < 0) (h3 : ¬ y ≤ x) : vp_in x N := by
  obtain ⟨j, hj, ej, -⟩ := nI_nn h1
  exact vi_x ej (gt_of_nle hy ej hN hj h3) hN
theorem up_step {x y : Int32} {B n : Nat} (hy : y = nI B) (hB : B < 2 ^ 31) (hI : ∃ j : Nat, x = nI j ∧ j ≤ B ∧ j + (n + 1) = B + 1) (h : ¬ y ≤ x) : ∃ j : Nat, x + 1 = nI j ∧ j ≤ B ∧ j + n = B + 1 := by
  obtain ⟨j, ej, h8, hn⟩ := hI
  have := gt_of_nle hy ej hB (by omega) h
  exact ⟨j + 1, by rw [ej]; exact nI_1 j, by omega, by omega⟩
theorem up_in {x y : Int32} {B n : Nat} (hy : y = nI B) (hB : B < 2 ^ 31) (hI : ∃ j : Nat, x = nI j ∧ j ≤ B ∧ j + (n + 1) = B + 1) (h : ¬ y ≤ x) : vp_in x B := by
  obtain ⟨j, ej, h8, hn⟩ := hI
  exact vi_x ej (gt_of_nle hy ej hB (by omega) h) hB
def L_X0_holds_2 (σ : Sg) (bk : Int32) : Nat → Int32 → Int32
  | 0, _ => 0
  | n + 1, x => (if (σ 8 1) ≤ x then (0 : Int32) else (if (8 : Int32) ≤ x then (0 : Int32) else (if (σ 9 (x).toNatClampNeg) = bk then (1 : Int32) else L_X0_holds_2 σ bk n (x + (1 : Int32)))))
def F_X0_holds (σ : Sg) (bk : Int32) : Int32 := L_X0_holds_2 σ bk 9 (0 : Int32)
abbrev rm_X0_holds : Room := { frames := 0, cells := 0, slots := 0, locals := 0 }
set_option maxRecDepth 100000 in
set_option maxHeartbeats 4000000 in
theorem m_X0_holds (l : Launch) (G : GG) (E : EE) (σ μ : Sg) (Y : va_W) (bk : Int32) : KK l G yX0_holds cX0_holds 3 (some .boolean) rm_X0_holds [.ref (E.1 8), .int bk] (Wd G E σ μ Y) (some (.int (F_X0_holds σ bk))) (Wd G E σ μ Y) := by
  refine KE.of (by decide) (Nat.le_of_ble_eq_true rfl) ?_
  intro zp ze zs zm za zb zt zc zA C _
  generalize hQ : MQ zb _ za zs _ _ zA = Q
  have loop_2 : ∀ (n : Nat) (x : Int32), (∃ j : Nat, x = nI j ∧ j ≤ 8 ∧ j + n = 9) → F_X0_holds σ bk = L_X0_holds_2 σ bk n x → V zp l ze rm_X0_holds zs zm za zb zt zc 3 G zA 0 0 Q 2 [(0, .ref (E.1 8)), (1, .int bk), (2, .int x)] [] (Wd G E σ μ Y) := by
    intro n
    induction n with
    | zero =>
      intro x hI hL
      exact False.elim (by obtain ⟨j, _, h8, h⟩ := hI; omega)
    | succ n ih =>
      intro x hI hL
      refine v_iload_n C 2 rfl dX0_holds_2 ?_
      refine v_aload_n C 0 rfl dX0_holds_3 ?_
      refine v_get (v := .int (σ 8 1)) C fl_RX0_19 8 g_8 rfl dX0_holds_4 ?_
      refine v_icmp_ge (tgt := 34) C (by decide) dX0_holds_7 (fun h1 => ?_) (fun h1 => ?_)
      · refine v_iconst (v := (0 : Int32)) C (by decide) dX0_holds_34 ?_
        have e1 : F_X0_holds σ bk = (0 : Int32) := by rw [hL, L_X0_holds_2, if_pos h1]
        exact v_Q hQ (v_zret C rfl () trivial (by rw [e1]) rfl (Nat.zero_le _) (Nat.zero_le _) dX0_holds_35)
      · refine v_iload_n C 2 rfl dX0_holds_10 ?_
        refine v_bipush (v := (8 : Int32)) C (by decide) dX0_holds_11 ?_
        refine v_icmp_ge (tgt := 34) C (by decide) dX0_holds_13 (fun h2 => ?_) (fun h2 => ?_)
        · refine v_iconst (v := (0 : Int32)) C (by decide) dX0_holds_34 ?_
          have e1 : F_X0_holds σ bk = (0 : Int32) := by rw [hL, L_X0_holds_2, if_neg h1, if_pos h2]
          exact v_Q hQ (v_zret C rfl () trivial (by rw [e1]) rfl (Nat.zero_le _) (Nat.zero_le _) dX0_holds_35)
        · refine v_aload_n C 0 rfl dX0_holds_16 ?_
          refine v_get (v := .ref (E.1 9)) C fl_RX0_9 8 g_8 rfl dX0_holds_17 ?_
          refine v_iload_n C 2 rfl dX0_holds_20 ?_
          refine v_iald (v := σ 9 (x).toNatClampNeg) C 9 g_9 (up_in (B := 8) rfl (by decide) hI h2) rfl dX0_holds_21 ?_
          refine v_iload_n C 1 rfl dX0_holds_22 ?_
          refine v_icmp_ne (tgt := 28) C (by decide) dX0_holds_23 (fun h3 => ?_) (fun h3 => ?_)
          · refine v_iinc (v := x + (1 : Int32)) (lv' := [(2, .int (x + (1 : Int32))), (0, .ref (E.1 8)), (1, .int bk)]) C 2 rfl rfl (Nat.le_of_ble_eq_true rfl) rfl dX0_holds_28 ?_
            refine v_goto (tgt := 2) C (by decide) dX0_holds_31 ?_
            refine v_lv [1, 2, 0] rfl ?_
            exact ih (x + (1 : Int32)) (up_step (B := 8) rfl (by decide) hI h2) (by rw [hL, L_X0_holds_2, if_neg h1, if_neg h2, if_neg h3])
          · refine v_iconst (v := (1 : Int32)) C (by decide) dX0_holds_26 ?_
            have e1 : F_X0_holds σ bk = (1 : Int32) := by rw [hL, L_X0_holds_2, if_neg h1, if_neg h2, if_pos h3]
            exact v_Q hQ (v_zret C rfl () trivial (by rw [e1]) rfl (Nat.zero_le _) (Nat.zero_le _) dX0_holds_27)
  show V zp l ze rm_X0_holds zs zm za zb zt zc 3 G zA 0 0 Q 0 [(0, .ref (E.1 8)), (1, .int bk)] [] (Wd G E σ μ Y)
  refine v_iconst (v := (0 : Int32)) C (by decide) dX0_holds_0 ?_
  refine v_istore_n (lv' := [(2, .int (0 : Int32)), (0, .ref (E.1 8)), (1, .int bk)]) C (Nat.le_of_ble_eq_true rfl) rfl dX0_holds_1 ?_
  refine v_lv [1, 2, 0] rfl ?_
  exact loop_2 9 (0 : Int32) (⟨0, rfl, by omega, by omega⟩) (by rw [F_X0_holds])
theorem L_holds01 {σ : Sg} {bk : Int32} : ∀ (n : Nat) (x : Int32), L_X0_holds_2 σ bk n x = 0 ∨ L_X0_holds_2 σ bk n x = 1 := by
  intro n
  induction n with
  | zero => intro x; exact Or.inl rfl
  | succ n ih =>
    intro x
    rw [L_X0_holds_2]
    (repeat' split) <;> first | exact Or.inl rfl | exact Or.inr rfl | exact ih _
theorem z01_X0_holds (σ : Sg) (bk : Int32) : F_X0_holds σ bk = 0 ∨ F_X0_holds σ bk = 1 := by unfold F_X0_holds; exact L_holds01 _ _
def F_X0_makeDirty (σ : Sg) (bk : Int32) : Sg := (if (F_X0_holds σ bk) = 0 then (if (F_X9_isWithin (σ 8 1) (0 : Int32) (7 : Int32)) = 0 then σ else (s2 (s2 σ 9 (σ 8 1).toNatClampNeg bk) 8 1 ((σ 8 1) + (1 : Int32)))) else σ)
abbrev rm_X0_makeDirty : Room := { frames := 1, cells := 0, slots := 0, locals := 22 }
set_option maxRecDepth 100000 in
set_option maxHeartbeats 4000000 in
theorem m_X0_makeDirty (l : Launch) (G : GG) (E : EE) (σ μ : Sg) (Y : va_W) (bk : Int32) : KK l G yX0_makeDirty cX0_makeDirty 2 none rm_X0_makeDirty [.ref (E.1 8), .int bk] (Wd G E σ μ Y) none (Wd G E (F_X0_makeDirty σ bk) μ Y) := by
  refine KE.of (by decide) (Nat.le_of_ble_eq_true rfl) ?_
  intro zp ze zs zm za zb zt zc zA C _
  generalize hQ : MQ zb _ za zs _ _ zA = Q
  show V zp l ze rm_X0_makeDirty zs zm za zb zt zc 2 G zA 0 0 Q 0 [(0, .ref (E.1 8)), (1, .int bk)] [] (Wd G E σ μ Y)
  refine v_aload_n C 0 rfl dX0_makeDirty_0 ?_
  refine v_iload_n C 1 rfl dX0_makeDirty_1 ?_
  refine v_cV1 (rest := []) C mv_RX0_27 (m_X0_holds l G E σ μ Y bk) 8 g_8 rfl rfl rfl rfl (Nat.le_of_ble_eq_true rfl) ⟨Nat.le_of_ble_eq_true rfl, Nat.le_of_ble_eq_true rfl⟩ ⟨rfl, rfl⟩ ⟨Nat.zero_le _, Nat.zero_le _⟩ dX0_makeDirty_2 ?_
  refine v_if_ne (tgt := 41) C (by decide) dX0_makeDirty_5 (fun h1 => ?_) (fun h1 => ?_)
  · have e1 : F_X0_makeDirty σ bk = σ := by rw [F_X0_makeDirty, if_neg h1]
    exact v_Q hQ (v_vret C () trivial rfl (by rw [e1]) (Nat.zero_le _) (Nat.zero_le _) dX0_makeDirty_41)
  · refine v_aload_n C 0 rfl dX0_makeDirty_8 ?_
    refine v_get (v := .int (σ 8 1)) C fl_RX0_19 8 g_8 rfl dX0_makeDirty_9 ?_
    refine v_iconst (v := (0 : Int32)) C (by decide) dX0_makeDirty_12 ?_
    refine v_bipush (v := (7 : Int32)) C (by decide) dX0_makeDirty_13 ?_
    refine v_cN1 (rest := []) C mn_RX0_31 w_378 (m_X9_isWithin l G E σ μ Y (σ 8 1) (0 : Int32) (7 : Int32)) rfl rfl (Nat.le_of_ble_eq_true rfl) ⟨Nat.le_of_ble_eq_true rfl, Nat.le_of_ble_eq_true rfl⟩ ⟨rfl, rfl⟩ ⟨Nat.zero_le _, Nat.zero_le _⟩ dX0_makeDirty_15 ?_
    refine v_if_eq (tgt := 41) C (by decide) dX0_makeDirty_18 (fun h2 => ?_) (fun h2 => ?_)
    · have e1 : F_X0_makeDirty σ bk = σ := by rw [F_X0_makeDirty, if_pos h1, if_pos h2]
      exact v_Q hQ (v_vret C () trivial rfl (by rw [e1]) (Nat.zero_le _) (Nat.zero_le _) dX0_makeDirty_41)
    · refine v_aload_n C 0 rfl dX0_makeDirty_21 ?_
      refine v_get (v := .ref (E.1 9)) C fl_RX0_9 8 g_8 rfl dX0_makeDirty_22 ?_
      refine v_aload_n C 0 rfl dX0_makeDirty_25 ?_
      refine v_get (v := .int (σ 8 1)) C fl_RX0_19 8 g_8 rfl dX0_makeDirty_26 ?_
      refine v_iload_n C 1 rfl dX0_makeDirty_29 ?_
      refine v_iast (ws' := Wd G E (s2 σ 9 (σ 8 1).toNatClampNeg bk) μ Y) C 9 g_9 (within_in (N := 7) (by decide) rfl h2) (p_9 _ _) dX0_makeDirty_30 ?_
      refine v_aload_n C 0 rfl dX0_makeDirty_31 ?_
      refine v_dup C rfl dX0_makeDirty_32 ?_
      refine v_get (v := .int (σ 8 1)) C fl_RX0_19 8 g_8 rfl dX0_makeDirty_33 ?_
      refine v_iconst (v := (1 : Int32)) C (by decide) dX0_makeDirty_36 ?_
      refine v_iadd C dX0_makeDirty_37 ?_
      refine v_put C fp_RX0_19 8 g_8 rfl rfl (Nat.le_of_ble_eq_true rfl) (p_8_1 _) dX0_makeDirty_38 ?_
      have e1 : F_X0_makeDirty σ bk = (s2 (s2 σ 9 (σ 8 1).toNatClampNeg bk) 8 1 ((σ 8 1) + (1 : Int32))) := by rw [F_X0_makeDirty, if_pos h1, if_neg h2]
      exact v_Q hQ (v_vret C () trivial rfl (by rw [e1]) (Nat.zero_le _) (Nat.zero_le _) dX0_makeDirty_41)
def F_X0_finishesAtOnce (σ : Sg) (ki : Int32) (bk : Int32) : Int32 := (if (σ 8 0) = 0 then (0 : Int32) else (if ki = (1 : Int32) then (1 : Int32) else (if (F_X0_holds σ bk) = 0 then (0 : Int32) else (1 : Int32))))
theorem z01_X0_finishesAtOnce (σ : Sg) (ki : Int32) (bk : Int32) : F_X0_finishesAtOnce σ ki bk = 0 ∨ F_X0_finishesAtOnce σ ki bk = 1 := by
  unfold F_X0_finishesAtOnce; (repeat' split) <;> first | exact Or.inl rfl | exact Or.inr rfl
abbrev rm_X0_finishesAtOnce : Room := { frames := 1, cells := 0, slots := 0, locals := 22 }
set_option maxRecDepth 100000 in
set_option maxHeartbeats 4000000 in
theorem m_X0_finishesAtOnce (l : Launch) (G : GG) (E : EE) (σ μ : Sg) (Y : va_W) (ki : Int32) (bk : Int32) : KK l G yX0_finishesAtOnce cX0_finishesAtOnce 3 (some .boolean) rm_X0_finishesAtOnce [.ref (E.1 8), .int ki, .int bk] (Wd G E σ μ Y) (some (.int (F_X0_finishesAtOnce σ ki bk))) (Wd G E σ μ Y) := by
  refine KE.of (by decide) (Nat.le_of_ble_eq_true rfl) ?_
  intro zp ze zs zm za zb zt zc zA C _
  generalize hQ : MQ zb _ za zs _ _ zA = Q
  show V zp l ze rm_X0_finishesAtOnce zs zm za zb zt zc 3 G zA 0 0 Q 0 [(0, .ref (E.1 8)), (1, .int ki), (2, .int bk)] [] (Wd G E σ μ Y)
  refine v_aload_n C 0 rfl dX0_finishesAtOnce_0 ?_
  refine v_get (v := .int (σ 8 0)) C fl_RX0_15 8 g_8 rfl dX0_finishesAtOnce_1 ?_
  refine v_if_eq (tgt := 24) C (by decide) dX0_finishesAtOnce_4 (fun h1 => ?_) (fun h1 => ?_)
  · refine v_iconst (v := (0 : Int32)) C (by decide) dX0_finishesAtOnce_24 ?_
    have e1 : F_X0_finishesAtOnce σ ki bk = (0 : Int32) := by rw [F_X0_finishesAtOnce, if_pos h1]
    exact v_Q hQ (v_zret C rfl () trivial (by rw [e1]) rfl (Nat.zero_le _) (Nat.zero_le _) dX0_finishesAtOnce_25)
  · refine v_iload_n C 1 rfl dX0_finishesAtOnce_7 ?_
    refine v_iconst (v := (1 : Int32)) C (by decide) dX0_finishesAtOnce_8 ?_
    refine v_icmp_eq (tgt := 20) C (by decide) dX0_finishesAtOnce_9 (fun h2 => ?_) (fun h2 => ?_)
    · refine v_iconst (v := (1 : Int32)) C (by decide) dX0_finishesAtOnce_20 ?_
      refine v_goto (tgt := 25) C (by decide) dX0_finishesAtOnce_21 ?_
      have e1 : F_X0_finishesAtOnce σ ki bk = (1 : Int32) := by rw [F_X0_finishesAtOnce, if_neg h1, if_pos h2]
      exact v_Q hQ (v_zret C rfl () trivial (by rw [e1]) rfl (Nat.zero_le _) (Nat.zero_le _) dX0_finishesAtOnce_25)
    · refine v_aload_n C 0 rfl dX0_finishesAtOnce_12 ?_
      refine v_iload_n C 2 rfl dX0_finishesAtOnce_13 ?_
      refine v_cV1 (rest := []) C mv_RX0_27 (m_X0_holds l G E σ μ Y bk) 8 g_8 rfl rfl rfl rfl (Nat.le_of_ble_eq_true rfl) ⟨Nat.le_of_ble_eq_true rfl, Nat.le_of_ble_eq_true rfl⟩ ⟨rfl, rfl⟩ ⟨Nat.zero_le _, Nat.zero_le _⟩ dX0_finishesAtOnce_14 ?_
      refine v_if_eq (tgt := 24) C (by decide) dX0_finishesAtOnce_17 (fun h3 => ?_) (fun h3 => ?_)
      · refine v_iconst (v := (0 : Int32)) C (by decide) dX0_finishesAtOnce_24 ?_
        have e1 : F_X0_finishesAtOnce σ ki bk = (0 : Int32) := by rw [F_X0_finishesAtOnce, if_neg h1, if_neg h2, if_pos h3]
        exact v_Q hQ (v_zret C rfl () trivial (by rw [e1]) rfl (Nat.zero_le _) (Nat.zero_le _) dX0_finishesAtOnce_25)
      · refine v_iconst (v := (1 : Int32)) C (by decide) dX0_finishesAtOnce_20 ?_
        refine v_goto (tgt := 25) C (by decide) dX0_finishesAtOnce_21 ?_
        have e1 : F_X0_finishesAtOnce σ ki bk = (1 : Int32) := by rw [F_X0_finishesAtOnce, if_neg h1, if_neg h2, if_neg h3]
        exact v_Q hQ (v_zret C rfl () trivial (by rw [e1]) rfl (Nat.zero_le _) (Nat.zero_le _) dX0_finishesAtOnce_25)
def L_X0_leastKeyAbove_7 (σ : Sg) (bd : Int32) (fc : Int32) : Nat → Int32 → Int32 → Int32
  | 0, _, _ => 0
  | n + 1, lk, x => (if (σ 8 1) ≤ x then lk else (if (8 : Int32) ≤ x then lk else (if (F_X2_cylinderOfPlace (F_X1_placeOfBlock σ (σ 9 (x).toNatClampNeg))) < fc then (if ((F_X1_placeOfBlock σ (σ 9 (x).toNatClampNeg)) + (576 : Int32)) ≤ bd then L_X0_leastKeyAbove_7 σ bd fc n lk (x + (1 : Int32)) else (if lk ≤ ((F_X1_placeOfBlock σ (σ 9 (x).toNatClampNeg)) + (576 : Int32)) then L_X0_leastKeyAbove_7 σ bd fc n lk (x + (1 : Int32)) else L_X0_leastKeyAbove_7 σ bd fc n ((F_X1_placeOfBlock σ (σ 9 (x).toNatClampNeg)) + (576 : Int32)) (x + (1 : Int32)))) else (if (F_X1_placeOfBlock σ (σ 9 (x).toNatClampNeg)) ≤ bd then L_X0_leastKeyAbove_7 σ bd fc n lk (x + (1 : Int32)) else (if lk ≤ (F_X1_placeOfBlock σ (σ 9 (x).toNatClampNeg)) then L_X0_leastKeyAbove_7 σ bd fc n lk (x + (1 : Int32)) else L_X0_leastKeyAbove_7 σ bd fc n (F_X1_placeOfBlock σ (σ 9 (x).toNatClampNeg)) (x + (1 : Int32)))))))
def F_X0_leastKeyAbove (σ : Sg) (bd : Int32) (fc : Int32) : Int32 := L_X0_leastKeyAbove_7 σ bd fc 9 (1000000000 : Int32) (0 : Int32)
abbrev rm_X0_leastKeyAbove : Room := { frames := 2, cells := 0, slots := 0, locals := 44 }
set_option maxRecDepth 100000 in
set_option maxHeartbeats 4000000 in
theorem m_X0_leastKeyAbove (l : Launch) (G : GG) (E : EE) (σ μ : Sg) (Y : va_W) (bd : Int32) (fc : Int32) : KK l G yX0_leastKeyAbove cX0_leastKeyAbove 8 (some .int) rm_X0_leastKeyAbove [.ref (E.1 8), .int bd, .int fc, .ref (E.1 2)] (Wd G E σ μ Y) (some (.int (F_X0_leastKeyAbove σ bd fc))) (Wd G E σ μ Y) := by
  refine KE.of (by decide) (Nat.le_of_ble_eq_true rfl) ?_
  intro zp ze zs zm za zb zt zc zA C _
  generalize hQ : MQ zb _ za zs _ _ zA = Q
  have loop_7 : ∀ (n : Nat) (lk : Int32) (x : Int32), (∃ j : Nat, x = nI j ∧ j ≤ 8 ∧ j + n = 9) → F_X0_leastKeyAbove σ bd fc = L_X0_leastKeyAbove_7 σ bd fc n lk x → V zp l ze rm_X0_leastKeyAbove zs zm za zb zt zc 8 G zA 0 0 Q 7 [(0, .ref (E.1 8)), (1, .int bd), (2, .int fc), (3, .ref (E.1 2)), (4, .int lk), (5, .int x)] [] (Wd G E σ μ Y) := by
    intro n
    induction n with
    | zero =>
      intro lk x hI hL
      exact False.elim (by obtain ⟨j, _, h8, h⟩ := hI; omega)
    | succ n ih =>
      intro lk x hI hL
      refine v_iload C 5 rfl dX0_leastKeyAbove_7 ?_
      refine v_aload_n C 0 rfl dX0_leastKeyAbove_9 ?_
      refine v_get (v := .int (σ 8 1)) C fl_RX0_19 8 g_8 rfl dX0_leastKeyAbove_10 ?_
      refine v_icmp_ge (tgt := 81) C (by decide) dX0_leastKeyAbove_13 (fun h1 => ?_) (fun h1 => ?_)
      · refine v_iload C 4 rfl dX0_leastKeyAbove_81 ?_
        have e1 : F_X0_leastKeyAbove σ bd fc = lk := by rw [hL, L_X0_leastKeyAbove_7, if_pos h1]
        exact v_Q hQ (v_iret C () trivial (by rw [e1]) rfl (Nat.zero_le _) (Nat.zero_le _) dX0_leastKeyAbove_83)
      · refine v_iload C 5 rfl dX0_leastKeyAbove_16 ?_
        refine v_bipush (v := (8 : Int32)) C (by decide) dX0_leastKeyAbove_18 ?_
        refine v_icmp_ge (tgt := 81) C (by decide) dX0_leastKeyAbove_20 (fun h2 => ?_) (fun h2 => ?_)
        · refine v_iload C 4 rfl dX0_leastKeyAbove_81 ?_
          have e1 : F_X0_leastKeyAbove σ bd fc = lk := by rw [hL, L_X0_leastKeyAbove_7, if_neg h1, if_pos h2]
          exact v_Q hQ (v_iret C () trivial (by rw [e1]) rfl (Nat.zero_le _) (Nat.zero_le _) dX0_leastKeyAbove_83)
        · refine v_aload_n C 3 rfl dX0_leastKeyAbove_23 ?_
          refine v_aload_n C 0 rfl dX0_leastKeyAbove_24 ?_
          refine v_get (v := .ref (E.1 9)) C fl_RX0_9 8 g_8 rfl dX0_leastKeyAbove_25 ?_
          refine v_iload C 5 rfl dX0_leastKeyAbove_28 ?_
          refine v_iald (v := σ 9 (x).toNatClampNeg) C 9 g_9 (up_in (B := 8) rfl (by decide) hI h2) rfl dX0_leastKeyAbove_30 ?_
          refine v_cV1 (rest := []) C mv_RX0_49 (m_X1_placeOfBlock l G E σ μ Y (σ 9 (x).toNatClampNeg)) 2 g_2 rfl rfl rfl rfl (Nat.le_of_ble_eq_true rfl) ⟨Nat.le_of_ble_eq_true rfl, Nat.le_of_ble_eq_true rfl⟩ ⟨rfl, rfl⟩ ⟨Nat.zero_le _, Nat.zero_le _⟩ dX0_leastKeyAbove_31 ?_
          refine v_istore (lv' := [(6, .int (F_X1_placeOfBlock σ (σ 9 (x).toNatClampNeg))), (0, .ref (E.1 8)), (1, .int bd), (2, .int fc), (3, .ref (E.1 2)), (4, .int lk), (5, .int x)]) C (Nat.le_of_ble_eq_true rfl) rfl dX0_leastKeyAbove_34 ?_
          refine v_iload C 0 rfl dX0_leastKeyAbove_36 ?_
          refine v_cS1 (rest := []) C ms_RX0_53 (m_X2_cylinderOfPlace l G E σ μ Y (F_X1_placeOfBlock σ (σ 9 (x).toNatClampNeg))) rfl rfl (Nat.le_of_ble_eq_true rfl) ⟨Nat.le_of_ble_eq_true rfl, Nat.le_of_ble_eq_true rfl⟩ ⟨rfl, rfl⟩ ⟨Nat.zero_le _, Nat.zero_le _⟩ dX0_leastKeyAbove_38 ?_
          refine v_iload_n C 3 rfl dX0_leastKeyAbove_41 ?_
          refine v_icmp_lt (tgt := 50) C (by decide) dX0_leastKeyAbove_42 (fun h3 => ?_) (fun h3 => ?_)
          · refine v_iload C 0 rfl dX0_leastKeyAbove_50 ?_
            refine v_sipush (v := (576 : Int32)) C (by decide) dX0_leastKeyAbove_52 ?_
            refine v_iadd C dX0_leastKeyAbove_55 ?_
            refine v_istore (lv' := [(7, .int ((F_X1_placeOfBlock σ (σ 9 (x).toNatClampNeg)) + (576 : Int32))), (6, .int (F_X1_placeOfBlock σ (σ 9 (x).toNatClampNeg))), (0, .ref (E.1 8)), (1, .int bd), (2, .int fc), (3, .ref (E.1 2)), (4, .int lk), (5, .int x)]) C (Nat.le_of_ble_eq_true rfl) rfl dX0_leastKeyAbove_56 ?_
            refine v_iload C 0 rfl dX0_leastKeyAbove_58 ?_
            refine v_iload_n C 3 rfl dX0_leastKeyAbove_60 ?_
            refine v_icmp_le (tgt := 75) C (by decide) dX0_leastKeyAbove_61 (fun h4 => ?_) (fun h4 => ?_)
            · refine v_iinc (v := x + (1 : Int32)) (lv' := [(5, .int (x + (1 : Int32))), (7, .int ((F_X1_placeOfBlock σ (σ 9 (x).toNatClampNeg)) + (576 : Int32))), (6, .int (F_X1_placeOfBlock σ (σ 9 (x).toNatClampNeg))), (0, .ref (E.1 8)), (1, .int bd), (2, .int fc), (3, .ref (E.1 2)), (4, .int lk)]) C 7 rfl rfl (Nat.le_of_ble_eq_true rfl) rfl dX0_leastKeyAbove_75 ?_
              refine v_goto (tgt := 7) C (by decide) dX0_leastKeyAbove_78 ?_
              refine v_lv [3, 4, 5, 6, 7, 0] rfl ?_
              exact ih lk (x + (1 : Int32)) (up_step (B := 8) rfl (by decide) hI h2) (by rw [hL, L_X0_leastKeyAbove_7, if_neg h1, if_neg h2, if_pos h3, if_pos h4])
            · refine v_iload C 0 rfl dX0_leastKeyAbove_64 ?_
              refine v_iload C 6 rfl dX0_leastKeyAbove_66 ?_
              refine v_icmp_ge (tgt := 75) C (by decide) dX0_leastKeyAbove_68 (fun h5 => ?_) (fun h5 => ?_)
              · refine v_iinc (v := x + (1 : Int32)) (lv' := [(5, .int (x + (1 : Int32))), (7, .int ((F_X1_placeOfBlock σ (σ 9 (x).toNatClampNeg)) + (576 : Int32))), (6, .int (F_X1_placeOfBlock σ (σ 9 (x).toNatClampNeg))), (0, .ref (E.1 8)), (1, .int bd), (2, .int fc), (3, .ref (E.1 2)), (4, .int lk)]) C 7 rfl rfl (Nat.le_of_ble_eq_true rfl) rfl dX0_leastKeyAbove_75 ?_
                refine v_goto (tgt := 7) C (by decide) dX0_leastKeyAbove_78 ?_
                refine v_lv [3, 4, 5, 6, 7, 0] rfl ?_
                exact ih lk (x + (1 : Int32)) (up_step (B := 8) rfl (by decide) hI h2) (by rw [hL, L_X0_leastKeyAbove_7, if_neg h1, if_neg h2, if_pos h3, if_neg h4, if_pos h5])
              · refine v_iload C 0 rfl dX0_leastKeyAbove_71 ?_
                refine v_istore (lv' := [(4, .int ((F_X1_placeOfBlock σ (σ 9 (x).toNatClampNeg)) + (576 : Int32))), (7, .int ((F_X1_placeOfBlock σ (σ 9 (x).toNatClampNeg)) + (576 : Int32))), (6, .int (F_X1_placeOfBlock σ (σ 9 (x).toNatClampNeg))), (0, .ref (E.1 8)), (1, .int bd), (2, .int fc), (3, .ref (E.1 2)), (5, .int x)]) C (Nat.le_of_ble_eq_true rfl) rfl dX0_leastKeyAbove_73 ?_
                refine v_iinc (v := x + (1 : Int32)) (lv' := [(5, .int (x + (1 : Int32))), (4, .int ((F_X1_placeOfBlock σ (σ 9 (x).toNatClampNeg)) + (576 : Int32))), (7, .int ((F_X1_placeOfBlock σ (σ 9 (x).toNatClampNeg)) + (576 : Int32))), (6, .int (F_X1_placeOfBlock σ (σ 9 (x).toNatClampNeg))), (0, .ref (E.1 8)), (1, .int bd), (2, .int fc), (3, .ref (E.1 2))]) C 7 rfl rfl (Nat.le_of_ble_eq_true rfl) rfl dX0_leastKeyAbove_75 ?_
                refine v_goto (tgt := 7) C (by decide) dX0_leastKeyAbove_78 ?_
                refine v_lv [4, 5, 6, 7, 1, 0] rfl ?_
                exact ih ((F_X1_placeOfBlock σ (σ 9 (x).toNatClampNeg)) + (576 : Int32)) (x + (1 : Int32)) (up_step (B := 8) rfl (by decide) hI h2) (by rw [hL, L_X0_leastKeyAbove_7, if_neg h1, if_neg h2, if_pos h3, if_neg h4, if_neg h5])
          · refine v_iload C 0 rfl dX0_leastKeyAbove_45 ?_
            refine v_goto (tgt := 56) C (by decide) dX0_leastKeyAbove_47 ?_
            refine v_istore (lv' := [(7, .int (F_X1_placeOfBlock σ (σ 9 (x).toNatClampNeg))), (6, .int (F_X1_placeOfBlock σ (σ 9 (x).toNatClampNeg))), (0, .ref (E.1 8)), (1, .int bd), (2, .int fc), (3, .ref (E.1 2)), (4, .int lk), (5, .int x)]) C (Nat.le_of_ble_eq_true rfl) rfl dX0_leastKeyAbove_56 ?_
            refine v_iload C 0 rfl dX0_leastKeyAbove_58 ?_
            refine v_iload_n C 3 rfl dX0_leastKeyAbove_60 ?_
            refine v_icmp_le (tgt := 75) C (by decide) dX0_leastKeyAbove_61 (fun h6 => ?_) (fun h6 => ?_)
            · refine v_iinc (v := x + (1 : Int32)) (lv' := [(5, .int (x + (1 : Int32))), (7, .int (F_X1_placeOfBlock σ (σ 9 (x).toNatClampNeg))), (6, .int (F_X1_placeOfBlock σ (σ 9 (x).toNatClampNeg))), (0, .ref (E.1 8)), (1, .int bd), (2, .int fc), (3, .ref (E.1 2)), (4, .int lk)]) C 7 rfl rfl (Nat.le_of_ble_eq_true rfl) rfl dX0_leastKeyAbove_75 ?_
              refine v_goto (tgt := 7) C (by decide) dX0_leastKeyAbove_78 ?_
              refine v_lv [3, 4, 5, 6, 7, 0] rfl ?_
              exact ih lk (x + (1 : Int32)) (up_step (B := 8) rfl (by decide) hI h2) (by rw [hL, L_X0_leastKeyAbove_7, if_neg h1, if_neg h2, if_neg h3, if_pos h6])
            · refine v_iload C 0 rfl dX0_leastKeyAbove_64 ?_
              refine v_iload C 6 rfl dX0_leastKeyAbove_66 ?_
              refine v_icmp_ge (tgt := 75) C (by decide) dX0_leastKeyAbove_68 (fun h7 => ?_) (fun h7 => ?_)
              · refine v_iinc (v := x + (1 : Int32)) (lv' := [(5, .int (x + (1 : Int32))), (7, .int (F_X1_placeOfBlock σ (σ 9 (x).toNatClampNeg))), (6, .int (F_X1_placeOfBlock σ (σ 9 (x).toNatClampNeg))), (0, .ref (E.1 8)), (1, .int bd), (2, .int fc), (3, .ref (E.1 2)), (4, .int lk)]) C 7 rfl rfl (Nat.le_of_ble_eq_true rfl) rfl dX0_leastKeyAbove_75 ?_
                refine v_goto (tgt := 7) C (by decide) dX0_leastKeyAbove_78 ?_
                refine v_lv [3, 4, 5, 6, 7, 0] rfl ?_
                exact ih lk (x + (1 : Int32)) (up_step (B := 8) rfl (by decide) hI h2) (by rw [hL, L_X0_leastKeyAbove_7, if_neg h1, if_neg h2, if_neg h3, if_neg h6, if_pos h7])
              · refine v_iload C 0 rfl dX0_leastKeyAbove_71 ?_
                refine v_istore (lv' := [(4, .int (F_X1_placeOfBlock σ (σ 9 (x).toNatClampNeg))), (7, .int (F_X1_placeOfBlock σ (σ 9 (x).toNatClampNeg))), (6, .int (F_X1_placeOfBlock σ (σ 9 (x).toNatClampNeg))), (0, .ref (E.1 8)), (1, .int bd), (2, .int fc), (3, .ref (E.1 2)), (5, .int x)]) C (Nat.le_of_ble_eq_true rfl) rfl dX0_leastKeyAbove_73 ?_
                refine v_iinc (v := x + (1 : Int32)) (lv' := [(5, .int (x + (1 : Int32))), (4, .int (F_X1_placeOfBlock σ (σ 9 (x).toNatClampNeg))), (7, .int (F_X1_placeOfBlock σ (σ 9 (x).toNatClampNeg))), (6, .int (F_X1_placeOfBlock σ (σ 9 (x).toNatClampNeg))), (0, .ref (E.1 8)), (1, .int bd), (2, .int fc), (3, .ref (E.1 2))]) C 7 rfl rfl (Nat.le_of_ble_eq_true rfl) rfl dX0_leastKeyAbove_75 ?_
                refine v_goto (tgt := 7) C (by decide) dX0_leastKeyAbove_78 ?_
                refine v_lv [4, 5, 6, 7, 1, 0] rfl ?_
                exact ih (F_X1_placeOfBlock σ (σ 9 (x).toNatClampNeg)) (x + (1 : Int32)) (up_step (B := 8) rfl (by decide) hI h2) (by rw [hL, L_X0_leastKeyAbove_7, if_neg h1, if_neg h2, if_neg h3, if_neg h6, if_neg h7])
  show V zp l ze rm_X0_leastKeyAbove zs zm za zb zt zc 8 G zA 0 0 Q 0 [(0, .ref (E.1 8)), (1, .int bd), (2, .int fc), (3, .ref (E.1 2))] [] (Wd G E σ μ Y)
  refine v_ldc (v := (1000000000 : Int32)) C w_1008 dX0_leastKeyAbove_0 ?_
  refine v_istore (lv' := [(4, .int (1000000000 : Int32)), (0, .ref (E.1 8)), (1, .int bd), (2, .int fc), (3, .ref (E.1 2))]) C (Nat.le_of_ble_eq_true rfl) rfl dX0_leastKeyAbove_2 ?_
  refine v_iconst (v := (0 : Int32)) C (by decide) dX0_leastKeyAbove_4 ?_
  refine v_istore (lv' := [(5, .int (0 : Int32)), (4, .int (1000000000 : Int32)), (0, .ref (E.1 8)), (1, .int bd), (2, .int fc), (3, .ref (E.1 2))]) C (Nat.le_of_ble_eq_true rfl) rfl dX0_leastKeyAbove_5 ?_
  refine v_lv [2, 3, 4, 5, 1, 0] rfl ?_
  exact loop_7 9 (1000000000 : Int32) (0 : Int32) (⟨0, rfl, by omega, by omega⟩) (by rw [F_X0_leastKeyAbove])
def L_X0_writeAll_10 (σ : Sg) : Nat → Int32 → Int32 → Sg → Sg
  | 0, _, _, _ => σ
  | n + 1, ky, x, σ1 => (if (σ1 8 1) ≤ x then (s2 σ1 8 1 (0 : Int32)) else (if (8 : Int32) ≤ x then (s2 σ1 8 1 (0 : Int32)) else (if (F_X0_leastKeyAbove σ1 ky (σ 2 5)) < (576 : Int32) then L_X0_writeAll_10 σ n (F_X0_leastKeyAbove σ1 ky (σ 2 5)) (x + (1 : Int32)) (F_X1_access σ1 (F_X0_leastKeyAbove σ1 ky (σ 2 5))) else L_X0_writeAll_10 σ n (F_X0_leastKeyAbove σ1 ky (σ 2 5)) (x + (1 : Int32)) (F_X1_access σ1 ((F_X0_leastKeyAbove σ1 ky (σ 2 5)) - (576 : Int32))))))
def F_X0_writeAll (σ : Sg) : Sg := L_X0_writeAll_10 σ 9 (-1 : Int32) (0 : Int32) σ
abbrev rm_X0_writeAll : Room := { frames := 4, cells := 0, slots := 0, locals := 90 }
set_option maxRecDepth 100000 in
set_option maxHeartbeats 4000000 in
theorem m_X0_writeAll (l : Launch) (G : GG) (E : EE) (σ μ : Sg) (Y : va_W) : KK l G yX0_writeAll cX0_writeAll 5 none rm_X0_writeAll [.ref (E.1 8), .ref (E.1 2)] (Wd G E σ μ Y) none (Wd G E (F_X0_writeAll σ) μ Y) := by
  refine KE.of (by decide) (Nat.le_of_ble_eq_true rfl) ?_
  intro zp ze zs zm za zb zt zc zA C _
  generalize hQ : MQ zb _ za zs _ _ zA = Q
  have loop_10 : ∀ (n : Nat) (ky : Int32) (x : Int32) (σ1 : Sg), (∃ j : Nat, x = nI j ∧ j ≤ 8 ∧ j + n = 9) → F_X0_writeAll σ = L_X0_writeAll_10 σ n ky x σ1 → V zp l ze rm_X0_writeAll zs zm za zb zt zc 5 G zA 0 0 Q 10 [(0, .ref (E.1 8)), (1, .ref (E.1 2)), (2, .int (σ 2 5)), (3, .int ky), (4, .int x)] [] (Wd G E σ1 μ Y) := by
    intro n
    induction n with
    | zero =>
      intro ky x σ1 hI hL
      exact False.elim (by obtain ⟨j, _, h8, h⟩ := hI; omega)
    | succ n ih =>
      intro ky x σ1 hI hL
      refine v_iload C 4 rfl dX0_writeAll_10 ?_
      refine v_aload_n C 0 rfl dX0_writeAll_12 ?_
      refine v_get (v := .int (σ1 8 1)) C fl_RX0_19 8 g_8 rfl dX0_writeAll_13 ?_
      refine v_icmp_ge (tgt := 60) C (by decide) dX0_writeAll_16 (fun h1 => ?_) (fun h1 => ?_)
      · refine v_aload_n C 0 rfl dX0_writeAll_60 ?_
        refine v_iconst (v := (0 : Int32)) C (by decide) dX0_writeAll_61 ?_
        refine v_put C fp_RX0_19 8 g_8 rfl rfl (Nat.le_of_ble_eq_true rfl) (p_8_1 _) dX0_writeAll_62 ?_
        have e1 : F_X0_writeAll σ = (s2 σ1 8 1 (0 : Int32)) := by rw [hL, L_X0_writeAll_10, if_pos h1]
        exact v_Q hQ (v_vret C () trivial rfl (by rw [e1]) (Nat.zero_le _) (Nat.zero_le _) dX0_writeAll_65)
      · refine v_iload C 4 rfl dX0_writeAll_19 ?_
        refine v_bipush (v := (8 : Int32)) C (by decide) dX0_writeAll_21 ?_
        refine v_icmp_ge (tgt := 60) C (by decide) dX0_writeAll_23 (fun h2 => ?_) (fun h2 => ?_)
        · refine v_aload_n C 0 rfl dX0_writeAll_60 ?_
          refine v_iconst (v := (0 : Int32)) C (by decide) dX0_writeAll_61 ?_
          refine v_put C fp_RX0_19 8 g_8 rfl rfl (Nat.le_of_ble_eq_true rfl) (p_8_1 _) dX0_writeAll_62 ?_
          have e1 : F_X0_writeAll σ = (s2 σ1 8 1 (0 : Int32)) := by rw [hL, L_X0_writeAll_10, if_neg h1, if_pos h2]
          exact v_Q hQ (v_vret C () trivial rfl (by rw [e1]) (Nat.zero_le _) (Nat.zero_le _) dX0_writeAll_65)
        · refine v_aload_n C 0 rfl dX0_writeAll_26 ?_
          refine v_iload_n C 3 rfl dX0_writeAll_27 ?_
          refine v_iload_n C 2 rfl dX0_writeAll_28 ?_
          refine v_aload_n C 1 rfl dX0_writeAll_29 ?_
          refine v_cV1 (rest := []) C mv_RX0_40 (m_X0_leastKeyAbove l G E σ1 μ Y ky (σ 2 5)) 8 g_8 rfl rfl rfl rfl (Nat.le_of_ble_eq_true rfl) ⟨Nat.le_of_ble_eq_true rfl, Nat.le_of_ble_eq_true rfl⟩ ⟨rfl, rfl⟩ ⟨Nat.zero_le _, Nat.zero_le _⟩ dX0_writeAll_30 ?_
          refine v_istore_n (lv' := [(3, .int (F_X0_leastKeyAbove σ1 ky (σ 2 5))), (0, .ref (E.1 8)), (1, .ref (E.1 2)), (2, .int (σ 2 5)), (4, .int x)]) C (Nat.le_of_ble_eq_true rfl) rfl dX0_writeAll_33 ?_
          refine v_aload_n C 2 rfl dX0_writeAll_34 ?_
          refine v_iload_n C 0 rfl dX0_writeAll_35 ?_
          refine v_sipush (v := (576 : Int32)) C (by decide) dX0_writeAll_36 ?_
          refine v_icmp_lt (tgt := 50) C (by decide) dX0_writeAll_39 (fun h3 => ?_) (fun h3 => ?_)
          · refine v_iload_n C 0 rfl dX0_writeAll_50 ?_
            refine v_cV0 (rest := []) C mv_RX0_44 (m_X1_access l G E σ1 μ Y (F_X0_leastKeyAbove σ1 ky (σ 2 5))) 2 g_2 rfl rfl rfl rfl (Nat.le_of_ble_eq_true rfl) ⟨Nat.le_of_ble_eq_true rfl, Nat.le_of_ble_eq_true rfl⟩ ⟨rfl, rfl⟩ ⟨Nat.zero_le _, Nat.zero_le _⟩ dX0_writeAll_51 ?_
            refine v_iinc (v := x + (1 : Int32)) (lv' := [(4, .int (x + (1 : Int32))), (3, .int (F_X0_leastKeyAbove σ1 ky (σ 2 5))), (0, .ref (E.1 8)), (1, .ref (E.1 2)), (2, .int (σ 2 5))]) C 4 rfl rfl (Nat.le_of_ble_eq_true rfl) rfl dX0_writeAll_54 ?_
            refine v_goto (tgt := 10) C (by decide) dX0_writeAll_57 ?_
            refine v_lv [2, 3, 4, 1, 0] rfl ?_
            exact ih (F_X0_leastKeyAbove σ1 ky (σ 2 5)) (x + (1 : Int32)) (F_X1_access σ1 (F_X0_leastKeyAbove σ1 ky (σ 2 5))) (up_step (B := 8) rfl (by decide) hI h2) (by rw [hL, L_X0_writeAll_10, if_neg h1, if_neg h2, if_pos h3])
          · refine v_iload_n C 0 rfl dX0_writeAll_42 ?_
            refine v_sipush (v := (576 : Int32)) C (by decide) dX0_writeAll_43 ?_
            refine v_isub C dX0_writeAll_46 ?_
            refine v_goto (tgt := 51) C (by decide) dX0_writeAll_47 ?_
            refine v_cV0 (rest := []) C mv_RX0_44 (m_X1_access l G E σ1 μ Y ((F_X0_leastKeyAbove σ1 ky (σ 2 5)) - (576 : Int32))) 2 g_2 rfl rfl rfl rfl (Nat.le_of_ble_eq_true rfl) ⟨Nat.le_of_ble_eq_true rfl, Nat.le_of_ble_eq_true rfl⟩ ⟨rfl, rfl⟩ ⟨Nat.zero_le _, Nat.zero_le _⟩ dX0_writeAll_51 ?_
            refine v_iinc (v := x + (1 : Int32)) (lv' := [(4, .int (x + (1 : Int32))), (3, .int (F_X0_leastKeyAbove σ1 ky (σ 2 5))), (0, .ref (E.1 8)), (1, .ref (E.1 2)), (2, .int (σ 2 5))]) C 4 rfl rfl (Nat.le_of_ble_eq_true rfl) rfl dX0_writeAll_54 ?_
            refine v_goto (tgt := 10) C (by decide) dX0_writeAll_57 ?_
            refine v_lv [2, 3, 4, 1, 0] rfl ?_
            exact ih (F_X0_leastKeyAbove σ1 ky (σ 2 5)) (x + (1 : Int32)) (F_X1_access σ1 ((F_X0_leastKeyAbove σ1 ky (σ 2 5)) - (576 : Int32))) (up_step (B := 8) rfl (by decide) hI h2) (by rw [hL, L_X0_writeAll_10, if_neg h1, if_neg h2, if_neg h3])
  show V zp l ze rm_X0_writeAll zs zm za zb zt zc 5 G zA 0 0 Q 0 [(0, .ref (E.1 8)), (1, .ref (E.1 2))] [] (Wd G E σ μ Y)
  refine v_aload_n C 1 rfl dX0_writeAll_0 ?_
  refine v_get (v := .int (σ 2 5)) C fl_RX0_35 2 g_2 rfl dX0_writeAll_1 ?_
  refine v_istore_n (lv' := [(2, .int (σ 2 5)), (0, .ref (E.1 8)), (1, .ref (E.1 2))]) C (Nat.le_of_ble_eq_true rfl) rfl dX0_writeAll_4 ?_
  refine v_iconst (v := (-1 : Int32)) C (by decide) dX0_writeAll_5 ?_
  refine v_istore_n (lv' := [(3, .int (-1 : Int32)), (2, .int (σ 2 5)), (0, .ref (E.1 8)), (1, .ref (E.1 2))]) C (Nat.le_of_ble_eq_true rfl) rfl dX0_writeAll_6 ?_
  refine v_iconst (v := (0 : Int32)) C (by decide) dX0_writeAll_7 ?_
  refine v_istore (lv' := [(4, .int (0 : Int32)), (3, .int (-1 : Int32)), (2, .int (σ 2 5)), (0, .ref (E.1 8)), (1, .ref (E.1 2))]) C (Nat.le_of_ble_eq_true rfl) rfl dX0_writeAll_8 ?_
  refine v_lv [3, 4, 2, 1, 0] rfl ?_
  exact loop_10 9 (-1 : Int32) (0 : Int32) σ (⟨0, rfl, by omega, by omega⟩) (by rw [F_X0_writeAll])
def F_X8_hasRoomFor (σ : Sg) (ki : Int32) (bk : Int32) : Int32 := (if (80 : Int32) ≤ (σ 5 0) then (0 : Int32) else (if (σ 5 1) < (12 : Int32) then (if (σ 8 0) = 0 then (1 : Int32) else (if ki = (1 : Int32) then (if (F_X0_holds σ bk) = 0 then (if (8 : Int32) ≤ (σ 8 1) then (0 : Int32) else (1 : Int32)) else (1 : Int32)) else (1 : Int32))) else (0 : Int32)))
theorem z01_X8_hasRoomFor (σ : Sg) (ki : Int32) (bk : Int32) : F_X8_hasRoomFor σ ki bk = 0 ∨ F_X8_hasRoomFor σ ki bk = 1 := by
  unfold F_X8_hasRoomFor; (repeat' split) <;> first | exact Or.inl rfl | exact Or.inr rfl
abbrev rm_X8_hasRoomFor : Room := { frames := 1, cells := 0, slots := 0, locals := 22 }
set_option maxRecDepth 100000 in
set_option maxHeartbeats 4000000 in
theorem m_X8_hasRoomFor (l : Launch) (G : GG) (E : EE) (σ μ : Sg) (Y : va_W) (ki : Int32) (bk : Int32) : KK l G yX8_hasRoomFor cX8_hasRoomFor 4 (some .boolean) rm_X8_hasRoomFor [.ref (E.1 1), .int ki, .int bk] (Wd G E σ μ Y) (some (.int (F_X8_hasRoomFor σ ki bk))) (Wd G E σ μ Y) := by
  refine KE.of (by decide) (Nat.le_of_ble_eq_true rfl) ?_
  intro zp ze zs zm za zb zt zc zA C _
  generalize hQ : MQ zb _ za zs _ _ zA = Q
  show V zp l ze rm_X8_hasRoomFor zs zm za zb zt zc 4 G zA 0 0 Q 0 [(0, .ref (E.1 1)), (1, .int ki), (2, .int bk)] [] (Wd G E σ μ Y)
  refine v_aload_n C 0 rfl dX8_hasRoomFor_0 ?_
  refine v_get (v := .ref (E.1 5)) C fl_RX8_21 1 g_1 rfl dX8_hasRoomFor_1 ?_
  refine v_get (v := .int (σ 5 0)) C fl_RX8_52 5 g_5 rfl dX8_hasRoomFor_4 ?_
  refine v_bipush (v := (80 : Int32)) C (by decide) dX8_hasRoomFor_7 ?_
  refine v_icmp_ge (tgt := 24) C (by decide) dX8_hasRoomFor_9 (fun h1 => ?_) (fun h1 => ?_)
  · refine v_iconst (v := (0 : Int32)) C (by decide) dX8_hasRoomFor_24 ?_
    have e1 : F_X8_hasRoomFor σ ki bk = (0 : Int32) := by rw [F_X8_hasRoomFor, if_pos h1]
    exact v_Q hQ (v_zret C rfl () trivial (by rw [e1]) rfl (Nat.zero_le _) (Nat.zero_le _) dX8_hasRoomFor_25)
  · refine v_aload_n C 0 rfl dX8_hasRoomFor_12 ?_
    refine v_get (v := .ref (E.1 5)) C fl_RX8_21 1 g_1 rfl dX8_hasRoomFor_13 ?_
    refine v_get (v := .int (σ 5 1)) C fl_RX8_56 5 g_5 rfl dX8_hasRoomFor_16 ?_
    refine v_bipush (v := (12 : Int32)) C (by decide) dX8_hasRoomFor_19 ?_
    refine v_icmp_lt (tgt := 26) C (by decide) dX8_hasRoomFor_21 (fun h2 => ?_) (fun h2 => ?_)
    · refine v_aload_n C 0 rfl dX8_hasRoomFor_26 ?_
      refine v_get (v := .ref (E.1 8)) C fl_RX8_35 1 g_1 rfl dX8_hasRoomFor_27 ?_
      refine v_get (v := .int (σ 8 0)) C fl_RX8_59 8 g_8 rfl dX8_hasRoomFor_30 ?_
      refine v_if_eq (tgt := 56) C (by decide) dX8_hasRoomFor_33 (fun h3 => ?_) (fun h3 => ?_)
      · refine v_iconst (v := (0 : Int32)) C (by decide) dX8_hasRoomFor_56 ?_
        refine v_istore_n (lv' := [(3, .int (0 : Int32)), (0, .ref (E.1 1)), (1, .int ki), (2, .int bk)]) C (Nat.le_of_ble_eq_true rfl) rfl dX8_hasRoomFor_57 ?_
        refine v_iload_n C 0 rfl dX8_hasRoomFor_58 ?_
        refine v_if_eq (tgt := 74) C (by decide) dX8_hasRoomFor_59 (fun h4 => ?_) (fun h4 => ?_)
        · refine v_iconst (v := (1 : Int32)) C (by decide) dX8_hasRoomFor_74 ?_
          refine v_goto (tgt := 79) C (by decide) dX8_hasRoomFor_75 ?_
          have e1 : F_X8_hasRoomFor σ ki bk = (1 : Int32) := by rw [F_X8_hasRoomFor, if_neg h1, if_pos h2, if_pos h3]
          exact v_Q hQ (v_zret C rfl () trivial (by rw [e1]) rfl (Nat.zero_le _) (Nat.zero_le _) dX8_hasRoomFor_79)
        · exact absurd (by decide) h4
      · refine v_iload_n C 1 rfl dX8_hasRoomFor_36 ?_
        refine v_iconst (v := (1 : Int32)) C (by decide) dX8_hasRoomFor_37 ?_
        refine v_icmp_ne (tgt := 56) C (by decide) dX8_hasRoomFor_38 (fun h5 => ?_) (fun h5 => ?_)
        · refine v_iconst (v := (0 : Int32)) C (by decide) dX8_hasRoomFor_56 ?_
          refine v_istore_n (lv' := [(3, .int (0 : Int32)), (0, .ref (E.1 1)), (1, .int ki), (2, .int bk)]) C (Nat.le_of_ble_eq_true rfl) rfl dX8_hasRoomFor_57 ?_
          refine v_iload_n C 0 rfl dX8_hasRoomFor_58 ?_
          refine v_if_eq (tgt := 74) C (by decide) dX8_hasRoomFor_59 (fun h6 => ?_) (fun h6 => ?_)
          · refine v_iconst (v := (1 : Int32)) C (by decide) dX8_hasRoomFor_74 ?_
            refine v_goto (tgt := 79) C (by decide) dX8_hasRoomFor_75 ?_
            have e1 : F_X8_hasRoomFor σ ki bk = (1 : Int32) := by rw [F_X8_hasRoomFor, if_neg h1, if_pos h2, if_neg h3, if_neg h5]
            exact v_Q hQ (v_zret C rfl () trivial (by rw [e1]) rfl (Nat.zero_le _) (Nat.zero_le _) dX8_hasRoomFor_79)
          · exact absurd (by decide) h6
        · refine v_aload_n C 0 rfl dX8_hasRoomFor_41 ?_
          refine v_get (v := .ref (E.1 8)) C fl_RX8_35 1 g_1 rfl dX8_hasRoomFor_42 ?_
          refine v_iload_n C 2 rfl dX8_hasRoomFor_45 ?_
          refine v_cV1 (rest := []) C mv_RX8_63 (m_X0_holds l G E σ μ Y bk) 8 g_8 rfl rfl rfl rfl (Nat.le_of_ble_eq_true rfl) ⟨Nat.le_of_ble_eq_true rfl, Nat.le_of_ble_eq_true rfl⟩ ⟨rfl, rfl⟩ ⟨Nat.zero_le _, Nat.zero_le _⟩ dX8_hasRoomFor_46 ?_
          refine v_if_ne (tgt := 56) C (by decide) dX8_hasRoomFor_49 (fun h7 => ?_) (fun h7 => ?_)
          · refine v_iconst (v := (0 : Int32)) C (by decide) dX8_hasRoomFor_56 ?_
            refine v_istore_n (lv' := [(3, .int (0 : Int32)), (0, .ref (E.1 1)), (1, .int ki), (2, .int bk)]) C (Nat.le_of_ble_eq_true rfl) rfl dX8_hasRoomFor_57 ?_
            refine v_iload_n C 0 rfl dX8_hasRoomFor_58 ?_
            refine v_if_eq (tgt := 74) C (by decide) dX8_hasRoomFor_59 (fun h8 => ?_) (fun h8 => ?_)
            · refine v_iconst (v := (1 : Int32)) C (by decide) dX8_hasRoomFor_74 ?_
              refine v_goto (tgt := 79) C (by decide) dX8_hasRoomFor_75 ?_
              have e1 : F_X8_hasRoomFor σ ki bk = (1 : Int32) := by rw [F_X8_hasRoomFor, if_neg h1, if_pos h2, if_neg h3, if_pos h5, if_neg h7]
              exact v_Q hQ (v_zret C rfl () trivial (by rw [e1]) rfl (Nat.zero_le _) (Nat.zero_le _) dX8_hasRoomFor_79)
            · exact absurd (by decide) h8
          · refine v_iconst (v := (1 : Int32)) C (by decide) dX8_hasRoomFor_52 ?_
            refine v_goto (tgt := 57) C (by decide) dX8_hasRoomFor_53 ?_
            refine v_istore_n (lv' := [(3, .int (1 : Int32)), (0, .ref (E.1 1)), (1, .int ki), (2, .int bk)]) C (Nat.le_of_ble_eq_true rfl) rfl dX8_hasRoomFor_57 ?_
            refine v_iload_n C 0 rfl dX8_hasRoomFor_58 ?_
            refine v_if_eq (tgt := 74) C (by decide) dX8_hasRoomFor_59 (fun h9 => ?_) (fun h9 => ?_)
            · exact absurd h9 (by decide)
            · refine v_aload_n C 1 rfl dX8_hasRoomFor_62 ?_
              refine v_get (v := .ref (E.1 8)) C fl_RX8_35 1 g_1 rfl dX8_hasRoomFor_63 ?_
              refine v_get (v := .int (σ 8 1)) C fl_RX8_67 8 g_8 rfl dX8_hasRoomFor_66 ?_
              refine v_bipush (v := (8 : Int32)) C (by decide) dX8_hasRoomFor_69 ?_
              refine v_icmp_ge (tgt := 78) C (by decide) dX8_hasRoomFor_71 (fun h10 => ?_) (fun h10 => ?_)
              · refine v_iconst (v := (0 : Int32)) C (by decide) dX8_hasRoomFor_78 ?_
                have e1 : F_X8_hasRoomFor σ ki bk = (0 : Int32) := by rw [F_X8_hasRoomFor, if_neg h1, if_pos h2, if_neg h3, if_pos h5, if_pos h7, if_pos h10]
                exact v_Q hQ (v_zret C rfl () trivial (by rw [e1]) rfl (Nat.zero_le _) (Nat.zero_le _) dX8_hasRoomFor_79)
              · refine v_iconst (v := (1 : Int32)) C (by decide) dX8_hasRoomFor_74 ?_
                refine v_goto (tgt := 79) C (by decide) dX8_hasRoomFor_75 ?_
                have e1 : F_X8_hasRoomFor σ ki bk = (1 : Int32) := by rw [F_X8_hasRoomFor, if_neg h1, if_pos h2, if_neg h3, if_pos h5, if_pos h7, if_neg h10]
                exact v_Q hQ (v_zret C rfl () trivial (by rw [e1]) rfl (Nat.zero_le _) (Nat.zero_le _) dX8_hasRoomFor_79)
    · refine v_iconst (v := (0 : Int32)) C (by decide) dX8_hasRoomFor_24 ?_
      have e1 : F_X8_hasRoomFor σ ki bk = (0 : Int32) := by rw [F_X8_hasRoomFor, if_neg h1, if_neg h2]
      exact v_Q hQ (v_zret C rfl () trivial (by rw [e1]) rfl (Nat.zero_le _) (Nat.zero_le _) dX8_hasRoomFor_25)
def F_X5_append (σ : Sg) (ch : Int32) : Int32 × Sg := (if (F_X9_isWithin (σ 19 0) (0 : Int32) (39 : Int32)) = 0 then ((0 : Int32), σ) else ((1 : Int32), (s2 (s2 σ 23 (σ 19 0).toNatClampNeg ch) 19 0 ((σ 19 0) + (1 : Int32)))))
theorem z01_X5_append (σ : Sg) (ch : Int32) : (F_X5_append σ ch).1 = 0 ∨ (F_X5_append σ ch).1 = 1 := by
  unfold F_X5_append; (repeat' split) <;> first | exact Or.inl rfl | exact Or.inr rfl
abbrev rm_X5_append : Room := { frames := 1, cells := 0, slots := 0, locals := 22 }
set_option maxRecDepth 100000 in
set_option maxHeartbeats 4000000 in
theorem m_X5_append (l : Launch) (G : GG) (E : EE) (σ μ : Sg) (Y : va_W) (ch : Int32) : KK l G yX5_append cX5_append 2 (some .boolean) rm_X5_append [.ref (E.1 19), .int ch] (Wd G E σ μ Y) (some (.int (F_X5_append σ ch).1)) (Wd G E (F_X5_append σ ch).2 μ Y) := by
  refine KE.of (by decide) (Nat.le_of_ble_eq_true rfl) ?_
  intro zp ze zs zm za zb zt zc zA C _
  generalize hQ : MQ zb _ za zs _ _ zA = Q
  show V zp l ze rm_X5_append zs zm za zb zt zc 2 G zA 0 0 Q 0 [(0, .ref (E.1 19)), (1, .int ch)] [] (Wd G E σ μ Y)
  refine v_aload_n C 0 rfl dX5_append_0 ?_
  refine v_get (v := .int (σ 19 0)) C fl_RX5_28 19 g_19 rfl dX5_append_1 ?_
  refine v_iconst (v := (0 : Int32)) C (by decide) dX5_append_4 ?_
  refine v_bipush (v := (39 : Int32)) C (by decide) dX5_append_5 ?_
  refine v_cN1 (rest := []) C mn_RX5_31 w_378 (m_X9_isWithin l G E σ μ Y (σ 19 0) (0 : Int32) (39 : Int32)) rfl rfl (Nat.le_of_ble_eq_true rfl) ⟨Nat.le_of_ble_eq_true rfl, Nat.le_of_ble_eq_true rfl⟩ ⟨rfl, rfl⟩ ⟨Nat.zero_le _, Nat.zero_le _⟩ dX5_append_7 ?_
  refine v_if_ne (tgt := 15) C (by decide) dX5_append_10 (fun h1 => ?_) (fun h1 => ?_)
  · refine v_aload_n C 0 rfl dX5_append_15 ?_
    refine v_get (v := .ref (E.1 23)) C fl_RX5_25 19 g_19 rfl dX5_append_16 ?_
    refine v_aload_n C 0 rfl dX5_append_19 ?_
    refine v_get (v := .int (σ 19 0)) C fl_RX5_28 19 g_19 rfl dX5_append_20 ?_
    refine v_iload_n C 1 rfl dX5_append_23 ?_
    refine v_iast (ws' := Wd G E (s2 σ 23 (σ 19 0).toNatClampNeg ch) μ Y) C 23 g_23 (within_in (N := 39) (by decide) rfl h1) (p_23 _ _) dX5_append_24 ?_
    refine v_aload_n C 0 rfl dX5_append_25 ?_
    refine v_dup C rfl dX5_append_26 ?_
    refine v_get (v := .int (σ 19 0)) C fl_RX5_28 19 g_19 rfl dX5_append_27 ?_
    refine v_iconst (v := (1 : Int32)) C (by decide) dX5_append_30 ?_
    refine v_iadd C dX5_append_31 ?_
    refine v_put C fp_RX5_28 19 g_19 rfl rfl (Nat.le_of_ble_eq_true rfl) (p_19_0 _) dX5_append_32 ?_
    refine v_iconst (v := (1 : Int32)) C (by decide) dX5_append_35 ?_
    have e1 : F_X5_append σ ch = ((1 : Int32), (s2 (s2 σ 23 (σ 19 0).toNatClampNeg ch) 19 0 ((σ 19 0) + (1 : Int32)))) := by rw [F_X5_append, if_neg h1]
    exact v_Q hQ (v_zret C rfl () trivial (by rw [e1]) (by rw [e1]) (Nat.zero_le _) (Nat.zero_le _) dX5_append_36)
  · refine v_iconst (v := (0 : Int32)) C (by decide) dX5_append_13 ?_
    have e1 : F_X5_append σ ch = ((0 : Int32), σ) := by rw [F_X5_append, if_pos h1]
    exact v_Q hQ (v_zret C rfl () trivial (by rw [e1]) (by rw [e1]) (Nat.zero_le _) (Nat.zero_le _) dX5_append_14)
def F_X5_current (σ : Sg) : Int32 := (if (σ 19 3) < 0 then (-1 : Int32) else (if (σ 19 0) ≤ (σ 19 3) then (-1 : Int32) else (if (40 : Int32) ≤ (σ 19 3) then (-1 : Int32) else σ 23 (σ 19 3).toNatClampNeg)))
abbrev rm_X5_current : Room := { frames := 0, cells := 0, slots := 0, locals := 0 }
set_option maxRecDepth 100000 in
set_option maxHeartbeats 4000000 in
theorem m_X5_current (l : Launch) (G : GG) (E : EE) (σ μ : Sg) (Y : va_W) : KK l G yX5_current cX5_current 1 (some .int) rm_X5_current [.ref (E.1 19)] (Wd G E σ μ Y) (some (.int (F_X5_current σ))) (Wd G E σ μ Y) := by
  refine KE.of (by decide) (Nat.le_of_ble_eq_true rfl) ?_
  intro zp ze zs zm za zb zt zc zA C _
  generalize hQ : MQ zb _ za zs _ _ zA = Q
  show V zp l ze rm_X5_current zs zm za zb zt zc 1 G zA 0 0 Q 0 [(0, .ref (E.1 19))] [] (Wd G E σ μ Y)
  refine v_aload_n C 0 rfl dX5_current_0 ?_
  refine v_get (v := .int (σ 19 3)) C fl_RX5_35 19 g_19 rfl dX5_current_1 ?_
  refine v_if_lt (tgt := 39) C (by decide) dX5_current_4 (fun h1 => ?_) (fun h1 => ?_)
  · refine v_iconst (v := (-1 : Int32)) C (by decide) dX5_current_39 ?_
    have e1 : F_X5_current σ = (-1 : Int32) := by rw [F_X5_current, if_pos h1]
    exact v_Q hQ (v_iret C () trivial (by rw [e1]) rfl (Nat.zero_le _) (Nat.zero_le _) dX5_current_40)
  · refine v_aload_n C 0 rfl dX5_current_7 ?_
    refine v_get (v := .int (σ 19 3)) C fl_RX5_35 19 g_19 rfl dX5_current_8 ?_
    refine v_aload_n C 0 rfl dX5_current_11 ?_
    refine v_get (v := .int (σ 19 0)) C fl_RX5_28 19 g_19 rfl dX5_current_12 ?_
    refine v_icmp_ge (tgt := 39) C (by decide) dX5_current_15 (fun h2 => ?_) (fun h2 => ?_)
    · refine v_iconst (v := (-1 : Int32)) C (by decide) dX5_current_39 ?_
      have e1 : F_X5_current σ = (-1 : Int32) := by rw [F_X5_current, if_neg h1, if_pos h2]
      exact v_Q hQ (v_iret C () trivial (by rw [e1]) rfl (Nat.zero_le _) (Nat.zero_le _) dX5_current_40)
    · refine v_aload_n C 0 rfl dX5_current_18 ?_
      refine v_get (v := .int (σ 19 3)) C fl_RX5_35 19 g_19 rfl dX5_current_19 ?_
      refine v_bipush (v := (40 : Int32)) C (by decide) dX5_current_22 ?_
      refine v_icmp_ge (tgt := 39) C (by decide) dX5_current_24 (fun h3 => ?_) (fun h3 => ?_)
      · refine v_iconst (v := (-1 : Int32)) C (by decide) dX5_current_39 ?_
        have e1 : F_X5_current σ = (-1 : Int32) := by rw [F_X5_current, if_neg h1, if_neg h2, if_pos h3]
        exact v_Q hQ (v_iret C () trivial (by rw [e1]) rfl (Nat.zero_le _) (Nat.zero_le _) dX5_current_40)
      · refine v_aload_n C 0 rfl dX5_current_27 ?_
        refine v_get (v := .ref (E.1 23)) C fl_RX5_25 19 g_19 rfl dX5_current_28 ?_
        refine v_aload_n C 0 rfl dX5_current_31 ?_
        refine v_get (v := .int (σ 19 3)) C fl_RX5_35 19 g_19 rfl dX5_current_32 ?_
        refine v_iald (v := σ 23 (σ 19 3).toNatClampNeg) C 23 g_23 (nn_in (N := 40) rfl (by decide) h1 h3) rfl dX5_current_35 ?_
        refine v_goto (tgt := 40) C (by decide) dX5_current_36 ?_
        have e1 : F_X5_current σ = σ 23 (σ 19 3).toNatClampNeg := by rw [F_X5_current, if_neg h1, if_neg h2, if_neg h3]
        exact v_Q hQ (v_iret C () trivial (by rw [e1]) rfl (Nat.zero_le _) (Nat.zero_le _) dX5_current_40)
def F_X5_skip (σ : Sg) (ch : Int32) : Int32 × Sg := (if (F_X5_current σ) = ch then ((1 : Int32), (s2 σ 19 3 ((σ 19 3) + (1 : Int32)))) else ((0 : Int32), σ))
theorem z01_X5_skip (σ : Sg) (ch : Int32) : (F_X5_skip σ ch).1 = 0 ∨ (F_X5_skip σ ch).1 = 1 := by
  unfold F_X5_skip; (repeat' split) <;> first | exact Or.inl rfl | exact Or.inr rfl
abbrev rm_X5_skip : Room := { frames := 1, cells := 0, slots := 0, locals := 20 }
set_option maxRecDepth 100000 in
set_option maxHeartbeats 4000000 in
theorem m_X5_skip (l : Launch) (G : GG) (E : EE) (σ μ : Sg) (Y : va_W) (ch : Int32) : KK l G yX5_skip cX5_skip 2 (some .boolean) rm_X5_skip [.ref (E.1 19), .int ch] (Wd G E σ μ Y) (some (.int (F_X5_skip σ ch).1)) (Wd G E (F_X5_skip σ ch).2 μ Y) := by
  refine KE.of (by decide) (Nat.le_of_ble_eq_true rfl) ?_
  intro zp ze zs zm za zb zt zc zA C _
  generalize hQ : MQ zb _ za zs _ _ zA = Q
  show V zp l ze rm_X5_skip zs zm za zb zt zc 2 G zA 0 0 Q 0 [(0, .ref (E.1 19)), (1, .int ch)] [] (Wd G E σ μ Y)
  refine v_aload_n C 0 rfl dX5_skip_0 ?_
  refine v_cV1 (rest := []) C mv_RX5_59 (m_X5_current l G E σ μ Y) 19 g_19 rfl rfl rfl rfl (Nat.le_of_ble_eq_true rfl) ⟨Nat.le_of_ble_eq_true rfl, Nat.le_of_ble_eq_true rfl⟩ ⟨rfl, rfl⟩ ⟨Nat.zero_le _, Nat.zero_le _⟩ dX5_skip_1 ?_
  refine v_iload_n C 1 rfl dX5_skip_4 ?_
  refine v_icmp_eq (tgt := 10) C (by decide) dX5_skip_5 (fun h1 => ?_) (fun h1 => ?_)
  · refine v_aload_n C 0 rfl dX5_skip_10 ?_
    refine v_dup C rfl dX5_skip_11 ?_
    refine v_get (v := .int (σ 19 3)) C fl_RX5_35 19 g_19 rfl dX5_skip_12 ?_
    refine v_iconst (v := (1 : Int32)) C (by decide) dX5_skip_15 ?_
    refine v_iadd C dX5_skip_16 ?_
    refine v_put C fp_RX5_35 19 g_19 rfl rfl (Nat.le_of_ble_eq_true rfl) (p_19_6 _) dX5_skip_17 ?_
    refine v_iconst (v := (1 : Int32)) C (by decide) dX5_skip_20 ?_
    have e1 : F_X5_skip σ ch = ((1 : Int32), (s2 σ 19 3 ((σ 19 3) + (1 : Int32)))) := by rw [F_X5_skip, if_pos h1]
    exact v_Q hQ (v_zret C rfl () trivial (by rw [e1]) (by rw [e1]) (Nat.zero_le _) (Nat.zero_le _) dX5_skip_21)
  · refine v_iconst (v := (0 : Int32)) C (by decide) dX5_skip_8 ?_
    have e1 : F_X5_skip σ ch = ((0 : Int32), σ) := by rw [F_X5_skip, if_neg h1]
    exact v_Q hQ (v_zret C rfl () trivial (by rw [e1]) (by rw [e1]) (Nat.zero_le _) (Nat.zero_le _) dX5_skip_9)
theorem rn_step {x md : Int32} {n : Nat} (hd : ∃ D : Nat, D ≤ 4 ∧ md = nI D) (hI : ∃ j : Nat, x = nI j ∧ j ≤ 4 ∧ j + (n + 1) = 5) (h : ¬ md ≤ x) : ∃ j : Nat, x + 1 = nI j ∧ j ≤ 4 ∧ j + n = 5 := by
  obtain ⟨j, ej, h8, hn⟩ := hI
  obtain ⟨D, hD, eD⟩ := hd
  have := gt_of_nle eD ej (by omega) (by omega) h
  exact ⟨j + 1, by rw [ej]; exact nI_1 j, by omega, by omega⟩
def L_X5_readNumber_4 (σ : Sg) (md : Int32) : Nat → Int32 → Int32 → Sg → Int32 × Sg
  | 0, _, _, _ => (0, σ)
  | n + 1, nu, x, σ1 => (if md ≤ x then (if x = 0 then ((-1 : Int32), σ1) else (nu, σ1)) else (if (F_X9_isWithin (F_X5_current σ1) (48 : Int32) (57 : Int32)) = 0 then (if x = 0 then ((-1 : Int32), σ1) else (nu, σ1)) else L_X5_readNumber_4 σ md n (((nu * (10 : Int32)) + (F_X5_current σ1)) - (48 : Int32)) (x + (1 : Int32)) (s2 σ1 19 3 ((σ1 19 3) + (1 : Int32)))))
def F_X5_readNumber (σ : Sg) (md : Int32) : Int32 × Sg := L_X5_readNumber_4 σ md 5 (0 : Int32) (0 : Int32) σ
abbrev rm_X5_readNumber : Room := { frames := 1, cells := 0, slots := 0, locals := 22 }
set_option maxRecDepth 100000 in
set_option maxHeartbeats 4000000 in
theorem m_X5_readNumber (l : Launch) (G : GG) (E : EE) (σ μ : Sg) (Y : va_W) (md : Int32) (hd : ∃ D : Nat, D ≤ 4 ∧ md = nI D) : KK l G yX5_readNumber cX5_readNumber 4 (some .int) rm_X5_readNumber [.ref (E.1 19), .int md] (Wd G E σ μ Y) (some (.int (F_X5_readNumber σ md).1)) (Wd G E (F_X5_readNumber σ md).2 μ Y) := by
  refine KE.of (by decide) (Nat.le_of_ble_eq_true rfl) ?_
  intro zp ze zs zm za zb zt zc zA C _
  generalize hQ : MQ zb _ za zs _ _ zA = Q
  have loop_4 : ∀ (n : Nat) (nu : Int32) (x : Int32) (σ1 : Sg), (∃ j : Nat, x = nI j ∧ j ≤ 4 ∧ j + n = 5) → F_X5_readNumber σ md = L_X5_readNumber_4 σ md n nu x σ1 → V zp l ze rm_X5_readNumber zs zm za zb zt zc 4 G zA 0 0 Q 4 [(0, .ref (E.1 19)), (1, .int md), (2, .int nu), (3, .int x)] [] (Wd G E σ1 μ Y) := by
    intro n
    induction n with
    | zero =>
      intro nu x σ1 hI hL
      exact False.elim (by obtain ⟨j, _, h8, h⟩ := hI; omega)
    | succ n ih =>
      intro nu x σ1 hI hL
      refine v_iload_n C 3 rfl dX5_readNumber_4 ?_
      refine v_iload_n C 1 rfl dX5_readNumber_5 ?_
      refine v_icmp_ge (tgt := 52) C (by decide) dX5_readNumber_6 (fun h1 => ?_) (fun h1 => ?_)
      · refine v_iload_n C 3 rfl dX5_readNumber_52 ?_
        refine v_if_ne (tgt := 60) C (by decide) dX5_readNumber_53 (fun h2 => ?_) (fun h2 => ?_)
        · refine v_iload_n C 2 rfl dX5_readNumber_60 ?_
          have e1 : F_X5_readNumber σ md = (nu, σ1) := by rw [hL, L_X5_readNumber_4, if_pos h1, if_neg h2]
          exact v_Q hQ (v_iret C () trivial (by rw [e1]) (by rw [e1]) (Nat.zero_le _) (Nat.zero_le _) dX5_readNumber_61)
        · refine v_iconst (v := (-1 : Int32)) C (by decide) dX5_readNumber_56 ?_
          refine v_goto (tgt := 61) C (by decide) dX5_readNumber_57 ?_
          have e1 : F_X5_readNumber σ md = ((-1 : Int32), σ1) := by rw [hL, L_X5_readNumber_4, if_pos h1, if_pos h2]
          exact v_Q hQ (v_iret C () trivial (by rw [e1]) (by rw [e1]) (Nat.zero_le _) (Nat.zero_le _) dX5_readNumber_61)
      · refine v_aload_n C 0 rfl dX5_readNumber_9 ?_
        refine v_cV1 (rest := []) C mv_RX5_59 (m_X5_current l G E σ1 μ Y) 19 g_19 rfl rfl rfl rfl (Nat.le_of_ble_eq_true rfl) ⟨Nat.le_of_ble_eq_true rfl, Nat.le_of_ble_eq_true rfl⟩ ⟨rfl, rfl⟩ ⟨Nat.zero_le _, Nat.zero_le _⟩ dX5_readNumber_10 ?_
        refine v_bipush (v := (48 : Int32)) C (by decide) dX5_readNumber_13 ?_
        refine v_bipush (v := (57 : Int32)) C (by decide) dX5_readNumber_15 ?_
        refine v_cN1 (rest := []) C mn_RX5_31 w_378 (m_X9_isWithin l G E σ1 μ Y (F_X5_current σ1) (48 : Int32) (57 : Int32)) rfl rfl (Nat.le_of_ble_eq_true rfl) ⟨Nat.le_of_ble_eq_true rfl, Nat.le_of_ble_eq_true rfl⟩ ⟨rfl, rfl⟩ ⟨Nat.zero_le _, Nat.zero_le _⟩ dX5_readNumber_17 ?_
        refine v_if_eq (tgt := 52) C (by decide) dX5_readNumber_20 (fun h3 => ?_) (fun h3 => ?_)
        · refine v_iload_n C 3 rfl dX5_readNumber_52 ?_
          refine v_if_ne (tgt := 60) C (by decide) dX5_readNumber_53 (fun h4 => ?_) (fun h4 => ?_)
          · refine v_iload_n C 2 rfl dX5_readNumber_60 ?_
            have e1 : F_X5_readNumber σ md = (nu, σ1) := by rw [hL, L_X5_readNumber_4, if_neg h1, if_pos h3, if_neg h4]
            exact v_Q hQ (v_iret C () trivial (by rw [e1]) (by rw [e1]) (Nat.zero_le _) (Nat.zero_le _) dX5_readNumber_61)
          · refine v_iconst (v := (-1 : Int32)) C (by decide) dX5_readNumber_56 ?_
            refine v_goto (tgt := 61) C (by decide) dX5_readNumber_57 ?_
            have e1 : F_X5_readNumber σ md = ((-1 : Int32), σ1) := by rw [hL, L_X5_readNumber_4, if_neg h1, if_pos h3, if_pos h4]
            exact v_Q hQ (v_iret C () trivial (by rw [e1]) (by rw [e1]) (Nat.zero_le _) (Nat.zero_le _) dX5_readNumber_61)
        · refine v_iload_n C 2 rfl dX5_readNumber_23 ?_
          refine v_bipush (v := (10 : Int32)) C (by decide) dX5_readNumber_24 ?_
          refine v_imul C dX5_readNumber_26 ?_
          refine v_aload_n C 0 rfl dX5_readNumber_27 ?_
          refine v_cV1 (rest := [.int (nu * (10 : Int32))]) C mv_RX5_59 (m_X5_current l G E σ1 μ Y) 19 g_19 rfl rfl rfl rfl (Nat.le_of_ble_eq_true rfl) ⟨Nat.le_of_ble_eq_true rfl, Nat.le_of_ble_eq_true rfl⟩ ⟨rfl, rfl⟩ ⟨Nat.zero_le _, Nat.zero_le _⟩ dX5_readNumber_28 ?_
          refine v_iadd C dX5_readNumber_31 ?_
          refine v_bipush (v := (48 : Int32)) C (by decide) dX5_readNumber_32 ?_
          refine v_isub C dX5_readNumber_34 ?_
          refine v_istore_n (lv' := [(2, .int (((nu * (10 : Int32)) + (F_X5_current σ1)) - (48 : Int32))), (0, .ref (E.1 19)), (1, .int md), (3, .int x)]) C (Nat.le_of_ble_eq_true rfl) rfl dX5_readNumber_35 ?_
          refine v_iinc (v := x + (1 : Int32)) (lv' := [(3, .int (x + (1 : Int32))), (2, .int (((nu * (10 : Int32)) + (F_X5_current σ1)) - (48 : Int32))), (0, .ref (E.1 19)), (1, .int md)]) C 3 rfl rfl (Nat.le_of_ble_eq_true rfl) rfl dX5_readNumber_36 ?_
          refine v_aload_n C 2 rfl dX5_readNumber_39 ?_
          refine v_dup C rfl dX5_readNumber_40 ?_
          refine v_get (v := .int (σ1 19 3)) C fl_RX5_35 19 g_19 rfl dX5_readNumber_41 ?_
          refine v_iconst (v := (1 : Int32)) C (by decide) dX5_readNumber_44 ?_
          refine v_iadd C dX5_readNumber_45 ?_
          refine v_put C fp_RX5_35 19 g_19 rfl rfl (Nat.le_of_ble_eq_true rfl) (p_19_6 _) dX5_readNumber_46 ?_
          refine v_goto (tgt := 4) C (by decide) dX5_readNumber_49 ?_
          refine v_lv [2, 3, 1, 0] rfl ?_
          exact ih (((nu * (10 : Int32)) + (F_X5_current σ1)) - (48 : Int32)) (x + (1 : Int32)) (s2 σ1 19 3 ((σ1 19 3) + (1 : Int32))) (rn_step hd hI h1) (by rw [hL, L_X5_readNumber_4, if_neg h1, if_neg h3])
  show V zp l ze rm_X5_readNumber zs zm za zb zt zc 4 G zA 0 0 Q 0 [(0, .ref (E.1 19)), (1, .int md)] [] (Wd G E σ μ Y)
  refine v_iconst (v := (0 : Int32)) C (by decide) dX5_readNumber_0 ?_
  refine v_istore_n (lv' := [(2, .int (0 : Int32)), (0, .ref (E.1 19)), (1, .int md)]) C (Nat.le_of_ble_eq_true rfl) rfl dX5_readNumber_1 ?_
  refine v_iconst (v := (0 : Int32)) C (by decide) dX5_readNumber_2 ?_
  refine v_istore_n (lv' := [(3, .int (0 : Int32)), (2, .int (0 : Int32)), (0, .ref (E.1 19)), (1, .int md)]) C (Nat.le_of_ble_eq_true rfl) rfl dX5_readNumber_3 ?_
  refine v_lv [2, 3, 1, 0] rfl ?_
  exact loop_4 5 (0 : Int32) (0 : Int32) σ (⟨0, rfl, by omega, by omega⟩) (by rw [F_X5_readNumber])
def F_X5_keepItem (σ : Sg) (ki : Int32) (bk : Int32) (al : Int32) : Int32 × Sg := (if (F_X9_isWithin (σ 19 2) (0 : Int32) (13 : Int32)) = 0 then ((0 : Int32), σ) else ((1 : Int32), (s2 (s2 (s2 (s2 σ 20 (σ 19 2).toNatClampNeg ki) 21 (σ 19 2).toNatClampNeg bk) 22 (σ 19 2).toNatClampNeg al) 19 2 ((σ 19 2) + (1 : Int32)))))
theorem z01_X5_keepItem (σ : Sg) (ki : Int32) (bk : Int32) (al : Int32) : (F_X5_keepItem σ ki bk al).1 = 0 ∨ (F_X5_keepItem σ ki bk al).1 = 1 := by
  unfold F_X5_keepItem; (repeat' split) <;> first | exact Or.inl rfl | exact Or.inr rfl
abbrev rm_X5_keepItem : Room := { frames := 1, cells := 0, slots := 0, locals := 22 }
set_option maxRecDepth 100000 in
set_option maxHeartbeats 4000000 in
theorem m_X5_keepItem (l : Launch) (G : GG) (E : EE) (σ μ : Sg) (Y : va_W) (ki : Int32) (bk : Int32) (al : Int32) : KK l G yX5_keepItem cX5_keepItem 4 (some .boolean) rm_X5_keepItem [.ref (E.1 19), .int ki, .int bk, .int al] (Wd G E σ μ Y) (some (.int (F_X5_keepItem σ ki bk al).1)) (Wd G E (F_X5_keepItem σ ki bk al).2 μ Y) := by
  refine KE.of (by decide) (Nat.le_of_ble_eq_true rfl) ?_
  intro zp ze zs zm za zb zt zc zA C _
  generalize hQ : MQ zb _ za zs _ _ zA = Q
  show V zp l ze rm_X5_keepItem zs zm za zb zt zc 4 G zA 0 0 Q 0 [(0, .ref (E.1 19)), (1, .int ki), (2, .int bk), (3, .int al)] [] (Wd G E σ μ Y)
  refine v_aload_n C 0 rfl dX5_keepItem_0 ?_
  refine v_get (v := .int (σ 19 2)) C fl_RX5_38 19 g_19 rfl dX5_keepItem_1 ?_
  refine v_iconst (v := (0 : Int32)) C (by decide) dX5_keepItem_4 ?_
  refine v_bipush (v := (13 : Int32)) C (by decide) dX5_keepItem_5 ?_
  refine v_cN1 (rest := []) C mn_RX5_31 w_378 (m_X9_isWithin l G E σ μ Y (σ 19 2) (0 : Int32) (13 : Int32)) rfl rfl (Nat.le_of_ble_eq_true rfl) ⟨Nat.le_of_ble_eq_true rfl, Nat.le_of_ble_eq_true rfl⟩ ⟨rfl, rfl⟩ ⟨Nat.zero_le _, Nat.zero_le _⟩ dX5_keepItem_7 ?_
  refine v_if_ne (tgt := 15) C (by decide) dX5_keepItem_10 (fun h1 => ?_) (fun h1 => ?_)
  · refine v_aload_n C 0 rfl dX5_keepItem_15 ?_
    refine v_get (v := .ref (E.1 20)) C fl_RX5_15 19 g_19 rfl dX5_keepItem_16 ?_
    refine v_aload_n C 0 rfl dX5_keepItem_19 ?_
    refine v_get (v := .int (σ 19 2)) C fl_RX5_38 19 g_19 rfl dX5_keepItem_20 ?_
    refine v_iload_n C 1 rfl dX5_keepItem_23 ?_
    refine v_iast (ws' := Wd G E (s2 σ 20 (σ 19 2).toNatClampNeg ki) μ Y) C 20 g_20 (within_in (N := 13) (by decide) rfl h1) (p_20 _ _) dX5_keepItem_24 ?_
    refine v_aload_n C 0 rfl dX5_keepItem_25 ?_
    refine v_get (v := .ref (E.1 21)) C fl_RX5_19 19 g_19 rfl dX5_keepItem_26 ?_
    refine v_aload_n C 0 rfl dX5_keepItem_29 ?_
    refine v_get (v := .int (σ 19 2)) C fl_RX5_38 19 g_19 rfl dX5_keepItem_30 ?_
    refine v_iload_n C 2 rfl dX5_keepItem_33 ?_
    refine v_iast (ws' := Wd G E (s2 (s2 σ 20 (σ 19 2).toNatClampNeg ki) 21 (σ 19 2).toNatClampNeg bk) μ Y) C 21 g_21 (within_in (N := 13) (by decide) rfl h1) (p_21 _ _) dX5_keepItem_34 ?_
    refine v_aload_n C 0 rfl dX5_keepItem_35 ?_
    refine v_get (v := .ref (E.1 22)) C fl_RX5_22 19 g_19 rfl dX5_keepItem_36 ?_
    refine v_aload_n C 0 rfl dX5_keepItem_39 ?_
    refine v_get (v := .int (σ 19 2)) C fl_RX5_38 19 g_19 rfl dX5_keepItem_40 ?_
    refine v_iload_n C 3 rfl dX5_keepItem_43 ?_
    refine v_iast (ws' := Wd G E (s2 (s2 (s2 σ 20 (σ 19 2).toNatClampNeg ki) 21 (σ 19 2).toNatClampNeg bk) 22 (σ 19 2).toNatClampNeg al) μ Y) C 22 g_22 (within_in (N := 13) (by decide) rfl h1) (p_22 _ _) dX5_keepItem_44 ?_
    refine v_aload_n C 0 rfl dX5_keepItem_45 ?_
    refine v_dup C rfl dX5_keepItem_46 ?_
    refine v_get (v := .int (σ 19 2)) C fl_RX5_38 19 g_19 rfl dX5_keepItem_47 ?_
    refine v_iconst (v := (1 : Int32)) C (by decide) dX5_keepItem_50 ?_
    refine v_iadd C dX5_keepItem_51 ?_
    refine v_put C fp_RX5_38 19 g_19 rfl rfl (Nat.le_of_ble_eq_true rfl) (p_19_2 _) dX5_keepItem_52 ?_
    refine v_iconst (v := (1 : Int32)) C (by decide) dX5_keepItem_55 ?_
    have e1 : F_X5_keepItem σ ki bk al = ((1 : Int32), (s2 (s2 (s2 (s2 σ 20 (σ 19 2).toNatClampNeg ki) 21 (σ 19 2).toNatClampNeg bk) 22 (σ 19 2).toNatClampNeg al) 19 2 ((σ 19 2) + (1 : Int32)))) := by rw [F_X5_keepItem, if_neg h1]
    exact v_Q hQ (v_zret C rfl () trivial (by rw [e1]) (by rw [e1]) (Nat.zero_le _) (Nat.zero_le _) dX5_keepItem_56)
  · refine v_iconst (v := (0 : Int32)) C (by decide) dX5_keepItem_13 ?_
    have e1 : F_X5_keepItem σ ki bk al = ((0 : Int32), σ) := by rw [F_X5_keepItem, if_pos h1]
    exact v_Q hQ (v_zret C rfl () trivial (by rw [e1]) (by rw [e1]) (Nat.zero_le _) (Nat.zero_le _) dX5_keepItem_14)
def F_X5_readItem (σ : Sg) : Int32 × Sg := (let r1 := F_X5_skip σ (114 : Int32); (if r1.1 = 0 then (let r2 := F_X5_skip r1.2 (119 : Int32); (if r2.1 = 0 then ((0 : Int32), r2.2) else (let r3 := F_X5_readNumber r2.2 (3 : Int32); (if r3.1 = (-1 : Int32) then ((0 : Int32), r3.2) else (let r4 := F_X5_skip r3.2 (64 : Int32); (if r4.1 = 0 then (let r5 := F_X5_keepItem r4.2 (1 : Int32) r3.1 (0 : Int32); (r5.1, r5.2)) else (let r6 := F_X5_readNumber r4.2 (4 : Int32); (if r6.1 = (-1 : Int32) then ((0 : Int32), r6.2) else (let r7 := F_X5_keepItem r6.2 (1 : Int32) r3.1 r6.1; (r7.1, r7.2)))))))))) else (let r8 := F_X5_readNumber r1.2 (3 : Int32); (if r8.1 = (-1 : Int32) then ((0 : Int32), r8.2) else (let r9 := F_X5_skip r8.2 (64 : Int32); (if r9.1 = 0 then (let r10 := F_X5_keepItem r9.2 (0 : Int32) r8.1 (0 : Int32); (r10.1, r10.2)) else (let r11 := F_X5_readNumber r9.2 (4 : Int32); (if r11.1 = (-1 : Int32) then ((0 : Int32), r11.2) else (let r12 := F_X5_keepItem r11.2 (0 : Int32) r8.1 r11.1; (r12.1, r12.2))))))))))
theorem z01_X5_readItem (σ : Sg) : (F_X5_readItem σ).1 = 0 ∨ (F_X5_readItem σ).1 = 1 := by
  unfold F_X5_readItem; simp only []; (repeat' split) <;> first | with_reducible exact z01_X5_keepItem _ _ _ _ | with_reducible exact Or.inl rfl | with_reducible exact Or.inr rfl
abbrev rm_X5_readItem : Room := { frames := 2, cells := 0, slots := 0, locals := 45 }
set_option maxRecDepth 100000 in
set_option maxHeartbeats 4000000 in
theorem m_X5_readItem (l : Launch) (G : GG) (E : EE) (σ μ : Sg) (Y : va_W) : KK l G yX5_readItem cX5_readItem 4 (some .boolean) rm_X5_readItem [.ref (E.1 19)] (Wd G E σ μ Y) (some (.int (F_X5_readItem σ).1)) (Wd G E (F_X5_readItem σ).2 μ Y) := by
  refine KE.of (by decide) (Nat.le_of_ble_eq_true rfl) ?_
  intro zp ze zs zm za zb zt zc zA C _
  generalize hQ : MQ zb _ za zs _ _ zA = Q
  show V zp l ze rm_X5_readItem zs zm za zb zt zc 4 G zA 0 0 Q 0 [(0, .ref (E.1 19))] [] (Wd G E σ μ Y)
  refine v_aload_n C 0 rfl dX5_readItem_0 ?_
  refine v_bipush (v := (114 : Int32)) C (by decide) dX5_readItem_1 ?_
  refine v_cV1 (rest := []) C mv_RX5_48 (m_X5_skip l G E σ μ Y (114 : Int32)) 19 g_19 rfl rfl rfl rfl (Nat.le_of_ble_eq_true rfl) ⟨Nat.le_of_ble_eq_true rfl, Nat.le_of_ble_eq_true rfl⟩ ⟨rfl, rfl⟩ ⟨Nat.zero_le _, Nat.zero_le _⟩ dX5_readItem_3 ?_
  generalize hr1 : F_X5_skip σ (114 : Int32) = r1
  refine v_if_eq (tgt := 13) C (by decide) dX5_readItem_6 (fun h1 => ?_) (fun h1 => ?_)
  · refine v_aload_n C 0 rfl dX5_readItem_13 ?_
    refine v_bipush (v := (119 : Int32)) C (by decide) dX5_readItem_14 ?_
    refine v_cV1 (rest := []) C mv_RX5_48 (m_X5_skip l G E r1.2 μ Y (119 : Int32)) 19 g_19 rfl rfl rfl rfl (Nat.le_of_ble_eq_true rfl) ⟨Nat.le_of_ble_eq_true rfl, Nat.le_of_ble_eq_true rfl⟩ ⟨rfl, rfl⟩ ⟨Nat.zero_le _, Nat.zero_le _⟩ dX5_readItem_16 ?_
    generalize hr2 : F_X5_skip r1.2 (119 : Int32) = r2
    refine v_if_eq (tgt := 26) C (by decide) dX5_readItem_19 (fun h2 => ?_) (fun h2 => ?_)
    · refine v_iconst (v := (-1 : Int32)) C (by decide) dX5_readItem_26 ?_
      refine v_istore_n (lv' := [(1, .int (-1 : Int32)), (0, .ref (E.1 19))]) C (Nat.le_of_ble_eq_true rfl) rfl dX5_readItem_27 ?_
      refine v_iload_n C 0 rfl dX5_readItem_28 ?_
      refine v_iconst (v := (-1 : Int32)) C (by decide) dX5_readItem_29 ?_
      refine v_icmp_ne (tgt := 35) C (by decide) dX5_readItem_30 (fun h3 => ?_) (fun h3 => ?_)
      · exact absurd (by decide) h3
      · refine v_iconst (v := (0 : Int32)) C (by decide) dX5_readItem_33 ?_
        have e1 : F_X5_readItem σ = ((0 : Int32), r2.2) := by rw [F_X5_readItem]; simp only [hr1, if_pos h1, hr2, if_pos h2]
        exact v_Q hQ (v_zret C rfl () trivial (by rw [e1]) (by rw [e1]) (Nat.zero_le _) (Nat.zero_le _) dX5_readItem_34)
    · refine v_iconst (v := (1 : Int32)) C (by decide) dX5_readItem_22 ?_
      refine v_goto (tgt := 27) C (by decide) dX5_readItem_23 ?_
      refine v_istore_n (lv' := [(1, .int (1 : Int32)), (0, .ref (E.1 19))]) C (Nat.le_of_ble_eq_true rfl) rfl dX5_readItem_27 ?_
      refine v_iload_n C 0 rfl dX5_readItem_28 ?_
      refine v_iconst (v := (-1 : Int32)) C (by decide) dX5_readItem_29 ?_
      refine v_icmp_ne (tgt := 35) C (by decide) dX5_readItem_30 (fun h4 => ?_) (fun h4 => ?_)
      · refine v_aload_n C 1 rfl dX5_readItem_35 ?_
        refine v_iconst (v := (3 : Int32)) C (by decide) dX5_readItem_36 ?_
        refine v_cV1 (rest := []) C mv_RX5_52 (m_X5_readNumber l G E r2.2 μ Y (3 : Int32) (⟨3, by omega, rfl⟩)) 19 g_19 rfl rfl rfl rfl (Nat.le_of_ble_eq_true rfl) ⟨Nat.le_of_ble_eq_true rfl, Nat.le_of_ble_eq_true rfl⟩ ⟨rfl, rfl⟩ ⟨Nat.zero_le _, Nat.zero_le _⟩ dX5_readItem_37 ?_
        generalize hr3 : F_X5_readNumber r2.2 (3 : Int32) = r3
        refine v_istore_n (lv' := [(2, .int r3.1), (1, .int (1 : Int32)), (0, .ref (E.1 19))]) C (Nat.le_of_ble_eq_true rfl) rfl dX5_readItem_40 ?_
        refine v_iload_n C 0 rfl dX5_readItem_41 ?_
        refine v_iconst (v := (-1 : Int32)) C (by decide) dX5_readItem_42 ?_
        refine v_icmp_ne (tgt := 48) C (by decide) dX5_readItem_43 (fun h5 => ?_) (fun h5 => ?_)
        · refine v_aload_n C 2 rfl dX5_readItem_48 ?_
          refine v_bipush (v := (64 : Int32)) C (by decide) dX5_readItem_49 ?_
          refine v_cV1 (rest := []) C mv_RX5_48 (m_X5_skip l G E r3.2 μ Y (64 : Int32)) 19 g_19 rfl rfl rfl rfl (Nat.le_of_ble_eq_true rfl) ⟨Nat.le_of_ble_eq_true rfl, Nat.le_of_ble_eq_true rfl⟩ ⟨rfl, rfl⟩ ⟨Nat.zero_le _, Nat.zero_le _⟩ dX5_readItem_51 ?_
          generalize hr4 : F_X5_skip r3.2 (64 : Int32) = r4
          refine v_if_eq (tgt := 65) C (by decide) dX5_readItem_54 (fun h6 => ?_) (fun h6 => ?_)
          · refine v_iconst (v := (0 : Int32)) C (by decide) dX5_readItem_65 ?_
            refine v_istore_n (lv' := [(3, .int (0 : Int32)), (2, .int r3.1), (1, .int (1 : Int32)), (0, .ref (E.1 19))]) C (Nat.le_of_ble_eq_true rfl) rfl dX5_readItem_66 ?_
            refine v_iload_n C 0 rfl dX5_readItem_67 ?_
            refine v_iconst (v := (-1 : Int32)) C (by decide) dX5_readItem_68 ?_
            refine v_icmp_ne (tgt := 74) C (by decide) dX5_readItem_69 (fun h7 => ?_) (fun h7 => ?_)
            · refine v_aload_n C 3 rfl dX5_readItem_74 ?_
              refine v_iload_n C 2 rfl dX5_readItem_75 ?_
              refine v_iload_n C 1 rfl dX5_readItem_76 ?_
              refine v_iload_n C 0 rfl dX5_readItem_77 ?_
              refine v_cV1 (rest := []) C mv_RX5_56 (m_X5_keepItem l G E r4.2 μ Y (1 : Int32) r3.1 (0 : Int32)) 19 g_19 rfl rfl rfl rfl (Nat.le_of_ble_eq_true rfl) ⟨Nat.le_of_ble_eq_true rfl, Nat.le_of_ble_eq_true rfl⟩ ⟨rfl, rfl⟩ ⟨Nat.zero_le _, Nat.zero_le _⟩ dX5_readItem_78 ?_
              generalize hr5 : F_X5_keepItem r4.2 (1 : Int32) r3.1 (0 : Int32) = r5
              have hz : r5.1 = 0 ∨ r5.1 = 1 := by rw [← hr5]; exact z01_X5_keepItem _ _ _ _
              have e1 : F_X5_readItem σ = (r5.1, r5.2) := by rw [F_X5_readItem]; simp only [hr1, if_pos h1, hr2, if_neg h2, hr3, if_neg h5, hr4, if_pos h6, hr5]
              exact v_Q hQ (v_zret C (nbz (by assumption)) () trivial (by rw [e1]) (by rw [e1]) (Nat.zero_le _) (Nat.zero_le _) dX5_readItem_81)
            · exact absurd h7 (by decide)
          · refine v_aload_n C 2 rfl dX5_readItem_57 ?_
            refine v_iconst (v := (4 : Int32)) C (by decide) dX5_readItem_58 ?_
            refine v_cV1 (rest := []) C mv_RX5_52 (m_X5_readNumber l G E r4.2 μ Y (4 : Int32) (⟨4, by omega, rfl⟩)) 19 g_19 rfl rfl rfl rfl (Nat.le_of_ble_eq_true rfl) ⟨Nat.le_of_ble_eq_true rfl, Nat.le_of_ble_eq_true rfl⟩ ⟨rfl, rfl⟩ ⟨Nat.zero_le _, Nat.zero_le _⟩ dX5_readItem_59 ?_
            generalize hr6 : F_X5_readNumber r4.2 (4 : Int32) = r6
            refine v_goto (tgt := 66) C (by decide) dX5_readItem_62 ?_
            refine v_istore_n (lv' := [(3, .int r6.1), (2, .int r3.1), (1, .int (1 : Int32)), (0, .ref (E.1 19))]) C (Nat.le_of_ble_eq_true rfl) rfl dX5_readItem_66 ?_
            refine v_iload_n C 0 rfl dX5_readItem_67 ?_
            refine v_iconst (v := (-1 : Int32)) C (by decide) dX5_readItem_68 ?_
            refine v_icmp_ne (tgt := 74) C (by decide) dX5_readItem_69 (fun h8 => ?_) (fun h8 => ?_)
            · refine v_aload_n C 3 rfl dX5_readItem_74 ?_
              refine v_iload_n C 2 rfl dX5_readItem_75 ?_
              refine v_iload_n C 1 rfl dX5_readItem_76 ?_
              refine v_iload_n C 0 rfl dX5_readItem_77 ?_
              refine v_cV1 (rest := []) C mv_RX5_56 (m_X5_keepItem l G E r6.2 μ Y (1 : Int32) r3.1 r6.1) 19 g_19 rfl rfl rfl rfl (Nat.le_of_ble_eq_true rfl) ⟨Nat.le_of_ble_eq_true rfl, Nat.le_of_ble_eq_true rfl⟩ ⟨rfl, rfl⟩ ⟨Nat.zero_le _, Nat.zero_le _⟩ dX5_readItem_78 ?_
              generalize hr7 : F_X5_keepItem r6.2 (1 : Int32) r3.1 r6.1 = r7
              have hz : r7.1 = 0 ∨ r7.1 = 1 := by rw [← hr7]; exact z01_X5_keepItem _ _ _ _
              have e1 : F_X5_readItem σ = (r7.1, r7.2) := by rw [F_X5_readItem]; simp only [hr1, if_pos h1, hr2, if_neg h2, hr3, if_neg h5, hr4, if_neg h6, hr6, if_neg h8, hr7]
              exact v_Q hQ (v_zret C (nbz (by assumption)) () trivial (by rw [e1]) (by rw [e1]) (Nat.zero_le _) (Nat.zero_le _) dX5_readItem_81)
            · refine v_iconst (v := (0 : Int32)) C (by decide) dX5_readItem_72 ?_
              have e1 : F_X5_readItem σ = ((0 : Int32), r6.2) := by rw [F_X5_readItem]; simp only [hr1, if_pos h1, hr2, if_neg h2, hr3, if_neg h5, hr4, if_neg h6, hr6, if_pos h8]
              exact v_Q hQ (v_zret C rfl () trivial (by rw [e1]) (by rw [e1]) (Nat.zero_le _) (Nat.zero_le _) dX5_readItem_73)
        · refine v_iconst (v := (0 : Int32)) C (by decide) dX5_readItem_46 ?_
          have e1 : F_X5_readItem σ = ((0 : Int32), r3.2) := by rw [F_X5_readItem]; simp only [hr1, if_pos h1, hr2, if_neg h2, hr3, if_pos h5]
          exact v_Q hQ (v_zret C rfl () trivial (by rw [e1]) (by rw [e1]) (Nat.zero_le _) (Nat.zero_le _) dX5_readItem_47)
      · exact absurd h4 (by decide)
  · refine v_iconst (v := (0 : Int32)) C (by decide) dX5_readItem_9 ?_
    refine v_goto (tgt := 27) C (by decide) dX5_readItem_10 ?_
    refine v_istore_n (lv' := [(1, .int (0 : Int32)), (0, .ref (E.1 19))]) C (Nat.le_of_ble_eq_true rfl) rfl dX5_readItem_27 ?_
    refine v_iload_n C 0 rfl dX5_readItem_28 ?_
    refine v_iconst (v := (-1 : Int32)) C (by decide) dX5_readItem_29 ?_
    refine v_icmp_ne (tgt := 35) C (by decide) dX5_readItem_30 (fun h9 => ?_) (fun h9 => ?_)
    · refine v_aload_n C 1 rfl dX5_readItem_35 ?_
      refine v_iconst (v := (3 : Int32)) C (by decide) dX5_readItem_36 ?_
      refine v_cV1 (rest := []) C mv_RX5_52 (m_X5_readNumber l G E r1.2 μ Y (3 : Int32) (⟨3, by omega, rfl⟩)) 19 g_19 rfl rfl rfl rfl (Nat.le_of_ble_eq_true rfl) ⟨Nat.le_of_ble_eq_true rfl, Nat.le_of_ble_eq_true rfl⟩ ⟨rfl, rfl⟩ ⟨Nat.zero_le _, Nat.zero_le _⟩ dX5_readItem_37 ?_
      generalize hr8 : F_X5_readNumber r1.2 (3 : Int32) = r8
      refine v_istore_n (lv' := [(2, .int r8.1), (1, .int (0 : Int32)), (0, .ref (E.1 19))]) C (Nat.le_of_ble_eq_true rfl) rfl dX5_readItem_40 ?_
      refine v_iload_n C 0 rfl dX5_readItem_41 ?_
      refine v_iconst (v := (-1 : Int32)) C (by decide) dX5_readItem_42 ?_
      refine v_icmp_ne (tgt := 48) C (by decide) dX5_readItem_43 (fun h10 => ?_) (fun h10 => ?_)
      · refine v_aload_n C 2 rfl dX5_readItem_48 ?_
        refine v_bipush (v := (64 : Int32)) C (by decide) dX5_readItem_49 ?_
        refine v_cV1 (rest := []) C mv_RX5_48 (m_X5_skip l G E r8.2 μ Y (64 : Int32)) 19 g_19 rfl rfl rfl rfl (Nat.le_of_ble_eq_true rfl) ⟨Nat.le_of_ble_eq_true rfl, Nat.le_of_ble_eq_true rfl⟩ ⟨rfl, rfl⟩ ⟨Nat.zero_le _, Nat.zero_le _⟩ dX5_readItem_51 ?_
        generalize hr9 : F_X5_skip r8.2 (64 : Int32) = r9
        refine v_if_eq (tgt := 65) C (by decide) dX5_readItem_54 (fun h11 => ?_) (fun h11 => ?_)
        · refine v_iconst (v := (0 : Int32)) C (by decide) dX5_readItem_65 ?_
          refine v_istore_n (lv' := [(3, .int (0 : Int32)), (2, .int r8.1), (1, .int (0 : Int32)), (0, .ref (E.1 19))]) C (Nat.le_of_ble_eq_true rfl) rfl dX5_readItem_66 ?_
          refine v_iload_n C 0 rfl dX5_readItem_67 ?_
          refine v_iconst (v := (-1 : Int32)) C (by decide) dX5_readItem_68 ?_
          refine v_icmp_ne (tgt := 74) C (by decide) dX5_readItem_69 (fun h12 => ?_) (fun h12 => ?_)
          · refine v_aload_n C 3 rfl dX5_readItem_74 ?_
            refine v_iload_n C 2 rfl dX5_readItem_75 ?_
            refine v_iload_n C 1 rfl dX5_readItem_76 ?_
            refine v_iload_n C 0 rfl dX5_readItem_77 ?_
            refine v_cV1 (rest := []) C mv_RX5_56 (m_X5_keepItem l G E r9.2 μ Y (0 : Int32) r8.1 (0 : Int32)) 19 g_19 rfl rfl rfl rfl (Nat.le_of_ble_eq_true rfl) ⟨Nat.le_of_ble_eq_true rfl, Nat.le_of_ble_eq_true rfl⟩ ⟨rfl, rfl⟩ ⟨Nat.zero_le _, Nat.zero_le _⟩ dX5_readItem_78 ?_
            generalize hr10 : F_X5_keepItem r9.2 (0 : Int32) r8.1 (0 : Int32) = r10
            have hz : r10.1 = 0 ∨ r10.1 = 1 := by rw [← hr10]; exact z01_X5_keepItem _ _ _ _
            have e1 : F_X5_readItem σ = (r10.1, r10.2) := by rw [F_X5_readItem]; simp only [hr1, if_neg h1, hr8, if_neg h10, hr9, if_pos h11, hr10]
            exact v_Q hQ (v_zret C (nbz (by assumption)) () trivial (by rw [e1]) (by rw [e1]) (Nat.zero_le _) (Nat.zero_le _) dX5_readItem_81)
          · exact absurd h12 (by decide)
        · refine v_aload_n C 2 rfl dX5_readItem_57 ?_
          refine v_iconst (v := (4 : Int32)) C (by decide) dX5_readItem_58 ?_
          refine v_cV1 (rest := []) C mv_RX5_52 (m_X5_readNumber l G E r9.2 μ Y (4 : Int32) (⟨4, by omega, rfl⟩)) 19 g_19 rfl rfl rfl rfl (Nat.le_of_ble_eq_true rfl) ⟨Nat.le_of_ble_eq_true rfl, Nat.le_of_ble_eq_true rfl⟩ ⟨rfl, rfl⟩ ⟨Nat.zero_le _, Nat.zero_le _⟩ dX5_readItem_59 ?_
          generalize hr11 : F_X5_readNumber r9.2 (4 : Int32) = r11
          refine v_goto (tgt := 66) C (by decide) dX5_readItem_62 ?_
          refine v_istore_n (lv' := [(3, .int r11.1), (2, .int r8.1), (1, .int (0 : Int32)), (0, .ref (E.1 19))]) C (Nat.le_of_ble_eq_true rfl) rfl dX5_readItem_66 ?_
          refine v_iload_n C 0 rfl dX5_readItem_67 ?_
          refine v_iconst (v := (-1 : Int32)) C (by decide) dX5_readItem_68 ?_
          refine v_icmp_ne (tgt := 74) C (by decide) dX5_readItem_69 (fun h13 => ?_) (fun h13 => ?_)
          · refine v_aload_n C 3 rfl dX5_readItem_74 ?_
            refine v_iload_n C 2 rfl dX5_readItem_75 ?_
            refine v_iload_n C 1 rfl dX5_readItem_76 ?_
            refine v_iload_n C 0 rfl dX5_readItem_77 ?_
            refine v_cV1 (rest := []) C mv_RX5_56 (m_X5_keepItem l G E r11.2 μ Y (0 : Int32) r8.1 r11.1) 19 g_19 rfl rfl rfl rfl (Nat.le_of_ble_eq_true rfl) ⟨Nat.le_of_ble_eq_true rfl, Nat.le_of_ble_eq_true rfl⟩ ⟨rfl, rfl⟩ ⟨Nat.zero_le _, Nat.zero_le _⟩ dX5_readItem_78 ?_
            generalize hr12 : F_X5_keepItem r11.2 (0 : Int32) r8.1 r11.1 = r12
            have hz : r12.1 = 0 ∨ r12.1 = 1 := by rw [← hr12]; exact z01_X5_keepItem _ _ _ _
            have e1 : F_X5_readItem σ = (r12.1, r12.2) := by rw [F_X5_readItem]; simp only [hr1, if_neg h1, hr8, if_neg h10, hr9, if_neg h11, hr11, if_neg h13, hr12]
            exact v_Q hQ (v_zret C (nbz (by assumption)) () trivial (by rw [e1]) (by rw [e1]) (Nat.zero_le _) (Nat.zero_le _) dX5_readItem_81)
          · refine v_iconst (v := (0 : Int32)) C (by decide) dX5_readItem_72 ?_
            have e1 : F_X5_readItem σ = ((0 : Int32), r11.2) := by rw [F_X5_readItem]; simp only [hr1, if_neg h1, hr8, if_neg h10, hr9, if_neg h11, hr11, if_pos h13]
            exact v_Q hQ (v_zret C rfl () trivial (by rw [e1]) (by rw [e1]) (Nat.zero_le _) (Nat.zero_le _) dX5_readItem_73)
      · refine v_iconst (v := (0 : Int32)) C (by decide) dX5_readItem_46 ?_
        have e1 : F_X5_readItem σ = ((0 : Int32), r8.2) := by rw [F_X5_readItem]; simp only [hr1, if_neg h1, hr8, if_pos h10]
        exact v_Q hQ (v_zret C rfl () trivial (by rw [e1]) (by rw [e1]) (Nat.zero_le _) (Nat.zero_le _) dX5_readItem_47)
    · exact absurd h9 (by decide)
def L_X5_readItems_2 (σ : Sg) : Nat → Int32 → Sg → Int32 × Sg
  | 0, _, _ => (0, σ)
  | n + 1, x, σ1 => (if (14 : Int32) ≤ x then ((0 : Int32), σ1) else (let r1 := F_X5_readItem σ1; (if r1.1 = 0 then ((0 : Int32), r1.2) else (if (r1.2 19 3) < (r1.2 19 0) then (let r2 := F_X5_skip r1.2 (44 : Int32); (if r2.1 = 0 then ((0 : Int32), r2.2) else L_X5_readItems_2 σ n (x + (1 : Int32)) r2.2)) else ((1 : Int32), r1.2)))))
def F_X5_readItems (σ : Sg) : Int32 × Sg := L_X5_readItems_2 σ 15 (0 : Int32) σ
abbrev rm_X5_readItems : Room := { frames := 3, cells := 0, slots := 0, locals := 68 }
set_option maxRecDepth 100000 in
set_option maxHeartbeats 4000000 in
theorem m_X5_readItems (l : Launch) (G : GG) (E : EE) (σ μ : Sg) (Y : va_W) : KK l G yX5_readItems cX5_readItems 2 (some .boolean) rm_X5_readItems [.ref (E.1 19)] (Wd G E σ μ Y) (some (.int (F_X5_readItems σ).1)) (Wd G E (F_X5_readItems σ).2 μ Y) := by
  refine KE.of (by decide) (Nat.le_of_ble_eq_true rfl) ?_
  intro zp ze zs zm za zb zt zc zA C _
  generalize hQ : MQ zb _ za zs _ _ zA = Q
  have loop_2 : ∀ (n : Nat) (x : Int32) (σ1 : Sg), (∃ j : Nat, x = nI j ∧ j ≤ 14 ∧ j + n = 15) → F_X5_readItems σ = L_X5_readItems_2 σ n x σ1 → V zp l ze rm_X5_readItems zs zm za zb zt zc 2 G zA 0 0 Q 2 [(0, .ref (E.1 19)), (1, .int x)] [] (Wd G E σ1 μ Y) := by
    intro n
    induction n with
    | zero =>
      intro x σ1 hI hL
      exact False.elim (by obtain ⟨j, _, h8, h⟩ := hI; omega)
    | succ n ih =>
      intro x σ1 hI hL
      refine v_iload_n C 1 rfl dX5_readItems_2 ?_
      refine v_bipush (v := (14 : Int32)) C (by decide) dX5_readItems_3 ?_
      refine v_icmp_ge (tgt := 47) C (by decide) dX5_readItems_5 (fun h1 => ?_) (fun h1 => ?_)
      · refine v_iconst (v := (0 : Int32)) C (by decide) dX5_readItems_47 ?_
        have e1 : F_X5_readItems σ = ((0 : Int32), σ1) := by rw [hL, L_X5_readItems_2, if_pos h1]
        exact v_Q hQ (v_zret C rfl () trivial (by rw [e1]) (by rw [e1]) (Nat.zero_le _) (Nat.zero_le _) dX5_readItems_48)
      · refine v_aload_n C 0 rfl dX5_readItems_8 ?_
        refine v_cV1 (rest := []) C mv_RX5_45 (m_X5_readItem l G E σ1 μ Y) 19 g_19 rfl rfl rfl rfl (Nat.le_of_ble_eq_true rfl) ⟨Nat.le_of_ble_eq_true rfl, Nat.le_of_ble_eq_true rfl⟩ ⟨rfl, rfl⟩ ⟨Nat.zero_le _, Nat.zero_le _⟩ dX5_readItems_9 ?_
        generalize hr1 : F_X5_readItem σ1 = r1
        refine v_if_ne (tgt := 17) C (by decide) dX5_readItems_12 (fun h2 => ?_) (fun h2 => ?_)
        · refine v_aload_n C 0 rfl dX5_readItems_17 ?_
          refine v_get (v := .int (r1.2 19 3)) C fl_RX5_35 19 g_19 rfl dX5_readItems_18 ?_
          refine v_aload_n C 0 rfl dX5_readItems_21 ?_
          refine v_get (v := .int (r1.2 19 0)) C fl_RX5_28 19 g_19 rfl dX5_readItems_22 ?_
          refine v_icmp_lt (tgt := 30) C (by decide) dX5_readItems_25 (fun h3 => ?_) (fun h3 => ?_)
          · refine v_aload_n C 0 rfl dX5_readItems_30 ?_
            refine v_bipush (v := (44 : Int32)) C (by decide) dX5_readItems_31 ?_
            refine v_cV1 (rest := []) C mv_RX5_48 (m_X5_skip l G E r1.2 μ Y (44 : Int32)) 19 g_19 rfl rfl rfl rfl (Nat.le_of_ble_eq_true rfl) ⟨Nat.le_of_ble_eq_true rfl, Nat.le_of_ble_eq_true rfl⟩ ⟨rfl, rfl⟩ ⟨Nat.zero_le _, Nat.zero_le _⟩ dX5_readItems_33 ?_
            generalize hr2 : F_X5_skip r1.2 (44 : Int32) = r2
            refine v_if_ne (tgt := 41) C (by decide) dX5_readItems_36 (fun h4 => ?_) (fun h4 => ?_)
            · refine v_iinc (v := x + (1 : Int32)) (lv' := [(1, .int (x + (1 : Int32))), (0, .ref (E.1 19))]) C 1 rfl rfl (Nat.le_of_ble_eq_true rfl) rfl dX5_readItems_41 ?_
              refine v_goto (tgt := 2) C (by decide) dX5_readItems_44 ?_
              refine v_lv [1, 0] rfl ?_
              exact ih (x + (1 : Int32)) r2.2 (up_step (B := 14) rfl (by decide) hI h1) (by rw [hL, L_X5_readItems_2]; simp only [if_neg h1, hr1, if_neg h2, if_pos h3, hr2, if_neg h4])
            · refine v_iconst (v := (0 : Int32)) C (by decide) dX5_readItems_39 ?_
              have e1 : F_X5_readItems σ = ((0 : Int32), r2.2) := by rw [hL, L_X5_readItems_2]; simp only [if_neg h1, hr1, if_neg h2, if_pos h3, hr2, if_pos h4]
              exact v_Q hQ (v_zret C rfl () trivial (by rw [e1]) (by rw [e1]) (Nat.zero_le _) (Nat.zero_le _) dX5_readItems_40)
          · refine v_iconst (v := (1 : Int32)) C (by decide) dX5_readItems_28 ?_
            have e1 : F_X5_readItems σ = ((1 : Int32), r1.2) := by rw [hL, L_X5_readItems_2]; simp only [if_neg h1, hr1, if_neg h2, if_neg h3]
            exact v_Q hQ (v_zret C rfl () trivial (by rw [e1]) (by rw [e1]) (Nat.zero_le _) (Nat.zero_le _) dX5_readItems_29)
        · refine v_iconst (v := (0 : Int32)) C (by decide) dX5_readItems_15 ?_
          have e1 : F_X5_readItems σ = ((0 : Int32), r1.2) := by rw [hL, L_X5_readItems_2]; simp only [if_neg h1, hr1, if_pos h2]
          exact v_Q hQ (v_zret C rfl () trivial (by rw [e1]) (by rw [e1]) (Nat.zero_le _) (Nat.zero_le _) dX5_readItems_16)
  show V zp l ze rm_X5_readItems zs zm za zb zt zc 2 G zA 0 0 Q 0 [(0, .ref (E.1 19))] [] (Wd G E σ μ Y)
  refine v_iconst (v := (0 : Int32)) C (by decide) dX5_readItems_0 ?_
  refine v_istore_n (lv' := [(1, .int (0 : Int32)), (0, .ref (E.1 19))]) C (Nat.le_of_ble_eq_true rfl) rfl dX5_readItems_1 ?_
  refine v_lv [1, 0] rfl ?_
  exact loop_2 15 (0 : Int32) σ (⟨0, rfl, by omega, by omega⟩) (by rw [F_X5_readItems])
theorem L_readItems01 {σ : Sg} : ∀ (n : Nat) (x : Int32) (σ1 : Sg), (L_X5_readItems_2 σ n x σ1).1 = 0 ∨ (L_X5_readItems_2 σ n x σ1).1 = 1 := by
  intro n
  induction n with
  | zero => intro x σ1; exact Or.inl rfl
  | succ n ih =>
    intro x σ1
    rw [L_X5_readItems_2]
    simp only []
    (repeat' split) <;> first | exact Or.inl rfl | exact Or.inr rfl | exact ih _ _
theorem z01_X5_readItems (σ : Sg) : (F_X5_readItems σ).1 = 0 ∨ (F_X5_readItems σ).1 = 1 := by unfold F_X5_readItems; exact L_readItems01 _ _ _
def F_X5_read (σ : Sg) : Int32 × Sg := (let r1 := F_X5_readItems (s2 (s2 σ 19 3 (0 : Int32)) 19 2 (0 : Int32)); (if r1.1 = 0 then (r1.1, (s2 (s2 r1.2 19 1 (r1.2 19 3)) 19 0 (0 : Int32))) else (r1.1, (s2 (s2 r1.2 19 1 (-1 : Int32)) 19 0 (0 : Int32)))))
theorem z01_X5_read (σ : Sg) : (F_X5_read σ).1 = 0 ∨ (F_X5_read σ).1 = 1 := by
  have h := z01_X5_readItems (s2 (s2 σ 19 3 (0 : Int32)) 19 2 (0 : Int32)); unfold F_X5_read; generalize F_X5_readItems _ = r at h ⊢; simp only []; split <;> exact h
abbrev rm_X5_read : Room := { frames := 4, cells := 0, slots := 0, locals := 89 }
set_option maxRecDepth 100000 in
set_option maxHeartbeats 4000000 in
theorem m_X5_read (l : Launch) (G : GG) (E : EE) (σ μ : Sg) (Y : va_W) : KK l G yX5_read cX5_read 2 (some .boolean) rm_X5_read [.ref (E.1 19)] (Wd G E σ μ Y) (some (.int (F_X5_read σ).1)) (Wd G E (F_X5_read σ).2 μ Y) := by
  refine KE.of (by decide) (Nat.le_of_ble_eq_true rfl) ?_
  intro zp ze zs zm za zb zt zc zA C _
  generalize hQ : MQ zb _ za zs _ _ zA = Q
  show V zp l ze rm_X5_read zs zm za zb zt zc 2 G zA 0 0 Q 0 [(0, .ref (E.1 19))] [] (Wd G E σ μ Y)
  refine v_aload_n C 0 rfl dX5_read_0 ?_
  refine v_iconst (v := (0 : Int32)) C (by decide) dX5_read_1 ?_
  refine v_put C fp_RX5_35 19 g_19 rfl rfl (Nat.le_of_ble_eq_true rfl) (p_19_6 _) dX5_read_2 ?_
  refine v_aload_n C 0 rfl dX5_read_5 ?_
  refine v_iconst (v := (0 : Int32)) C (by decide) dX5_read_6 ?_
  refine v_put C fp_RX5_38 19 g_19 rfl rfl (Nat.le_of_ble_eq_true rfl) (p_19_2 _) dX5_read_7 ?_
  refine v_aload_n C 0 rfl dX5_read_10 ?_
  refine v_cV1 (rest := []) C mv_RX5_41 (m_X5_readItems l G E (s2 (s2 σ 19 3 (0 : Int32)) 19 2 (0 : Int32)) μ Y) 19 g_19 rfl rfl rfl rfl (Nat.le_of_ble_eq_true rfl) ⟨Nat.le_of_ble_eq_true rfl, Nat.le_of_ble_eq_true rfl⟩ ⟨rfl, rfl⟩ ⟨Nat.zero_le _, Nat.zero_le _⟩ dX5_read_11 ?_
  generalize hr1 : F_X5_readItems (s2 (s2 σ 19 3 (0 : Int32)) 19 2 (0 : Int32)) = r1
  have hz : r1.1 = 0 ∨ r1.1 = 1 := by rw [← hr1]; exact z01_X5_readItems _
  refine v_istore_n (lv' := [(1, .int r1.1), (0, .ref (E.1 19))]) C (Nat.le_of_ble_eq_true rfl) rfl dX5_read_14 ?_
  refine v_aload_n C 1 rfl dX5_read_15 ?_
  refine v_iload_n C 0 rfl dX5_read_16 ?_
  refine v_if_eq (tgt := 24) C (by decide) dX5_read_17 (fun h1 => ?_) (fun h1 => ?_)
  · refine v_aload_n C 1 rfl dX5_read_24 ?_
    refine v_get (v := .int (r1.2 19 3)) C fl_RX5_35 19 g_19 rfl dX5_read_25 ?_
    refine v_put C fp_RX5_9 19 g_19 rfl rfl (Nat.le_of_ble_eq_true rfl) (p_19_1 _) dX5_read_28 ?_
    refine v_aload_n C 1 rfl dX5_read_31 ?_
    refine v_iconst (v := (0 : Int32)) C (by decide) dX5_read_32 ?_
    refine v_put C fp_RX5_28 19 g_19 rfl rfl (Nat.le_of_ble_eq_true rfl) (p_19_0 _) dX5_read_33 ?_
    refine v_iload_n C 0 rfl dX5_read_36 ?_
    have e1 : F_X5_read σ = (r1.1, (s2 (s2 r1.2 19 1 (r1.2 19 3)) 19 0 (0 : Int32))) := by rw [F_X5_read]; simp only [hr1, if_pos h1]
    exact v_Q hQ (v_zret C (nbz (by assumption)) () trivial (by rw [e1]) (by rw [e1]) (Nat.zero_le _) (Nat.zero_le _) dX5_read_37)
  · refine v_iconst (v := (-1 : Int32)) C (by decide) dX5_read_20 ?_
    refine v_goto (tgt := 28) C (by decide) dX5_read_21 ?_
    refine v_put C fp_RX5_9 19 g_19 rfl rfl (Nat.le_of_ble_eq_true rfl) (p_19_1 _) dX5_read_28 ?_
    refine v_aload_n C 1 rfl dX5_read_31 ?_
    refine v_iconst (v := (0 : Int32)) C (by decide) dX5_read_32 ?_
    refine v_put C fp_RX5_28 19 g_19 rfl rfl (Nat.le_of_ble_eq_true rfl) (p_19_0 _) dX5_read_33 ?_
    refine v_iload_n C 0 rfl dX5_read_36 ?_
    have e1 : F_X5_read σ = (r1.1, (s2 (s2 r1.2 19 1 (-1 : Int32)) 19 0 (0 : Int32))) := by rw [F_X5_read]; simp only [hr1, if_neg h1]
    exact v_Q hQ (v_zret C (nbz (by assumption)) () trivial (by rw [e1]) (by rw [e1]) (Nat.zero_le _) (Nat.zero_le _) dX5_read_37)
