theorem key_KR {σ μ : Sg} (h : SIM σ μ) (ha : AR (μ 25)) {m : Nat} (hm : m ≤ 80) (em : μ 25 12 = nI m) {pol : Int32} (hpol : pol = if μ 25 4 = 6 then 4 else μ 25 4) : ∃ A B : Nat, A ≤ B ∧ B ≤ 100000 ∧ ∀ i, i < m → KR A B (F_X7_keyOf σ i) (F_X10_keyOf μ (nI i) pol) := by
  obtain ⟨p, hp, ep⟩ := ha.2.2.1
  have e7 : σ 7 0 = nI p := h.1.2.2.2.2.1.1.trans ep
  have eup : σ 7 1 = μ 25 10 := h.1.2.2.2.2.1.2.1
  have hup := h.1.2.2.2.2.1.2.2.2.2
  have e5 : σ 2 5 = μ 25 9 := h.1.1.2.1.2.1
  have harm : cyl (μ 25 9) := h.1.2.1.2.2.1
  have hbk : ∀ i, i < m → blk (μ 25 (110 + i)) := fun i hi => h.1.2.1.2.2.2.2.2 i (by omega)
  have e40 : ∀ i, i < m → σ 40 i = μ 25 (110 + i) := fun i hi => ((h.1.2.2.2.1.2 m hm em).2 i hi).1
  have hpl : ∀ i, i < m → plc (F_X10_place μ (μ 25 (110 + i))) := fun i hi => place_plc (μ := μ) h.1.2.1.1 (hbk i hi)
  have t110 : ∀ i, i < m → ((110 : Int32) + nI i).toNatClampNeg = 110 + i := fun i hi => tnA (c := 110) (by omega)
  have ecy : ∀ i, i < m → F_X2_cylinderOfPlace (F_X1_placeOfBlock σ (σ 40 i)) = F_X10_cylinder μ (nI i) := fun i hi => by
    unfold F_X10_cylinder
    rw [e40 i hi, t110 i hi, place_eq h.1.1 h.1.2.1.1, geoC (hpl i hi)]
  have hcy : ∀ i, i < m → cyl (F_X10_cylinder μ (nI i)) := fun i hi => by
    unfold F_X10_cylinder
    rw [t110 i hi]
    exact geo_c (hpl i hi)
  have edi : ∀ i, i < m → ∃ d : Nat, d ≤ 63 ∧ F_X10_distance μ (nI i) = nI d ∧ (if 0 ≤ F_X10_cylinder μ (nI i) - μ 25 9 then F_X10_cylinder μ (nI i) - μ 25 9 else 0 - (F_X10_cylinder μ (nI i) - μ 25 9)) = nI d := fun i hi => by
    obtain ⟨d, hd, ed⟩ := dist_rng (hcy i hi) harm
    refine ⟨d, hd, ed, ?_⟩
    rw [← ed]
    split
    · rfl
    · exact Int32.zero_sub _
  have etk : ∀ i, i < m → ∃ t : Nat, t ≤ 916 ∧ F_X1_ticksToAccess σ (F_X1_placeOfBlock σ (σ 40 i)) = nI t ∧ F_X10_takes μ (μ 25 ((110 : Int32) + nI i).toNatClampNeg) = nI t := fun i hi => by
    obtain ⟨t, ht, et⟩ := takes_rng h (hbk i hi)
    refine ⟨t, ht, ?_, by rw [t110 i hi]; exact et⟩
    rw [e40 i hi, takes_eq h.1.1 h.1.2.2.1 harm h.1.2.1.1 (hpl i hi), et]
  have eah : ∀ i, i < m → F_X7_isAhead σ (F_X10_cylinder μ (nI i)) (μ 25 9) = F_X10_isAhead μ (nI i) := fun i hi => by
    unfold F_X7_isAhead F_X10_isAhead
    rw [eup]
    rcases hup with q | q
    · rw [q, if_pos rfl, if_neg (show ¬ (0 : Int32) = 1 by decide)]
    · rw [q, if_neg (show ¬ (1 : Int32) = 0 by decide), if_pos rfl]
  have kk : ∀ i, i < m → F_X7_keyOf σ i = (if (σ 7 0) = (0 : Int32) then nI i else (if (σ 7 0) = (1 : Int32) then F_X10_distance μ (nI i) else (if (σ 7 0) = (2 : Int32) then (if F_X10_isAhead μ (nI i) = 0 then (64 : Int32) + F_X10_distance μ (nI i) else F_X10_distance μ (nI i)) else (if (σ 7 0) = (3 : Int32) then (if F_X10_cylinder μ (nI i) < μ 25 9 then (64 : Int32) + F_X10_cylinder μ (nI i) else F_X10_distance μ (nI i)) else (if (σ 7 0) = (4 : Int32) then F_X10_takes μ (μ 25 ((110 : Int32) + nI i).toNatClampNeg) else (if (σ 7 0) = (5 : Int32) then (F_X10_bucketOf μ (nI i)) * (10000 : Int32) + F_X10_takes μ (μ 25 ((110 : Int32) + nI i).toNatClampNeg) else F_X10_takes μ (μ 25 ((110 : Int32) + nI i).toNatClampNeg))))))) := fun i hi => by
    obtain ⟨d, hd, ed, ed2⟩ := edi i hi
    obtain ⟨t, ht, et, et2⟩ := etk i hi
    unfold F_X7_keyOf
    rw [ecy i hi, e5, ed2, ed, et, et2, eah i hi, bucket_eq h ha hm em hi]
  have one : ∀ {A B : Nat} {x y : Int32} (t : Nat), t < A → x = nI t → y = nI t → KR A B x y := fun {A B x y} t ht ex ey => ⟨0, t, by omega, ht, by rw [ex, Nat.mul_zero, Nat.zero_add], by rw [ey, Nat.mul_zero, Nat.zero_add]⟩
  have two : ∀ {A B : Nat} {x y : Int32} (t : Nat), t < A → x = nI (A + t) → y = nI (B + t) → KR A B x y := fun {A B x y} t ht ex ey => ⟨1, t, by omega, ht, by rw [ex, Nat.mul_one], by rw [ey, Nat.mul_one]⟩
  have hp7 : p = 0 ∨ p = 1 ∨ p = 2 ∨ p = 3 ∨ p = 4 ∨ p = 5 ∨ p = 6 := by omega
  rw [ep] at hpol
  rcases hp7 with rfl | rfl | rfl | rfl | rfl | rfl | rfl
  · rw [if_neg (show ¬ nI 0 = (6 : Int32) by decide), show nI 0 = (0 : Int32) from rfl] at hpol
    subst hpol
    refine ⟨10000, 100000, by omega, by omega, fun i hi => one i (by omega) ?_ ?_⟩
    · rw [kk i hi, e7, if_pos (show nI 0 = (0 : Int32) by decide)]
    · unfold F_X10_keyOf; rw [if_pos (show (0 : Int32) = (0 : Int32) by decide)]
  · rw [if_neg (show ¬ nI 1 = (6 : Int32) by decide), show nI 1 = (1 : Int32) from rfl] at hpol
    subst hpol
    refine ⟨10000, 100000, by omega, by omega, fun i hi => ?_⟩
    obtain ⟨d, hd, ed, ed2⟩ := edi i hi
    refine one d (by omega) ?_ ?_
    · rw [kk i hi, e7, if_neg (show ¬ nI 1 = (0 : Int32) by decide), if_pos (show nI 1 = (1 : Int32) by decide)]; exact ed
    · unfold F_X10_keyOf; rw [if_neg (show ¬ (1 : Int32) = (0 : Int32) by decide), if_pos (show (1 : Int32) = (1 : Int32) by decide)]; exact ed
  · rw [if_neg (show ¬ nI 2 = (6 : Int32) by decide), show nI 2 = (2 : Int32) from rfl] at hpol
    subst hpol
    refine ⟨64, 1000, by omega, by omega, fun i hi => ?_⟩
    obtain ⟨d, hd, ed, ed2⟩ := edi i hi
    unfold F_X10_keyOf
    rw [kk i hi, e7, if_neg (show ¬ nI 2 = (0 : Int32) by decide), if_neg (show ¬ nI 2 = (1 : Int32) by decide), if_pos (show nI 2 = (2 : Int32) by decide), if_neg (show ¬ (2 : Int32) = (0 : Int32) by decide), if_neg (show ¬ (2 : Int32) = (1 : Int32) by decide), if_pos (show (2 : Int32) = (2 : Int32) by decide), ed]
    split
    · exact two d (by omega) (nI_add 64 d) (nI_add 1000 d)
    · exact one d (by omega) rfl rfl
  · rw [if_neg (show ¬ nI 3 = (6 : Int32) by decide), show nI 3 = (3 : Int32) from rfl] at hpol
    subst hpol
    refine ⟨64, 1000, by omega, by omega, fun i hi => ?_⟩
    obtain ⟨d, hd, ed, ed2⟩ := edi i hi
    unfold F_X10_keyOf
    rw [kk i hi, e7, if_neg (show ¬ nI 3 = (0 : Int32) by decide), if_neg (show ¬ nI 3 = (1 : Int32) by decide), if_neg (show ¬ nI 3 = (2 : Int32) by decide), if_pos (show nI 3 = (3 : Int32) by decide), if_neg (show ¬ (3 : Int32) = (0 : Int32) by decide), if_neg (show ¬ (3 : Int32) = (1 : Int32) by decide), if_neg (show ¬ (3 : Int32) = (2 : Int32) by decide), if_pos (show (3 : Int32) = (3 : Int32) by decide), ed]
    obtain ⟨c, hc, ec⟩ := hcy i hi
    split
    · rw [ec]; exact two c (by omega) (nI_add 64 c) (nI_add 1000 c)
    · exact one d (by omega) rfl rfl
  · rw [if_neg (show ¬ nI 4 = (6 : Int32) by decide), show nI 4 = (4 : Int32) from rfl] at hpol
    subst hpol
    refine ⟨10000, 100000, by omega, by omega, fun i hi => ?_⟩
    obtain ⟨t, ht, et, et2⟩ := etk i hi
    refine one t (by omega) ?_ ?_
    · rw [kk i hi, e7, if_neg (show ¬ nI 4 = (0 : Int32) by decide), if_neg (show ¬ nI 4 = (1 : Int32) by decide), if_neg (show ¬ nI 4 = (2 : Int32) by decide), if_neg (show ¬ nI 4 = (3 : Int32) by decide), if_pos (show nI 4 = (4 : Int32) by decide)]; exact et2
    · unfold F_X10_keyOf; rw [if_neg (show ¬ (4 : Int32) = (0 : Int32) by decide), if_neg (show ¬ (4 : Int32) = (1 : Int32) by decide), if_neg (show ¬ (4 : Int32) = (2 : Int32) by decide), if_neg (show ¬ (4 : Int32) = (3 : Int32) by decide), if_pos (show (4 : Int32) = (4 : Int32) by decide)]; exact et2
  · rw [if_neg (show ¬ nI 5 = (6 : Int32) by decide), show nI 5 = (5 : Int32) from rfl] at hpol
    subst hpol
    refine ⟨10000, 100000, by omega, by omega, fun i hi => ?_⟩
    obtain ⟨t, ht, et, et2⟩ := etk i hi
    obtain ⟨b, hb, eb⟩ := bucket_rng h ha hm em hi
    unfold F_X10_keyOf
    rw [kk i hi, e7, if_neg (show ¬ nI 5 = (0 : Int32) by decide), if_neg (show ¬ nI 5 = (1 : Int32) by decide), if_neg (show ¬ nI 5 = (2 : Int32) by decide), if_neg (show ¬ nI 5 = (3 : Int32) by decide), if_neg (show ¬ nI 5 = (4 : Int32) by decide), if_pos (show nI 5 = (5 : Int32) by decide), if_neg (show ¬ (5 : Int32) = (0 : Int32) by decide), if_neg (show ¬ (5 : Int32) = (1 : Int32) by decide), if_neg (show ¬ (5 : Int32) = (2 : Int32) by decide), if_neg (show ¬ (5 : Int32) = (3 : Int32) by decide), if_neg (show ¬ (5 : Int32) = (4 : Int32) by decide), et2, eb]
    refine ⟨b, t, hb, by omega, ?_, ?_⟩
    · rw [show (10000 : Int32) = nI 10000 from rfl, nI_mulN, nI_add, Nat.mul_comm]
    · rw [show (100000 : Int32) = nI 100000 from rfl, nI_mulN, nI_add]
  · rw [if_pos (show nI 6 = (6 : Int32) by decide)] at hpol
    subst hpol
    refine ⟨10000, 100000, by omega, by omega, fun i hi => ?_⟩
    obtain ⟨t, ht, et, et2⟩ := etk i hi
    refine one t (by omega) ?_ ?_
    · rw [kk i hi, e7, if_neg (show ¬ nI 6 = (0 : Int32) by decide), if_neg (show ¬ nI 6 = (1 : Int32) by decide), if_neg (show ¬ nI 6 = (2 : Int32) by decide), if_neg (show ¬ nI 6 = (3 : Int32) by decide), if_neg (show ¬ nI 6 = (4 : Int32) by decide), if_neg (show ¬ nI 6 = (5 : Int32) by decide)]; exact et2
    · unfold F_X10_keyOf; rw [if_neg (show ¬ (4 : Int32) = (0 : Int32) by decide), if_neg (show ¬ (4 : Int32) = (1 : Int32) by decide), if_neg (show ¬ (4 : Int32) = (2 : Int32) by decide), if_neg (show ¬ (4 : Int32) = (3 : Int32) by decide), if_pos (show (4 : Int32) = (4 : Int32) by decide)]; exact et2
theorem choose_L {σ0 σ μ : Sg} (h : SIM σ μ) {m : Nat} (hm : m ≤ 80) (em : μ 25 12 = nI m) {pol : Int32} {A B : Nat} (hA : A ≤ B) (hB : B ≤ 100000) (hk : ∀ i, i < m → KR A B (F_X7_keyOf σ i) (F_X10_keyOf μ (nI i) pol)) : ∀ (n x : Nat) (ch lk bs : Int32), x + n = 81 → x ≤ m → ((ch = -1 ∧ bs = -1 ∧ lk = 1000000000) ∨ ∃ j, j < m ∧ ch = nI j ∧ bs = nI j ∧ lk = F_X7_keyOf σ j) → L_X7_choose_52 σ0 n ch lk (nI x) σ = (L_X10_least_4 μ pol n bs (nI x), σ) := by
  have e5 : σ 5 0 = nI m := h.1.2.2.2.1.1.trans em
  intro n
  induction n with
  | zero => intro x ch lk bs h1 h2; omega
  | succ n ih =>
    intro x ch lk bs h1 h2 hI
    rw [L_X7_choose_52, L_X10_least_4, e5, em]
    by_cases c1 : nI m ≤ nI x
    · rw [if_pos c1, if_pos c1]
      rcases hI with ⟨q1, q2, q3⟩ | ⟨j, hj, q1, q2, q3⟩
      · rw [q1, q2]
      · rw [q1, q2]
    have hx := gt_of_nle (x := nI m) (y := nI x) rfl rfl (by omega) (by omega) c1
    rw [if_neg c1, if_neg c1, nI_1 x]
    have e44 : σ 44 x = μ 25 (350 + x) := ((h.1.2.2.2.1.2 m hm em).2 x hx).2.2.2.2
    have ef : F_X6_find σ (nI x) = some x := by
      unfold F_X6_find
      rw [if_neg (nI_nlt0 (by omega)), e5, if_neg c1, if_neg (by rw [show (80 : Int32) = nI 80 from rfl, nI_leI (by omega) (by omega)]; omega), nI_clamp (by omega)]
    have ip : F_X10_isPending μ (nI x) = if μ 25 (350 + x) = 0 then 1 else 0 := by
      unfold F_X10_isPending; rw [show ((350 : Int32) + nI x).toNatClampNeg = 350 + x from tnA (c := 350) (by omega)]
    have ep : F_X6_findPending σ (nI x) = if μ 25 (350 + x) = 0 then some x else none := by
      unfold F_X6_findPending; rw [ef]; show (if σ 44 x = 0 then some x else none) = _; rw [e44]
    rw [ip, ep]
    by_cases c2 : μ 25 (350 + x) = 0
    · rw [if_pos c2, if_pos c2, if_neg (show ¬ (1 : Int32) = 0 by decide)]
      show (if lk ≤ F_X7_keyOf σ x then _ else _) = _
      rcases hI with ⟨q1, q2, q3⟩ | ⟨j, hj, q1, q2, q3⟩
      · rw [q3, if_neg (KR.big (by omega) (hk x hx)), q2, if_pos (show (-1 : Int32) < 0 by decide)]
        exact ih (x + 1) _ _ _ (by omega) (by omega) (Or.inr ⟨x, hx, rfl, rfl, rfl⟩)
      · rw [q2, if_neg (nI_nlt0 (by omega))]
        have le := KR.le hA hB (hk j hj) (hk x hx)
        by_cases c3 : F_X7_keyOf σ j ≤ F_X7_keyOf σ x
        · rw [q3, if_pos c3, if_pos (le.mp c3)]
          exact ih (x + 1) _ _ _ (by omega) (by omega) (Or.inr ⟨j, hj, q1, rfl, rfl⟩)
        · rw [q3, if_neg c3, if_neg (fun z => c3 (le.mpr z))]
          exact ih (x + 1) _ _ _ (by omega) (by omega) (Or.inr ⟨x, hx, rfl, rfl, rfl⟩)
    · rw [if_neg c2, if_neg c2, if_pos rfl]
      show (if lk ≤ (1000000000 : Int32) then _ else _) = _
      rw [if_pos]
      · exact ih (x + 1) _ _ _ (by omega) (by omega) hI
      · rcases hI with ⟨q1, q2, q3⟩ | ⟨j, hj, q1, q2, q3⟩
        · rw [q3]; exact Int32.le_refl _
        · rw [q3]; exact Int32.le_of_lt (Int32.not_le.mp (KR.big (by omega) (hk j hj)))
theorem least_eq {σ0 σ μ : Sg} (h : SIM σ μ) (ha : AR (μ 25)) {pol : Int32} (hpol : pol = if μ 25 4 = 6 then 4 else μ 25 4) : L_X7_choose_52 σ0 81 (-1) 1000000000 0 σ = (F_X10_least μ pol, σ) := by
  obtain ⟨m, hm, em⟩ := h.1.2.1.2.1
  obtain ⟨A, B, hA, hB, hk⟩ := key_KR h ha hm em hpol
  exact choose_L h hm em hA hB hk 81 0 (-1) 1000000000 (-1) (by omega) (by omega) (Or.inl ⟨rfl, rfl, rfl⟩)
