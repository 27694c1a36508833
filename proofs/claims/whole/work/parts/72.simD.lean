/-- what else holds of the reference's numbers -/
def AR (g : Nat → Int32) : Prop := (∃ w : Nat, 1 ≤ w ∧ w ≤ 999 ∧ g 5 = nI w) ∧ (∃ a : Nat, 1 ≤ a ∧ a ≤ 9999 ∧ g 6 = nI a) ∧ (∃ p : Nat, p ≤ 6 ∧ g 4 = nI p) ∧ ∀ m : Nat, m ≤ 80 → g 12 = nI m → pcnt g m ≤ 12 ∧ ∀ i, i < m → (∃ a : Nat, a < 2 ^ 31 ∧ g (190 + i) = nI a ∧ (a : Int) ≤ (g 8).toInt) ∧ (g (270 + i) = -1 ∨ ∃ d : Nat, d ≤ 300000 ∧ g (270 + i) = nI d)
theorem AR.same {g g' : Nat → Int32} (h : AR g) (h5 : g' 5 = g 5) (h6 : g' 6 = g 6) (h4 : g' 4 = g 4) (h12 : g' 12 = g 12) (h8 : (g 8).toInt ≤ (g' 8).toInt) (hr : ∀ i, 190 ≤ i → i < 350 → g' i = g i) (hs : ∀ m, m ≤ 80 → pcnt g' m ≤ pcnt g m) : AR g' := by
  obtain ⟨a1, a2, a3, a4⟩ := h
  refine ⟨by rw [h5]; exact a1, by rw [h6]; exact a2, by rw [h4]; exact a3, fun m hm em => ?_⟩
  rw [h12] at em
  obtain ⟨b1, b2⟩ := a4 m hm em
  refine ⟨Nat.le_trans (hs m hm) b1, fun i hi => ?_⟩
  obtain ⟨⟨a, ha, ea, la⟩, d⟩ := b2 i hi
  rw [hr (190 + i) (by omega) (by omega), hr (270 + i) (by omega) (by omega)]
  exact ⟨⟨a, ha, ea, by omega⟩, d⟩
theorem i32lt {x y : Int32} : x < y ↔ x.toInt < y.toInt := Int32.lt_iff_toInt_lt
theorem i32le {x y : Int32} : x ≤ y ↔ x.toInt ≤ y.toInt := Int32.le_iff_toInt_le
theorem find_isR {σ μ : Sg} {n : Int32} (h : SIM σ μ) : (F_X6_find σ n = none ∧ F_X10_isRequest μ n = 0) ∨ ∃ m i : Nat, m ≤ 80 ∧ μ 25 12 = nI m ∧ i < m ∧ n = nI i ∧ F_X6_find σ n = some i ∧ F_X10_isRequest μ n = 1 ∧ (σ 40 i = μ 25 (110 + i) ∧ σ 41 i = μ 25 (190 + i) ∧ σ 42 i = μ 25 (270 + i) ∧ (μ 25 (350 + i) = 1 → σ 43 i = μ 25 (430 + i)) ∧ σ 44 i = μ 25 (350 + i)) := by
  obtain ⟨m, hm, em⟩ := h.1.2.1.2.1
  have e5 : σ 5 0 = nI m := h.1.2.2.2.1.1.trans em
  have q4 := (h.1.2.2.2.1.2 m hm em).2
  have hs : (nI m - 1).toInt = (m : Int) - 1 := by rw [Int32.toInt_sub, nI_toInt (by omega), show (1 : Int32).toInt = 1 by decide, bm32 (by omega) (by omega)]
  unfold F_X6_find F_X10_isRequest F_X10_in
  rw [e5, em]
  by_cases c1 : n < 0
  · exact Or.inl ⟨by rw [if_pos c1], by rw [if_pos c1]⟩
  · obtain ⟨j, hj, ej, ec⟩ := nI_nn c1
    rw [if_neg c1, if_neg c1]
    by_cases c2 : j < m
    · refine Or.inr ⟨m, j, hm, rfl, c2, ej, ?_, ?_, q4 j c2⟩
      · rw [ej, if_neg (by rw [nI_leI (by omega) (by omega)]; omega), if_neg (by rw [show (80 : Int32) = nI 80 from rfl, nI_leI (by omega) (by omega)]; omega), nI_clamp (by omega)]
      · rw [if_neg (by rw [i32lt, hs, ej, nI_toInt (by omega)]; omega)]
    · refine Or.inl ⟨?_, ?_⟩
      · rw [ej, if_pos (by rw [nI_leI (by omega) (by omega)]; omega)]
      · rw [if_pos (by rw [i32lt, hs, ej, nI_toInt (by omega)]; omega)]
theorem S_state {σ μ : Sg} {n : Int32} (h : SIM σ μ) : hcd [3] (X_X9_state σ n) = (F_X10_state μ n).2 24 1 ∧ (X_X9_state σ n = 0 → F_X9_state σ n = (F_X10_state μ n).1) ∧ SIM σ (F_X10_state μ n).2 := by
  unfold X_X9_state F_X9_state F_X10_state
  rcases find_isR (n := n) (h.t 0) with ⟨e1, e2⟩ | ⟨m, i, hm, em, hi, rfl, e1, e2, e40, e41, e42, e43, e44⟩
  · rw [e1, if_pos e2]; exact ⟨rfl, fun h0 => absurd (show (3 : Nat) = 0 from h0) (by decide), (h.t 0).t 1⟩
  · rw [e1, if_neg (by rw [e2]; decide), show ((350 : Int32) + nI i).toNatClampNeg = 350 + i from tnA (c := 350) (by omega)]
    exact ⟨rfl, fun _ => e44, h.t 0⟩
theorem S_finish {σ μ : Sg} {n : Int32} (h : SIM σ μ) : hcd [3, 2] (X_X9_finish σ n) = (F_X10_finish μ n).2 24 1 ∧ (X_X9_finish σ n = 0 → F_X9_finish σ n = (F_X10_finish μ n).1) ∧ SIM σ (F_X10_finish μ n).2 := by
  unfold X_X9_finish F_X9_finish F_X10_finish
  rcases find_isR (n := n) (h.t 0) with ⟨e1, e2⟩ | ⟨m, i, hm, em, hi, rfl, e1, e2, e40, e41, e42, e43, e44⟩
  · rw [e1, if_pos e2]; exact ⟨rfl, fun h0 => absurd (show (3 : Nat) = 0 from h0) (by decide), (h.t 0).t 1⟩
  · have e44 : σ 44 i = μ 25 (350 + i) := e44
    rw [e1, if_neg (by rw [e2]; decide), show ((350 : Int32) + nI i).toNatClampNeg = 350 + i from tnA (c := 350) (by omega), show ((430 : Int32) + nI i).toNatClampNeg = 430 + i from tnA (c := 430) (by omega)]
    show hcd [3, 2] (if σ 44 i = 1 then 0 else 2) = _ ∧ ((if σ 44 i = 1 then 0 else 2) = 0 → (if σ 44 i = 1 then σ 43 i else 0) = _) ∧ _
    rw [e44]
    by_cases c : μ 25 (350 + i) = 1
    · rw [if_pos c, if_pos c, if_pos c]; exact ⟨rfl, fun _ => e43 c, h.t 0⟩
    · rw [if_neg c, if_neg c, if_neg c]; exact ⟨rfl, fun h0 => absurd h0 (by decide), (h.t 0).t 2⟩
theorem dl_eq {σ μ : Sg} {i : Nat} (e42 : σ 42 i = μ 25 (270 + i)) (hd : μ 25 (270 + i) = -1 ∨ ∃ d : Nat, d ≤ 300000 ∧ μ 25 (270 + i) = nI d) : (F_X4_hasDeadline σ i = 0 ∧ μ 25 (270 + i) = -1) ∨ (F_X4_hasDeadline σ i = 1 ∧ ∃ d : Nat, d ≤ 300000 ∧ μ 25 (270 + i) = nI d) := by
  unfold F_X4_hasDeadline
  rw [e42]
  rcases hd with q | ⟨d, hd, q⟩
  · exact Or.inl ⟨if_pos q, q⟩
  · exact Or.inr ⟨by rw [if_neg (by rw [q]; exact nI_nm1 (by omega))], d, hd, q⟩
theorem nI_ge0 {d : Nat} (h : d < 2 ^ 31) : (0 : Int32) ≤ nI d := by rw [show (0 : Int32) = nI 0 from rfl, nI_leI (by omega) h]; omega
theorem nI_nlt0 {d : Nat} (h : d < 2 ^ 31) : ¬ nI d < (0 : Int32) := Int32.not_lt.mpr (nI_ge0 h)
theorem S_isLate {σ μ : Sg} {n : Int32} (h : SIM σ μ) (ha : AR (μ 25)) : hcd [3, 2, 4] (X_X9_isLate σ n) = (F_X10_isLate μ n).2 24 1 ∧ (X_X9_isLate σ n = 0 → F_X9_isLate σ n = (F_X10_isLate μ n).1) ∧ SIM σ (F_X10_isLate μ n).2 := by
  unfold X_X9_isLate F_X9_isLate F_X10_isLate
  rcases find_isR (n := n) h with ⟨e1, e2⟩ | ⟨m, i, hm, em, hi, rfl, e1, e2, e40, e41, e42, e43, e44⟩
  · rw [e1, if_pos e2]; exact ⟨rfl, fun h0 => absurd (show (3 : Nat) = 0 from h0) (by decide), h.t 1⟩
  · rw [e1, if_neg (by rw [e2]; decide), show ((350 : Int32) + nI i).toNatClampNeg = 350 + i from tnA (c := 350) (by omega), show ((270 : Int32) + nI i).toNatClampNeg = 270 + i from tnA (c := 270) (by omega)]
    show hcd [3, 2, 4] (if σ 44 i = 1 then (if F_X4_hasDeadline σ i = 0 then 4 else 0) else 2) = _ ∧ ((if σ 44 i = 1 then (if F_X4_hasDeadline σ i = 0 then 4 else 0) else 2) = 0 → (if σ 44 i = 1 then (if F_X4_hasDeadline σ i = 0 then 0 else F_X4_missedDeadline σ i) else 0) = _) ∧ _
    rw [e44]
    by_cases c : μ 25 (350 + i) = 1
    · rw [if_pos c, if_pos c, if_pos c]
      rcases dl_eq e42 ((ha.2.2.2 m hm em).2 i hi).2 with ⟨q1, q2⟩ | ⟨q1, d, hd, q2⟩
      · rw [q1, if_pos rfl, if_pos rfl, if_neg (show ¬ 0 ≤ μ 25 (270 + i) by rw [q2]; decide)]
        exact ⟨rfl, fun h0 => absurd h0 (by decide), h.t 3⟩
      · have n1 : ¬ (1 : Int32) = 0 := by decide
        have eb : F_X10_isBehind (s2 μ 24 1 0) (nI i) = F_X4_missedDeadline σ i := by
          unfold F_X10_isBehind F_X4_missedDeadline
          rw [q1, if_neg n1, e42, e43 c, show ((430 : Int32) + nI i).toNatClampNeg = 430 + i from tnA (c := 430) (by omega), show ((270 : Int32) + nI i).toNatClampNeg = 270 + i from tnA (c := 270) (by omega)]
          show (if μ 25 (270 + i) < 0 then 0 else if μ 25 (430 + i) ≤ μ 25 (270 + i) then 0 else 1) = _
          rw [q2, if_neg (nI_nlt0 (by omega))]
        rw [q1, if_neg n1, if_neg n1, if_pos (by rw [q2]; exact nI_ge0 (by omega)), eb]
        by_cases c2 : F_X4_missedDeadline σ i = 0
        · rw [if_pos c2]; exact ⟨rfl, fun _ => c2, h.t 0⟩
        · rw [if_neg c2]
          refine ⟨rfl, fun _ => ?_, h.t 0⟩
          unfold F_X4_missedDeadline at c2 ⊢
          split
          · rename_i z; rw [if_pos z] at c2; exact absurd rfl c2
          · rename_i z
            rw [if_neg z] at c2
            split
            · rename_i z2; rw [if_pos z2] at c2; exact absurd rfl c2
            · rfl
    · rw [if_neg c, if_neg c, if_neg c]; exact ⟨rfl, fun h0 => absurd h0 (by decide), h.t 2⟩
theorem quo_eq {x y : Int32} {w : Nat} (h1 : 1 ≤ w) (h2 : w ≤ 9999) (e : y = nI w) : F_X2_quotient x y = x / y := by
  unfold F_X2_quotient
  rw [if_neg]
  rw [e, show (0 : Int32) = nI 0 from rfl, nI_leI (by omega) (by omega)]
  omega
theorem max0 (x : Int32) : (if (0 : Int32) < x then x else 0) = if 0 ≤ x then x else 0 := by
  by_cases c : (0 : Int32) < x
  · rw [if_pos c, if_pos (Int32.le_of_lt c)]
  · rw [if_neg c]
    split
    · rename_i h; exact Int32.le_antisymm h (Int32.not_lt.mp c)
    · rfl
theorem min3 (x : Int32) : (if x < (3 : Int32) then x else 3) = if x ≤ 3 then x else 3 := by
  by_cases c : x < (3 : Int32)
  · rw [if_pos c, if_pos (Int32.le_of_lt c)]
  · rw [if_neg c]
    split
    · rename_i h; exact (Int32.le_antisymm h (Int32.not_lt.mp c)).symm
    · rfl
theorem zdiv {w : Nat} (h : 1 ≤ w) (h2 : w ≤ 9999) : (0 : Int32) / nI w = 0 := by
  apply i32_toInt_inj
  rw [Int32.toInt_div, show (0 : Int32).toInt = 0 by decide, Int.zero_tdiv]
  decide
theorem bucket_eq {σ μ : Sg} {i m : Nat} (h : SIM σ μ) (ha : AR (μ 25)) (hm : m ≤ 80) (em : μ 25 12 = nI m) (hi : i < m) : F_X7_bucketOf σ i (σ 2 4) = F_X10_bucketOf μ (nI i) := by
  obtain ⟨e40, e41, e42, e43, e44⟩ := (h.1.2.2.2.1.2 m hm em).2 i hi
  obtain ⟨⟨w, w1, w2, ew⟩, ⟨a, a1, a2, ea⟩, -, a4⟩ := ha
  have e4 : σ 2 4 = μ 25 8 := h.1.1.2.1.1
  have e72 : σ 7 2 = μ 25 5 := h.1.2.2.2.2.1.2.2.1
  have e73 : σ 7 3 = μ 25 6 := h.1.2.2.2.2.1.2.2.2.1
  unfold F_X7_bucketOf F_X10_bucketOf
  rw [show ((270 : Int32) + nI i).toNatClampNeg = 270 + i from tnA (c := 270) (by omega), show ((190 : Int32) + nI i).toNatClampNeg = 190 + i from tnA (c := 190) (by omega), e72, e73, e42, e41, e4, quo_eq a1 a2 ea, quo_eq w1 (by omega) ew, max0, max0, min3]
  rcases dl_eq e42 ((a4 m hm em).2 i hi).2 with ⟨q1, q2⟩ | ⟨q1, d, hd, q2⟩
  · rw [q1, if_pos rfl, if_pos (show μ 25 (270 + i) < 0 by rw [q2]; decide)]
  · rw [q1, if_neg (by decide), if_neg (show ¬ μ 25 (270 + i) < 0 by rw [q2]; exact nI_nlt0 (by omega))]
    rw [max0 (μ 25 (270 + i) - μ 25 8)]
    by_cases c : 0 ≤ μ 25 (270 + i) - μ 25 8
    · rw [if_pos c, if_pos c]
      by_cases c2 : (μ 25 (270 + i) - μ 25 8) / μ 25 5 ≤ 3
      · rw [if_pos c2, if_pos c2]
      · rw [if_neg c2, if_neg c2]
    · rw [if_neg c, if_neg c]
      have z : (0 : Int32) / μ 25 5 = 0 := by rw [ew]; exact zdiv w1 (by omega)
      rw [z, if_pos (show (0 : Int32) ≤ 3 by decide)]
theorem S_bucket {σ μ : Sg} {n : Int32} (h : SIM σ μ) (ha : AR (μ 25)) : hcd [3, 2] (X_X9_bucket σ n) = (F_X10_bucket μ n).2 24 1 ∧ (X_X9_bucket σ n = 0 → F_X9_bucket σ n = (F_X10_bucket μ n).1) ∧ SIM σ (F_X10_bucket μ n).2 := by
  unfold X_X9_bucket F_X9_bucket F_X10_bucket F_X10_isPending
  rcases find_isR (n := n) (h.t 0) with ⟨e1, e2⟩ | ⟨m, i, hm, em, hi, rfl, e1, e2, e40, e41, e42, e43, e44⟩
  · rw [e1, if_pos e2]; exact ⟨rfl, fun h0 => absurd (show (3 : Nat) = 0 from h0) (by decide), (h.t 0).t 1⟩
  · have e44 : σ 44 i = μ 25 (350 + i) := e44
    rw [e1, if_neg (by rw [e2]; decide), show ((350 : Int32) + nI i).toNatClampNeg = 350 + i from tnA (c := 350) (by omega)]
    show hcd [3, 2] (if σ 44 i = 0 then 0 else 2) = _ ∧ ((if σ 44 i = 0 then 0 else 2) = 0 → (if σ 44 i = 0 then F_X7_bucketOf σ i (σ 2 4) else 0) = _) ∧ _
    rw [e44]
    show hcd [3, 2] (if μ 25 (350 + i) = 0 then 0 else 2) = (if (if μ 25 (350 + i) = 0 then (1 : Int32) else 0) = 0 then _ else _ : Int32 × Sg).2 24 1 ∧ (_ → _ = (if (if μ 25 (350 + i) = 0 then (1 : Int32) else 0) = 0 then _ else _ : Int32 × Sg).1) ∧ SIM σ (if (if μ 25 (350 + i) = 0 then (1 : Int32) else 0) = 0 then _ else _ : Int32 × Sg).2
    by_cases c : μ 25 (350 + i) = 0
    · have n1 : ¬ (1 : Int32) = 0 := by decide
      rw [if_pos c, if_pos c, if_pos c, if_neg n1]; exact ⟨rfl, fun _ => bucket_eq (h.t 0) ha hm em hi, h.t 0⟩
    · rw [if_neg c, if_neg c, if_neg c, if_pos rfl]; exact ⟨rfl, fun h0 => absurd h0 (by decide), (h.t 0).t 2⟩
