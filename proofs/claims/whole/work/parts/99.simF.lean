/-! FLOATS: both sides divide the same ints -/
theorem S_utilization {σ μ : Sg} (h : SIM σ μ) (ha : AR (μ 25)) : hcd [6] (X_X9_utilization σ) = (F_X10_utilization μ).2 24 1 ∧ (X_X9_utilization σ = 0 → F_X9_utilization σ = (F_X10_utilization μ).1) ∧ SIM σ (F_X10_utilization μ).2 ∧ AR ((F_X10_utilization μ).2 25) ∧ FX μ (F_X10_utilization μ).2 := by
  have e4 : σ 2 4 = μ 25 8 := h.1.1.2.1.1
  obtain ⟨t0, t1, t2, -⟩ := h.1.1.2.2.1
  unfold X_X9_utilization F_X9_utilization F_X10_utilization
  rw [e4, t0, t1, t2]
  by_cases c : μ 25 8 = 0
  · rw [if_pos c, if_pos c, if_pos c]
    exact ⟨rfl, fun h0 => absurd h0 (by decide), h.t 1, ha, FX.t μ 1⟩
  · rw [if_neg c, if_neg c, if_neg c]
    exact ⟨rfl, fun _ => rfl, h.t 0, ha, FX.t μ 0⟩
theorem addz (x : Int32) : x + (0 : Int32) = x := Int32.add_zero x
def AVF (μ : Sg) (C S : Int32) : UInt64 × Sg := if C = 0 then (FP.dconst0, s2 μ 24 1 1) else (FP.ddiv (FP.i2d S) (FP.i2d C), s2 μ 24 1 0)
def LSF (μ : Sg) (C S : Int32) : UInt32 × Sg := if C = 0 then (FP.fconst0, s2 μ 24 1 1) else (FP.fdiv (FP.i2f S) (FP.i2f C), s2 μ 24 1 0)
theorem findF {σ μ : Sg} (h : SIM σ μ) {m j : Nat} (hm : m ≤ 80) (em : μ 25 12 = nI m) (hj : j < m) : F_X6_findFinished σ (nI j) = if μ 25 (350 + j) = 1 then some j else none := by
  have e5 : σ 5 0 = nI m := h.1.2.2.2.1.1.trans em
  have e44 : σ 44 j = μ 25 (350 + j) := ((h.1.2.2.2.1.2 m hm em).2 j hj).2.2.2.2
  unfold F_X6_findFinished F_X6_find
  rw [if_neg (nI_nlt0 (by omega)), e5, if_neg (by rw [nI_leI (by omega) (by omega)]; omega), if_neg (by rw [show (80 : Int32) = nI 80 from rfl, nI_leI (by omega) (by omega)]; omega), nI_clamp (by omega)]
  show (if σ 44 j = 1 then some j else none) = _
  rw [e44]
theorem avg_L {σ μ : Sg} (h : SIM σ μ) {m : Nat} (hm : m ≤ 80) (em : μ 25 12 = nI m) : ∀ (n j : Nat) (c y : Int32), j + n = 81 → j ≤ m → L_X10_averageResponse_6 μ n c y (nI j) = AVF μ (L_X6_countFinished_4 σ n c (nI j)) (L_X6_sumOfResponses_4 σ n y (nI j)) := by
  have e5 : σ 5 0 = nI m := h.1.2.2.2.1.1.trans em
  intro n
  induction n with
  | zero => intro j c y h1 h2; omega
  | succ n ih =>
    intro j c y h1 h2
    rw [L_X10_averageResponse_6, L_X6_countFinished_4, L_X6_sumOfResponses_4, e5, em]
    by_cases c1 : nI m ≤ nI j
    · rw [if_pos c1, if_pos c1, if_pos c1]
      unfold AVF
      by_cases c2 : c = 0
      · rw [if_pos c2, if_pos c2, if_pos c2]
      · rw [if_neg c2, if_neg c2, if_neg c2]
    · have hj := gt_of_nle (x := nI m) (y := nI j) rfl rfl (by omega) (by omega) c1
      rw [if_neg c1, if_neg c1, if_neg c1, findF h hm em hj, nI_1 j, show ((350 : Int32) + nI j).toNatClampNeg = 350 + j from tnA (c := 350) (by omega), show ((430 : Int32) + nI j).toNatClampNeg = 430 + j from tnA (c := 430) (by omega), show ((190 : Int32) + nI j).toNatClampNeg = 190 + j from tnA (c := 190) (by omega)]
      obtain ⟨e40, e41, e42, e43, e44⟩ := (h.1.2.2.2.1.2 m hm em).2 j hj
      by_cases c2 : μ 25 (350 + j) = 1
      · rw [if_pos c2, if_pos c2]
        show _ = AVF μ (L_X6_countFinished_4 σ n (c + 1) (nI (j + 1))) (L_X6_sumOfResponses_4 σ n (y + (σ 43 j - σ 41 j)) (nI (j + 1)))
        rw [e43 c2, e41]
        exact ih (j + 1) _ _ (by omega) (by omega)
      · rw [if_neg c2, if_neg c2]
        show _ = AVF μ (L_X6_countFinished_4 σ n (c + 0) (nI (j + 1))) (L_X6_sumOfResponses_4 σ n (y + 0) (nI (j + 1)))
        rw [addz, addz]
        exact ih (j + 1) _ _ (by omega) (by omega)
theorem S_averageResponse {σ μ : Sg} (h : SIM σ μ) (ha : AR (μ 25)) : hcd [6] (X_X9_averageResponse σ) = (F_X10_averageResponse μ).2 24 1 ∧ (X_X9_averageResponse σ = 0 → F_X9_averageResponse σ = (F_X10_averageResponse μ).1) ∧ SIM σ (F_X10_averageResponse μ).2 ∧ AR ((F_X10_averageResponse μ).2 25) ∧ FX μ (F_X10_averageResponse μ).2 := by
  obtain ⟨m, hm, em⟩ := h.1.2.1.2.1
  have e : F_X10_averageResponse μ = AVF μ (F_X6_countFinished σ) (F_X6_sumOfResponses σ) := avg_L h hm em 81 0 0 0 (by omega) (by omega)
  rw [e]
  unfold X_X9_averageResponse F_X9_averageResponse AVF
  by_cases c : F_X6_countFinished σ = 0
  · rw [if_pos c, if_pos c, if_pos c]
    exact ⟨rfl, fun h0 => absurd h0 (by decide), h.t 1, ha, FX.t μ 1⟩
  · rw [if_neg c, if_neg c, if_neg c]
    exact ⟨rfl, fun _ => rfl, h.t 0, ha, FX.t μ 0⟩
theorem late_L {σ μ : Sg} (h : SIM σ μ) (ha : AR (μ 25)) {m : Nat} (hm : m ≤ 80) (em : μ 25 12 = nI m) : ∀ (n j : Nat) (c y : Int32), j + n = 81 → j ≤ m → L_X10_lateShare_6 μ n c y (nI j) = LSF μ (L_X6_countFinishedWithDeadline_4 σ n c (nI j)) (L_X6_countLate_4 σ n y (nI j)) := by
  have e5 : σ 5 0 = nI m := h.1.2.2.2.1.1.trans em
  have n10 : ¬ (1 : Int32) = 0 := by decide
  intro n
  induction n with
  | zero => intro j c y h1 h2; omega
  | succ n ih =>
    intro j c y h1 h2
    rw [L_X10_lateShare_6, L_X6_countFinishedWithDeadline_4, L_X6_countLate_4, e5, em]
    by_cases c1 : nI m ≤ nI j
    · rw [if_pos c1, if_pos c1, if_pos c1]
      unfold LSF
      by_cases c2 : c = 0
      · rw [if_pos c2, if_pos c2, if_pos c2]
      · rw [if_neg c2, if_neg c2, if_neg c2]
    · have hj := gt_of_nle (x := nI m) (y := nI j) rfl rfl (by omega) (by omega) c1
      rw [if_neg c1, if_neg c1, if_neg c1, findF h hm em hj, nI_1 j, show ((350 : Int32) + nI j).toNatClampNeg = 350 + j from tnA (c := 350) (by omega), show ((270 : Int32) + nI j).toNatClampNeg = 270 + j from tnA (c := 270) (by omega)]
      obtain ⟨e40, e41, e42, e43, e44⟩ := (h.1.2.2.2.1.2 m hm em).2 j hj
      by_cases c2 : μ 25 (350 + j) = 1
      · rw [if_pos c2, if_pos c2]
        show _ = LSF μ (if F_X4_hasDeadline σ j = 0 then L_X6_countFinishedWithDeadline_4 σ n (c + 0) (nI (j + 1)) else L_X6_countFinishedWithDeadline_4 σ n (c + 1) (nI (j + 1))) (if F_X4_missedDeadline σ j = 0 then L_X6_countLate_4 σ n (y + 0) (nI (j + 1)) else L_X6_countLate_4 σ n (y + 1) (nI (j + 1)))
        rcases dl_eq e42 ((ha.2.2.2 m hm em).2 j hj).2 with ⟨q1, q2⟩ | ⟨q1, d, hd, q2⟩
        · have em0 : F_X4_missedDeadline σ j = 0 := by unfold F_X4_missedDeadline; rw [q1, if_pos rfl]
          rw [if_pos (show μ 25 (270 + j) < 0 by rw [q2]; decide), if_pos q1, if_pos em0, addz, addz]
          exact ih (j + 1) _ _ (by omega) (by omega)
        · have eb : F_X10_isBehind μ (nI j) = F_X4_missedDeadline σ j := by
            unfold F_X10_isBehind F_X4_missedDeadline
            rw [q1, if_neg n10, e42, e43 c2, show ((430 : Int32) + nI j).toNatClampNeg = 430 + j from tnA (c := 430) (by omega), show ((270 : Int32) + nI j).toNatClampNeg = 270 + j from tnA (c := 270) (by omega), q2, if_neg (nI_nlt0 (by omega))]
          rw [if_neg (show ¬ μ 25 (270 + j) < 0 by rw [q2]; exact nI_nlt0 (by omega)), if_neg (show ¬ F_X4_hasDeadline σ j = 0 by rw [q1]; exact n10), eb]
          by_cases c3 : F_X4_missedDeadline σ j = 0
          · rw [if_pos c3, if_pos c3]
            exact ih (j + 1) _ _ (by omega) (by omega)
          · rw [if_neg c3, if_neg c3]
            exact ih (j + 1) _ _ (by omega) (by omega)
      · rw [if_neg c2, if_neg c2]
        show _ = LSF μ (L_X6_countFinishedWithDeadline_4 σ n (c + 0) (nI (j + 1))) (L_X6_countLate_4 σ n (y + 0) (nI (j + 1)))
        rw [addz, addz]
        exact ih (j + 1) _ _ (by omega) (by omega)
theorem S_lateShare {σ μ : Sg} (h : SIM σ μ) (ha : AR (μ 25)) : hcd [6] (X_X9_lateShare σ) = (F_X10_lateShare μ).2 24 1 ∧ (X_X9_lateShare σ = 0 → F_X9_lateShare σ = (F_X10_lateShare μ).1) ∧ SIM σ (F_X10_lateShare μ).2 ∧ AR ((F_X10_lateShare μ).2 25) ∧ FX μ (F_X10_lateShare μ).2 := by
  obtain ⟨m, hm, em⟩ := h.1.2.1.2.1
  have e : F_X10_lateShare μ = LSF μ (F_X6_countFinishedWithDeadline σ) (F_X6_countLate σ) := late_L h ha hm em 81 0 0 0 (by omega) (by omega)
  rw [e]
  unfold X_X9_lateShare F_X9_lateShare LSF
  by_cases c : F_X6_countFinishedWithDeadline σ = 0
  · rw [if_pos c, if_pos c, if_pos c]
    exact ⟨rfl, fun h0 => absurd h0 (by decide), h.t 1, ha, FX.t μ 1⟩
  · rw [if_neg c, if_neg c, if_neg c]
    exact ⟨rfl, fun _ => rfl, h.t 0, ha, FX.t μ 0⟩
