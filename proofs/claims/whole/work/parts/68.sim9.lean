theorem acc_form {μ : Sg} {p : Nat} (hp : p ≤ 575) : F_X10_accesses μ (nI p) 25 13 = μ 25 13 + F_X10_seek μ (μ 25 9) (F_X10_cylinderAt (nI p)) ∧ F_X10_accesses μ (nI p) 25 14 = μ 25 14 + F_X10_waits μ (μ 25 8 + F_X10_seek μ (μ 25 9) (F_X10_cylinderAt (nI p))) (nI p) ∧ F_X10_accesses μ (nI p) 25 15 = μ 25 15 + F_X10_ticksOf (F_X10_cylinderAt (nI p)) ∧ F_X10_accesses μ (nI p) 25 16 = μ 25 16 + 1 ∧
    F_X10_accesses μ (nI p) 25 8 = μ 25 8 + ((F_X10_seek μ (μ 25 9) (F_X10_cylinderAt (nI p)) + F_X10_waits μ (μ 25 8 + F_X10_seek μ (μ 25 9) (F_X10_cylinderAt (nI p))) (nI p)) + F_X10_ticksOf (F_X10_cylinderAt (nI p))) ∧ F_X10_accesses μ (nI p) 25 (1100 + p) = μ 25 (1100 + p) + 1 ∧ ∀ q : Nat, q ≠ p → F_X10_accesses μ (nI p) 25 (1100 + q) = μ 25 (1100 + q) := by
  unfold F_X10_accesses
  rw [show ((1100 : Int32) + nI p).toNatClampNeg = 1100 + p from tnA (c := 1100) (by omega)]
  generalize F_X10_waits μ (μ 25 8 + F_X10_seek μ (μ 25 9) (F_X10_cylinderAt (nI p))) (nI p) = w
  generalize F_X10_seek μ (μ 25 9) (F_X10_cylinderAt (nI p)) = s
  generalize F_X10_ticksOf (F_X10_cylinderAt (nI p)) = t
  refine ⟨?_, ?_, ?_, ?_, ?_, ?_, fun q hq => ?_⟩
  · rw [s2_n (by omega), s2_n (by omega), s2_n (by omega), s2_n (by omega), s2_n (by omega), s2_n (by omega), s2_e]
  · rw [s2_n (by omega), s2_n (by omega), s2_n (by omega), s2_n (by omega), s2_n (by omega), s2_e]
  · rw [s2_n (by omega), s2_n (by omega), s2_n (by omega), s2_n (by omega), s2_e]
  · rw [s2_n (by omega), s2_n (by omega), s2_n (by omega), s2_e]
  · rw [s2_n (by omega), s2_e, s2_n (by omega), s2_n (by omega), s2_n (by omega), s2_n (by omega), s2_n (by omega)]
  · rw [s2_n (by omega), s2_n (by omega), s2_e, s2_n (by omega), s2_n (by omega), s2_n (by omega), s2_n (by omega)]
  · rw [s2_n (by omega), s2_n (by omega), s2_n (by omega), s2_n (by omega), s2_n (by omega), s2_n (by omega), s2_n (by omega)]
