theorem i32_lo (x : Int32) : -2 ^ 31 ≤ x.toInt := Int32.le_toInt x
theorem bm32 {z : Int} (h1 : -2 ^ 31 ≤ z) (h2 : z < 2 ^ 31) : z.bmod (2 ^ 32) = z := by
  rw [Int.bmod_def]; omega
theorem div120 (x : Int32) : (x / 120).toInt = if 0 ≤ x.toInt then x.toInt / 120 else -((-x.toInt) / 120) := by
  have h1 := i32_lo x
  have h2 : x.toInt < 2 ^ 31 := x.toInt_lt
  have e : x.toInt.tdiv 120 = if 0 ≤ x.toInt then x.toInt / 120 else -((-x.toInt) / 120) := by
    split
    · rename_i h; exact Int.tdiv_eq_ediv_of_nonneg h
    · rename_i h
      have := Int.neg_tdiv (-x.toInt) 120
      rw [Int.neg_neg] at this
      rw [this, Int.tdiv_eq_ediv_of_nonneg (by omega)]
  rw [Int32.toInt_div, show (120 : Int32).toInt = 120 by decide, e]
  split
  · exact bm32 (by omega) (by omega)
  · exact bm32 (by omega) (by omega)
theorem rem120 (x : Int32) : (x - x / 120 * 120).toInt = if 0 ≤ x.toInt then x.toInt % 120 else -((-x.toInt) % 120) := by
  have h1 := i32_lo x
  have h2 : x.toInt < 2 ^ 31 := x.toInt_lt
  have e := div120 x
  rw [Int32.toInt_sub, Int32.toInt_mul, show (120 : Int32).toInt = 120 by decide, e]
  split
  · rw [bm32 (z := x.toInt / 120 * 120) (by omega) (by omega), bm32 (by omega) (by omega)]; omega
  · rw [bm32 (z := -(-x.toInt / 120) * 120) (by omega) (by omega), bm32 (by omega) (by omega)]; omega
theorem xor120 (x : Int32) : (0 ≤ (x ^^^ 120)) ↔ 0 ≤ x.toInt := by
  rw [Int32.le_iff_toInt_le, show (0 : Int32).toInt = 0 by decide]
  have h1 : (x ^^^ 120).toBitVec.msb = x.toBitVec.msb := by
    rw [Int32.toBitVec_xor, BitVec.msb_xor, show (120 : Int32).toBitVec.msb = false by decide, Bool.xor_false]
  have h2 := BitVec.msb_eq_toInt (x := (x ^^^ 120).toBitVec)
  have h3 := BitVec.msb_eq_toInt (x := x.toBitVec)
  rw [h1, h3] at h2
  have h4 : (x.toInt < 0) ↔ ((x ^^^ 120).toInt < 0) := by
    have := decide_eq_decide.mp h2
    exact this
  omega
theorem fmod120 (x : Int32) : (F_J9_floorMod_7cf53 x 120).toInt = x.toInt % 120 := by
  have r := rem120 x
  have h1 := i32_lo x
  have h2 : x.toInt < 2 ^ 31 := x.toInt_lt
  unfold F_J9_floorMod_7cf53
  by_cases c : 0 ≤ x.toInt
  · rw [if_pos ((xor120 x).mpr c), r, if_pos c]
  · rw [if_neg (fun h => c ((xor120 x).mp h))]
    rw [if_neg c] at r
    by_cases c2 : x - x / 120 * 120 = 0
    · rw [if_pos c2, r]
      have : (x - x / 120 * 120).toInt = 0 := by rw [c2]; decide
      omega
    · rw [if_neg c2, Int32.toInt_add, r, show (120 : Int32).toInt = 120 by decide]
      have : ¬ (x - x / 120 * 120).toInt = 0 := fun h => c2 (i32_toInt_inj (by rw [h]; decide))
      rw [bm32 (by omega) (by omega)]
      omega
theorem wait_eq {an t : Int32} (ha : 0 ≤ an.toInt ∧ an.toInt < 120) (ht : 0 ≤ t.toInt ∧ t.toInt < 2 ^ 30) : F_X1_ticksOfWait an t = ((an - (t - t / 120 * 120)) + 120) - ((an - (t - t / 120 * 120)) + 120) / 120 * 120 := by
  apply i32_toInt_inj
  have rt := rem120 t
  rw [if_pos ht.1] at rt
  have ey : ((an - (t - t / 120 * 120)) + 120).toInt = an.toInt - t.toInt % 120 + 120 := by
    rw [Int32.toInt_add, Int32.toInt_sub, rt, show (120 : Int32).toInt = 120 by decide, bm32 (z := an.toInt - t.toInt % 120) (by omega) (by omega), bm32 (by omega) (by omega)]
  have ry := rem120 ((an - (t - t / 120 * 120)) + 120)
  rw [ey] at ry
  rw [ry, if_pos (by omega)]
  unfold F_X1_ticksOfWait
  rw [fmod120, Int32.toInt_sub, bm32 (by omega) (by omega)]
  omega
