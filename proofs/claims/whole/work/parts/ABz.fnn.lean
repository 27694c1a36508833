/-! NO QUOTIENT OF INTS IS A NaN -/
theorem n64_of {r : UInt64} (h : r.toNat % 2 ^ 63 ≤ 9218868437227405312) : vf_n64 r := by
  unfold vf_n64
  rw [UInt64.le_iff_toNat_le, UInt64.toNat_and]
  show r.toNat &&& (2 ^ 63 - 1) ≤ 9218868437227405312
  rw [Nat.and_two_pow_sub_one_eq_mod]
  exact h
theorem n64_to {r : UInt64} (h : vf_n64 r) : r.toNat % 2 ^ 63 ≤ 9218868437227405312 := by
  unfold vf_n64 at h
  rw [UInt64.le_iff_toNat_le, UInt64.toNat_and] at h
  have h : r.toNat &&& (2 ^ 63 - 1) ≤ 9218868437227405312 := h
  rw [Nat.and_two_pow_sub_one_eq_mod] at h
  exact h
theorem n32_of {r : UInt32} (h : r.toNat % 2 ^ 31 ≤ 2139095040) : vf_n32 r := by
  unfold vf_n32
  rw [UInt32.le_iff_toNat_le, UInt32.toNat_and]
  show r.toNat &&& (2 ^ 31 - 1) ≤ 2139095040
  rw [Nat.and_two_pow_sub_one_eq_mod]
  exact h
theorem n32_to {r : UInt32} (h : vf_n32 r) : r.toNat % 2 ^ 31 ≤ 2139095040 := by
  unfold vf_n32 at h
  rw [UInt32.le_iff_toNat_le, UInt32.toNat_and] at h
  have h : r.toNat &&& (2 ^ 31 - 1) ≤ 2139095040 := h
  rw [Nat.and_two_pow_sub_one_eq_mod] at h
  exact h
theorem fnn : FNN := by
  refine ⟨fun a b hb => n64_of ?_, fun a b hb => n32_of ?_, fun x hx => n64_of ?_, fun x hx => ?_⟩
  · have h1 := FP.Core.i2d_mag a
    obtain ⟨h2, h3⟩ := FP.Core.i2d_big (FP.Core.int32_ne hb)
    have h4 := FP.Core.ddiv_mag (K := 1056) (L := 1023) h1 h2 h3 (by decide) (by decide)
    show (FP.Core.ddiv (FP.Core.i2d a) (FP.Core.i2d b)).toNat % 2 ^ 63 ≤ _
    omega
  · have h1 := FP.Core.i2f_mag a
    obtain ⟨h2, h3⟩ := FP.Core.i2f_big (FP.Core.int32_ne hb)
    have h4 := FP.Core.fdiv_mag (K := 160) (L := 127) h1 h2 h3 (by decide) (by decide)
    show (FP.Core.fdiv (FP.Core.i2f a) (FP.Core.i2f b)).toNat % 2 ^ 31 ≤ _
    omega
  · have h1 : FP.Core.fIsNaN x = false := by
      cases hq : FP.Core.fIsNaN x with
      | false => rfl
      | true =>
        have := (FP.Core.isNaN_bits32 x).mp hq
        have := n32_to hx
        omega
    have h2 := FP.Core.f2d_out h1
    have h3 : FP.f2d x = FP.Core.f2d x := by unfold FP.f2d; rw [h1]; rfl
    rw [h3]
    refine Nat.not_lt.mp (fun z => ?_)
    have := (FP.Core.isNaN_bits _).mpr z
    rw [h2] at this
    cases this
  · have h1 : FP.Core.dIsNaN x = false := by
      cases hq : FP.Core.dIsNaN x with
      | false => rfl
      | true =>
        have := (FP.Core.isNaN_bits x).mp hq
        have := n64_to hx
        omega
    show FP.Core.dcmp x x = some .eq
    exact FP.Core.dcmp_self ((FP.Core.notNaN_iff x).mp h1)
/-- from the entry, for every script of at most 2048 ints, the law comes to its end with true -/
theorem whole_start {p : Program} {e : Env} {s : State} {m : MethodId} {below : List Frame} {meth : Method} {c : Code} (l : Launch) (hflags : l.flags = flags0) {b L : Nat} {xs : Nat → Int32} (hL : L ≤ 2048) (C0 : lw_At p s m meth c b L xs) : W p l e room_1 s m #[Value.ref b] below meth c s.heap [] 0 0 (lw_Z below #[Value.ref b] s) (entryFrame m ([Value.ref b] : List Value).toArray 9) := whole_start0 fnn l hflags hL C0
