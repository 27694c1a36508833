def zFP : Nat → Int32 := fun k => match k with | 0 => 0 | 1 => 192 | 2 => 352 | _ => 480
def zSE : Nat → Int32 := fun k => match k with | 0 => 12 | 1 => 10 | 2 => 8 | _ => 6
def zTI : Nat → Int32 := fun k => match k with | 0 => 10 | 1 => 12 | 2 => 15 | _ => 20
section VE
variable {p : Program} {l : Launch} {e : Env} {R : Room} {s : State} {m : MethodId} {args : Array Value} {below : List Frame} {meth : Method} {c : Code} {cc : ByteArray} {nL : Nat} {own : String} {rt : Option FieldType} {G : GG} {A : Nat → Prop} {cells slots : Nat} {Q Q' : State → Prop} {pc : Nat} {lv lv' : List (Nat × Value)} {st rest As : List Value} {ws ws' : va_W}
theorem v_Q (h : Q' = Q) (k : V p l e R s m args below meth c nL G A cells slots Q' pc lv st ws) : V p l e R s m args below meth c nL G A cells slots Q pc lv st ws := h ▸ k
theorem v_lv (ks : List Nat) (h : lv_pick lv ks = lv') (k : V p l e R s m args below meth c nL G A cells slots Q pc lv' st ws) : V p l e R s m args below meth c nL G A cells slots Q pc lv st ws := fun H locs ls hP hD hS hl => k H locs ls hP hD hS (lv_sub hl ks h)
end VE
theorem nbz {v : Int32} (h : v = 0 ∨ v = 1) : narrow .boolean (.int v) = .int v := by rcases h with rfl | rfl <;> rfl
theorem vnz {v : Int32} (h : v = 0 ∨ v = 1) : vp_nar .boolean v = v := by rcases h with rfl | rfl <;> rfl
theorem ne0_of_nle {y : Int32} (h : ¬ y ≤ 0) : ¬ y = 0 := fun e => h (by rw [e]; decide)
section VF
variable {p : Program} {l : Launch} {e : Env} {R : Room} {s : State} {m : MethodId} {args : Array Value} {below : List Frame} {meth : Method} {c : Code} {cc : ByteArray} {nL : Nat} {own : String} {rt : Option FieldType} {G : GG} {A : Nat → Prop} {cells slots : Nat} {Q Q' : State → Prop} {pc : Nat} {lv lv' : List (Nat × Value)} {st rest As : List Value} {ws ws' : va_W}
theorem v_tabIn (C : CX p l R s m args meth c cc nL own rt G A) {dflt lo hi : Int} {offs : Array Int} {len : Nat} {x : Int32} {off : Int} {tgt : Nat} (h1 : ¬ x.toInt < lo) (h2 : ¬ hi < x.toInt) (ho : offs[(x.toInt - lo).toNat]? = some off) (ht : (pc : Int) + off = (tgt : Int)) (d : decode cc pc = .ok (.tableswitch dflt lo hi offs, len)) (k : V p l e R s m args below meth c nL G A cells slots Q tgt lv rest ws) : V p l e R s m args below meth c nL G A cells slots Q pc lv (.int x :: rest) ws := fun H locs ls hP hD hS hl => lv_tableIn C.1 C.2.1 d h1 h2 ho ht (k H locs ls hP hD hS hl)
theorem v_tabOut (C : CX p l R s m args meth c cc nL own rt G A) {dflt lo hi : Int} {offs : Array Int} {len : Nat} {x : Int32} {tgt : Nat} (h : x.toInt < lo ∨ hi < x.toInt) (ht : (pc : Int) + dflt = (tgt : Int)) (d : decode cc pc = .ok (.tableswitch dflt lo hi offs, len)) (k : V p l e R s m args below meth c nL G A cells slots Q tgt lv rest ws) : V p l e R s m args below meth c nL G A cells slots Q pc lv (.int x :: rest) ws := fun H locs ls hP hD hS hl => lv_tableOut C.1 C.2.1 d h ht (k H locs ls hP hD hS hl)
theorem v_dconst0 (C : CX p l R s m args meth c cc nL own rt G A) (d : decode cc pc = .ok (.dconst 0, 1)) (k : V p l e R s m args below meth c nL G A cells slots Q (pc + 1) lv (.double FP.dconst0 :: rest) ws) : V p l e R s m args below meth c nL G A cells slots Q pc lv rest ws := fun H locs ls hP hD hS hl => lv_dconst0 C.1 C.2.1 d (k H locs ls hP hD hS hl)
theorem v_fconst0 (C : CX p l R s m args meth c cc nL own rt G A) (d : decode cc pc = .ok (.fconst 0, 1)) (k : V p l e R s m args below meth c nL G A cells slots Q (pc + 1) lv (.float FP.fconst0 :: rest) ws) : V p l e R s m args below meth c nL G A cells slots Q pc lv rest ws := fun H locs ls hP hD hS hl => lv_fconst0 C.1 C.2.1 d (k H locs ls hP hD hS hl)
end VF
/-! numbers -/
theorem i32_toInt_inj {x y : Int32} (h : x.toInt = y.toInt) : x = y := Int32.toInt_inj.mp h
theorem sw_out (x : Int32) {hi : Nat} (h : ∀ q : Nat, q ≤ hi → ¬ x = nI q) (hh : hi < 2 ^ 31 := by decide) : x.toInt < 0 ∨ (hi : Int) < x.toInt := by
  by_cases h0 : x.toInt < 0
  · exact Or.inl h0
  · right
    by_cases h1 : (hi : Int) < x.toInt
    · exact h1
    · exfalso
      have e1 : x.toInt = ((x.toInt.toNat : Nat) : Int) := by omega
      refine h x.toInt.toNat (by omega) (i32_toInt_inj ?_)
      rw [nI_toInt (by omega), e1]
      omega
theorem gt_of_nle {x y : Int32} {a b : Nat} (hx : x = nI a) (hy : y = nI b) (ha : a < 2 ^ 31) (hb : b < 2 ^ 31) (h : ¬ x ≤ y) : b < a := by
  rw [hx, hy, nI_leI ha hb] at h; omega
theorem le_of_nlt {x y : Int32} {a b : Nat} (hx : x = nI a) (hy : y = nI b) (ha : a < 2 ^ 31) (hb : b < 2 ^ 31) (h : ¬ x < y) : b ≤ a := by
  rw [hx, hy, nI_ltI ha hb] at h; omega
theorem le_of_le {x y : Int32} {a b : Nat} (hx : x = nI a) (hy : y = nI b) (ha : a < 2 ^ 31) (hb : b < 2 ^ 31) (h : x ≤ y) : a ≤ b := by
  rwa [hx, hy, nI_leI ha hb] at h
theorem lt_of_lt {x y : Int32} {a b : Nat} (hx : x = nI a) (hy : y = nI b) (ha : a < 2 ^ 31) (hb : b < 2 ^ 31) (h : x < y) : a < b := by
  rwa [hx, hy, nI_ltI ha hb] at h
theorem vi_add (c : Nat) {x : Int32} {j N : Nat} (hx : x = nI j) (h : c + j < N) (hN : N < 2 ^ 31) : vp_in (nI c + x) N := by
  rw [hx, nI_add]; exact vp_in_nI h hN
theorem vi_x {x : Int32} {j N : Nat} (hx : x = nI j) (h : j < N) (hN : N < 2 ^ 31) : vp_in x N := by
  rw [hx]; exact vp_in_nI h hN
theorem vi_addL (c : Nat) {x : Int32} {j N : Nat} (hx : x = nI j) (h : j + c < N) (hN : N < 2 ^ 31) : vp_in (x + nI c) N := by
  rw [hx, nI_add]; exact vp_in_nI h hN
theorem rdl {f : Nat → Int32} {i v : Int32} {k : Nat} (h : i.toNatClampNeg = k) (e : f k = v) : f i.toNatClampNeg = v := by rw [h]; exact e
theorem sw_split (hi q : Nat) (h : q ≤ hi) : q = hi ∨ q < hi := by omega

