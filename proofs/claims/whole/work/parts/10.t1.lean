def zFP : Nat → Int32 := fun k => match k with | 0 => 0 | 1 => 192 | 2 => 352 | _ => 480
def zSE : Nat → Int32 := fun k => match k with | 0 => 12 | 1 => 10 | 2 => 8 | _ => 6
def zTI : Nat → Int32 := fun k => match k with | 0 => 10 | 1 => 12 | 2 => 15 | _ => 20
section VE
variable {p : Program} {l : Launch} {e : Env} {R : Room} {s : State} {m : MethodId} {args : Array Value} {below : List Frame} {meth : Method} {c : Code} {cc : ByteArray} {nL : Nat} {own : String} {rt : Option FieldType} {G : GG} {A : Nat → Prop} {cells slots : Nat} {Q Q' : State → Prop} {pc : Nat} {lv lv' : List (Nat × Value)} {st rest As : List Value} {ws ws' : va_W}
theorem v_Q (h : Q' = Q) (k : V p l e R s m args below meth c nL G A cells slots Q' pc lv st ws) : V p l e R s m args below meth c nL G A cells slots Q pc lv st ws := h ▸ k
theorem v_lv (ks : List Nat) (h : lv_pick lv ks = lv') (k : V p l e R s m args below meth c nL G A cells slots Q pc lv' st ws) : V p l e R s m args below meth c nL G A cells slots Q pc lv st ws := fun H locs ls hP hD hS hl => k H locs ls hP hD hS (lv_sub hl ks h)
end VE
theorem nbz {v : Int32} (h : v = 0 ∨ v = 1) : narrow .boolean (.int v) = .int v := by rcases h with rfl | rfl <;> rfl
theorem vnz {v : Int32} (h : v = 0 ∨ v = 1) : vp_nar .boolean v = v := by rcases h with rfl | rfl <;> rfl
theorem ne0_of_nle {y : Int32} (h : ¬ y ≤ 0) : ¬ y = 0 := fun e => h (by rw [e]; decide)

def F_X9_isWithin (n : Int32) (lo : Int32) (hi : Int32) : Int32 := (if n < lo then (0 : Int32) else (if hi < n then (0 : Int32) else (1 : Int32)))
theorem z01_X9_isWithin (n : Int32) (lo : Int32) (hi : Int32) : F_X9_isWithin n lo hi = 0 ∨ F_X9_isWithin n lo hi = 1 := by
  unfold F_X9_isWithin; (repeat' split) <;> first | exact Or.inl rfl | exact Or.inr rfl
abbrev rm_X9_isWithin : Room := { frames := 0, cells := 0, slots := 0, locals := 0 }
set_option maxRecDepth 100000 in
set_option maxHeartbeats 4000000 in
theorem m_X9_isWithin (l : Launch) (G : GG) (E : EE) (σ μ : Sg) (Y : va_W) (n : Int32) (lo : Int32) (hi : Int32) : KK l G yX9_isWithin cX9_isWithin 3 (some .boolean) rm_X9_isWithin [.int n, .int lo, .int hi] (Wd G E σ μ Y) (some (.int (F_X9_isWithin n lo hi))) (Wd G E σ μ Y) := by
  refine KE.of (by decide) (Nat.le_of_ble_eq_true rfl) ?_
  intro zp ze zs zm za zb zt zc zA C _
  generalize hQ : MQ zb _ za zs _ _ zA = Q
  show V zp l ze rm_X9_isWithin zs zm za zb zt zc 3 G zA 0 0 Q 0 [(0, .int n), (1, .int lo), (2, .int hi)] [] (Wd G E σ μ Y)
  refine v_iload_n C 0 rfl dX9_isWithin_0 ?_
  refine v_iload_n C 1 rfl dX9_isWithin_1 ?_
  refine v_icmp_lt (tgt := 14) C (by decide) dX9_isWithin_2 (fun h1 => ?_) (fun h1 => ?_)
  · refine v_iconst (v := (0 : Int32)) C (by decide) dX9_isWithin_14 ?_
    have e1 : F_X9_isWithin n lo hi = (0 : Int32) := by rw [F_X9_isWithin, if_pos h1]
    exact v_Q hQ (v_zret C rfl () trivial (by rw [e1]) rfl (Nat.zero_le _) (Nat.zero_le _) dX9_isWithin_15)
  · refine v_iload_n C 0 rfl dX9_isWithin_5 ?_
    refine v_iload_n C 2 rfl dX9_isWithin_6 ?_
    refine v_icmp_gt (tgt := 14) C (by decide) dX9_isWithin_7 (fun h2 => ?_) (fun h2 => ?_)
    · refine v_iconst (v := (0 : Int32)) C (by decide) dX9_isWithin_14 ?_
      have e1 : F_X9_isWithin n lo hi = (0 : Int32) := by rw [F_X9_isWithin, if_neg h1, if_pos h2]
      exact v_Q hQ (v_zret C rfl () trivial (by rw [e1]) rfl (Nat.zero_le _) (Nat.zero_le _) dX9_isWithin_15)
    · refine v_iconst (v := (1 : Int32)) C (by decide) dX9_isWithin_10 ?_
      refine v_goto (tgt := 15) C (by decide) dX9_isWithin_11 ?_
      have e1 : F_X9_isWithin n lo hi = (1 : Int32) := by rw [F_X9_isWithin, if_neg h1, if_neg h2]
      exact v_Q hQ (v_zret C rfl () trivial (by rw [e1]) rfl (Nat.zero_le _) (Nat.zero_le _) dX9_isWithin_15)
def F_X9_isBlock (b : Int32) : Int32 := F_X9_isWithin b (0 : Int32) (571 : Int32)
theorem z01_X9_isBlock (b : Int32) : F_X9_isBlock b = 0 ∨ F_X9_isBlock b = 1 := by
  exact z01_X9_isWithin _ _ _
abbrev rm_X9_isBlock : Room := { frames := 1, cells := 0, slots := 0, locals := 22 }
set_option maxRecDepth 100000 in
set_option maxHeartbeats 4000000 in
theorem m_X9_isBlock (l : Launch) (G : GG) (E : EE) (σ μ : Sg) (Y : va_W) (b : Int32) : KK l G yX9_isBlock cX9_isBlock 1 (some .boolean) rm_X9_isBlock [.int b] (Wd G E σ μ Y) (some (.int (F_X9_isBlock b))) (Wd G E σ μ Y) := by
  refine KE.of (by decide) (Nat.le_of_ble_eq_true rfl) ?_
  intro zp ze zs zm za zb zt zc zA C _
  generalize hQ : MQ zb _ za zs _ _ zA = Q
  show V zp l ze rm_X9_isBlock zs zm za zb zt zc 1 G zA 0 0 Q 0 [(0, .int b)] [] (Wd G E σ μ Y)
  refine v_iload_n C 0 rfl dX9_isBlock_0 ?_
  refine v_iconst (v := (0 : Int32)) C (by decide) dX9_isBlock_1 ?_
  refine v_sipush (v := (571 : Int32)) C (by decide) dX9_isBlock_2 ?_
  refine v_cS1 (rest := []) C ms_RX9_30 (m_X9_isWithin l G E σ μ Y b (0 : Int32) (571 : Int32)) rfl rfl (Nat.le_of_ble_eq_true rfl) ⟨Nat.le_of_ble_eq_true rfl, Nat.le_of_ble_eq_true rfl⟩ ⟨rfl, rfl⟩ ⟨Nat.zero_le _, Nat.zero_le _⟩ dX9_isBlock_5 ?_
  have e1 : F_X9_isBlock b = F_X9_isWithin b (0 : Int32) (571 : Int32) := by rw [F_X9_isBlock]
  exact v_Q hQ (v_zret C (nbz (z01_X9_isWithin b (0 : Int32) (571 : Int32))) () trivial (by rw [e1]) rfl (Nat.zero_le _) (Nat.zero_le _) dX9_isBlock_8)
def F_X2_quotient (x : Int32) (y : Int32) : Int32 := (if y ≤ 0 then (0 : Int32) else x / y)
abbrev rm_X2_quotient : Room := { frames := 0, cells := 0, slots := 0, locals := 0 }
set_option maxRecDepth 100000 in
set_option maxHeartbeats 4000000 in
theorem m_X2_quotient (l : Launch) (G : GG) (E : EE) (σ μ : Sg) (Y : va_W) (x : Int32) (y : Int32) : KK l G yX2_quotient cX2_quotient 2 (some .int) rm_X2_quotient [.int x, .int y] (Wd G E σ μ Y) (some (.int (F_X2_quotient x y))) (Wd G E σ μ Y) := by
  refine KE.of (by decide) (Nat.le_of_ble_eq_true rfl) ?_
  intro zp ze zs zm za zb zt zc zA C _
  generalize hQ : MQ zb _ za zs _ _ zA = Q
  show V zp l ze rm_X2_quotient zs zm za zb zt zc 2 G zA 0 0 Q 0 [(0, .int x), (1, .int y)] [] (Wd G E σ μ Y)
  refine v_iload_n C 1 rfl dX2_quotient_0 ?_
  refine v_if_le (tgt := 10) C (by decide) dX2_quotient_1 (fun h1 => ?_) (fun h1 => ?_)
  · refine v_iconst (v := (0 : Int32)) C (by decide) dX2_quotient_10 ?_
    have e1 : F_X2_quotient x y = (0 : Int32) := by rw [F_X2_quotient, if_pos h1]
    exact v_Q hQ (v_iret C () trivial (by rw [e1]) rfl (Nat.zero_le _) (Nat.zero_le _) dX2_quotient_11)
  · refine v_iload_n C 0 rfl dX2_quotient_4 ?_
    refine v_iload_n C 1 rfl dX2_quotient_5 ?_
    refine v_idiv C (ne0_of_nle h1) dX2_quotient_6 ?_
    refine v_goto (tgt := 11) C (by decide) dX2_quotient_7 ?_
    have e1 : F_X2_quotient x y = x / y := by rw [F_X2_quotient, if_neg h1]
    exact v_Q hQ (v_iret C () trivial (by rw [e1]) rfl (Nat.zero_le _) (Nat.zero_le _) dX2_quotient_11)
def F_X10_in (v : Int32) (lo : Int32) (hi : Int32) : Int32 := (if v < lo then (0 : Int32) else (if hi < v then (0 : Int32) else (1 : Int32)))
theorem z01_X10_in (v : Int32) (lo : Int32) (hi : Int32) : F_X10_in v lo hi = 0 ∨ F_X10_in v lo hi = 1 := by
  unfold F_X10_in; (repeat' split) <;> first | exact Or.inl rfl | exact Or.inr rfl
abbrev rm_X10_in : Room := { frames := 0, cells := 0, slots := 0, locals := 0 }
set_option maxRecDepth 100000 in
set_option maxHeartbeats 4000000 in
theorem m_X10_in (l : Launch) (G : GG) (E : EE) (σ μ : Sg) (Y : va_W) (v : Int32) (lo : Int32) (hi : Int32) : KK l G yX10_in cX10_in 3 (some .boolean) rm_X10_in [.int v, .int lo, .int hi] (Wd G E σ μ Y) (some (.int (F_X10_in v lo hi))) (Wd G E σ μ Y) := by
  refine KE.of (by decide) (Nat.le_of_ble_eq_true rfl) ?_
  intro zp ze zs zm za zb zt zc zA C _
  generalize hQ : MQ zb _ za zs _ _ zA = Q
  show V zp l ze rm_X10_in zs zm za zb zt zc 3 G zA 0 0 Q 0 [(0, .int v), (1, .int lo), (2, .int hi)] [] (Wd G E σ μ Y)
  refine v_iload_n C 0 rfl dX10_in_0 ?_
  refine v_iload_n C 1 rfl dX10_in_1 ?_
  refine v_icmp_lt (tgt := 14) C (by decide) dX10_in_2 (fun h1 => ?_) (fun h1 => ?_)
  · refine v_iconst (v := (0 : Int32)) C (by decide) dX10_in_14 ?_
    have e1 : F_X10_in v lo hi = (0 : Int32) := by rw [F_X10_in, if_pos h1]
    exact v_Q hQ (v_zret C rfl () trivial (by rw [e1]) rfl (Nat.zero_le _) (Nat.zero_le _) dX10_in_15)
  · refine v_iload_n C 0 rfl dX10_in_5 ?_
    refine v_iload_n C 2 rfl dX10_in_6 ?_
    refine v_icmp_gt (tgt := 14) C (by decide) dX10_in_7 (fun h2 => ?_) (fun h2 => ?_)
    · refine v_iconst (v := (0 : Int32)) C (by decide) dX10_in_14 ?_
      have e1 : F_X10_in v lo hi = (0 : Int32) := by rw [F_X10_in, if_neg h1, if_pos h2]
      exact v_Q hQ (v_zret C rfl () trivial (by rw [e1]) rfl (Nat.zero_le _) (Nat.zero_le _) dX10_in_15)
    · refine v_iconst (v := (1 : Int32)) C (by decide) dX10_in_10 ?_
      refine v_goto (tgt := 15) C (by decide) dX10_in_11 ?_
      have e1 : F_X10_in v lo hi = (1 : Int32) := by rw [F_X10_in, if_neg h1, if_neg h2]
      exact v_Q hQ (v_zret C rfl () trivial (by rw [e1]) rfl (Nat.zero_le _) (Nat.zero_le _) dX10_in_15)
def F_X10_sectorsOf (c : Int32) : Int32 := (12 : Int32) - ((2 : Int32) * (c / (16 : Int32)))
abbrev rm_X10_sectorsOf : Room := { frames := 0, cells := 0, slots := 0, locals := 0 }
set_option maxRecDepth 100000 in
set_option maxHeartbeats 4000000 in
theorem m_X10_sectorsOf (l : Launch) (G : GG) (E : EE) (σ μ : Sg) (Y : va_W) (c : Int32) : KK l G yX10_sectorsOf cX10_sectorsOf 1 (some .int) rm_X10_sectorsOf [.int c] (Wd G E σ μ Y) (some (.int (F_X10_sectorsOf c))) (Wd G E σ μ Y) := by
  refine KE.of (by decide) (Nat.le_of_ble_eq_true rfl) ?_
  intro zp ze zs zm za zb zt zc zA C _
  generalize hQ : MQ zb _ za zs _ _ zA = Q
  show V zp l ze rm_X10_sectorsOf zs zm za zb zt zc 1 G zA 0 0 Q 0 [(0, .int c)] [] (Wd G E σ μ Y)
  refine v_bipush (v := (12 : Int32)) C (by decide) dX10_sectorsOf_0 ?_
  refine v_iconst (v := (2 : Int32)) C (by decide) dX10_sectorsOf_2 ?_
  refine v_iload_n C 0 rfl dX10_sectorsOf_3 ?_
  refine v_bipush (v := (16 : Int32)) C (by decide) dX10_sectorsOf_4 ?_
  refine v_idiv C (by decide) dX10_sectorsOf_6 ?_
  refine v_imul C dX10_sectorsOf_7 ?_
  refine v_isub C dX10_sectorsOf_8 ?_
  have e1 : F_X10_sectorsOf c = (12 : Int32) - ((2 : Int32) * (c / (16 : Int32))) := by rw [F_X10_sectorsOf]
  exact v_Q hQ (v_iret C () trivial (by rw [e1]) rfl (Nat.zero_le _) (Nat.zero_le _) dX10_sectorsOf_9)
def F_X10_isBlock (b : Int32) : Int32 := F_X10_in b (0 : Int32) (571 : Int32)
theorem z01_X10_isBlock (b : Int32) : F_X10_isBlock b = 0 ∨ F_X10_isBlock b = 1 := by
  exact z01_X10_in _ _ _
abbrev rm_X10_isBlock : Room := { frames := 1, cells := 0, slots := 0, locals := 22 }
set_option maxRecDepth 100000 in
set_option maxHeartbeats 4000000 in
theorem m_X10_isBlock (l : Launch) (G : GG) (E : EE) (σ μ : Sg) (Y : va_W) (b : Int32) : KK l G yX10_isBlock cX10_isBlock 1 (some .boolean) rm_X10_isBlock [.int b] (Wd G E σ μ Y) (some (.int (F_X10_isBlock b))) (Wd G E σ μ Y) := by
  refine KE.of (by decide) (Nat.le_of_ble_eq_true rfl) ?_
  intro zp ze zs zm za zb zt zc zA C _
  generalize hQ : MQ zb _ za zs _ _ zA = Q
  show V zp l ze rm_X10_isBlock zs zm za zb zt zc 1 G zA 0 0 Q 0 [(0, .int b)] [] (Wd G E σ μ Y)
  refine v_iload_n C 0 rfl dX10_isBlock_0 ?_
  refine v_iconst (v := (0 : Int32)) C (by decide) dX10_isBlock_1 ?_
  refine v_sipush (v := (571 : Int32)) C (by decide) dX10_isBlock_2 ?_
  refine v_cS1 (rest := []) C ms_RX10_42 (m_X10_in l G E σ μ Y b (0 : Int32) (571 : Int32)) rfl rfl (Nat.le_of_ble_eq_true rfl) ⟨Nat.le_of_ble_eq_true rfl, Nat.le_of_ble_eq_true rfl⟩ ⟨rfl, rfl⟩ ⟨Nat.zero_le _, Nat.zero_le _⟩ dX10_isBlock_5 ?_
  have e1 : F_X10_isBlock b = F_X10_in b (0 : Int32) (571 : Int32) := by rw [F_X10_isBlock]
  exact v_Q hQ (v_zret C (nbz (z01_X10_in b (0 : Int32) (571 : Int32))) () trivial (by rw [e1]) rfl (Nat.zero_le _) (Nat.zero_le _) dX10_isBlock_8)
def F_X10_zoneAt (z : Int32) : Int32 := (if z = 0 then (0 : Int32) else (if z = (1 : Int32) then (192 : Int32) else (if z = (2 : Int32) then (352 : Int32) else (480 : Int32))))
abbrev rm_X10_zoneAt : Room := { frames := 0, cells := 0, slots := 0, locals := 0 }
set_option maxRecDepth 100000 in
set_option maxHeartbeats 4000000 in
theorem m_X10_zoneAt (l : Launch) (G : GG) (E : EE) (σ μ : Sg) (Y : va_W) (z : Int32) : KK l G yX10_zoneAt cX10_zoneAt 1 (some .int) rm_X10_zoneAt [.int z] (Wd G E σ μ Y) (some (.int (F_X10_zoneAt z))) (Wd G E σ μ Y) := by
  refine KE.of (by decide) (Nat.le_of_ble_eq_true rfl) ?_
  intro zp ze zs zm za zb zt zc zA C _
  generalize hQ : MQ zb _ za zs _ _ zA = Q
  show V zp l ze rm_X10_zoneAt zs zm za zb zt zc 1 G zA 0 0 Q 0 [(0, .int z)] [] (Wd G E σ μ Y)
  refine v_iload_n C 0 rfl dX10_zoneAt_0 ?_
  refine v_if_ne (tgt := 8) C (by decide) dX10_zoneAt_1 (fun h1 => ?_) (fun h1 => ?_)
  · refine v_iload_n C 0 rfl dX10_zoneAt_8 ?_
    refine v_iconst (v := (1 : Int32)) C (by decide) dX10_zoneAt_9 ?_
    refine v_icmp_ne (tgt := 19) C (by decide) dX10_zoneAt_10 (fun h2 => ?_) (fun h2 => ?_)
    · refine v_iload_n C 0 rfl dX10_zoneAt_19 ?_
      refine v_iconst (v := (2 : Int32)) C (by decide) dX10_zoneAt_20 ?_
      refine v_icmp_ne (tgt := 30) C (by decide) dX10_zoneAt_21 (fun h3 => ?_) (fun h3 => ?_)
      · refine v_sipush (v := (480 : Int32)) C (by decide) dX10_zoneAt_30 ?_
        have e1 : F_X10_zoneAt z = (480 : Int32) := by rw [F_X10_zoneAt, if_neg h1, if_neg h2, if_neg h3]
        exact v_Q hQ (v_iret C () trivial (by rw [e1]) rfl (Nat.zero_le _) (Nat.zero_le _) dX10_zoneAt_33)
      · refine v_sipush (v := (352 : Int32)) C (by decide) dX10_zoneAt_24 ?_
        refine v_goto (tgt := 33) C (by decide) dX10_zoneAt_27 ?_
        have e1 : F_X10_zoneAt z = (352 : Int32) := by rw [F_X10_zoneAt, if_neg h1, if_neg h2, if_pos h3]
        exact v_Q hQ (v_iret C () trivial (by rw [e1]) rfl (Nat.zero_le _) (Nat.zero_le _) dX10_zoneAt_33)
    · refine v_sipush (v := (192 : Int32)) C (by decide) dX10_zoneAt_13 ?_
      refine v_goto (tgt := 33) C (by decide) dX10_zoneAt_16 ?_
      have e1 : F_X10_zoneAt z = (192 : Int32) := by rw [F_X10_zoneAt, if_neg h1, if_pos h2]
      exact v_Q hQ (v_iret C () trivial (by rw [e1]) rfl (Nat.zero_le _) (Nat.zero_le _) dX10_zoneAt_33)
  · refine v_iconst (v := (0 : Int32)) C (by decide) dX10_zoneAt_4 ?_
    refine v_goto (tgt := 33) C (by decide) dX10_zoneAt_5 ?_
    have e1 : F_X10_zoneAt z = (0 : Int32) := by rw [F_X10_zoneAt, if_pos h1]
    exact v_Q hQ (v_iret C () trivial (by rw [e1]) rfl (Nat.zero_le _) (Nat.zero_le _) dX10_zoneAt_33)
def F_X10_thrown (μ : Sg) : Int32 := μ 24 1
abbrev rm_X10_thrown : Room := { frames := 0, cells := 0, slots := 0, locals := 0 }
set_option maxRecDepth 100000 in
set_option maxHeartbeats 4000000 in
theorem m_X10_thrown (l : Launch) (G : GG) (E : EE) (σ μ : Sg) (Y : va_W) : KK l G yX10_thrown cX10_thrown 1 (some .int) rm_X10_thrown [.ref (E.1 24)] (Wd G E σ μ Y) (some (.int (F_X10_thrown μ))) (Wd G E σ μ Y) := by
  refine KE.of (by decide) (Nat.le_of_ble_eq_true rfl) ?_
  intro zp ze zs zm za zb zt zc zA C _
  generalize hQ : MQ zb _ za zs _ _ zA = Q
  show V zp l ze rm_X10_thrown zs zm za zb zt zc 1 G zA 0 0 Q 0 [(0, .ref (E.1 24))] [] (Wd G E σ μ Y)
  refine v_aload_n C 0 rfl dX10_thrown_0 ?_
  refine v_get (v := .int (μ 24 1)) C fl_RX10_39 24 g_24 rfl dX10_thrown_1 ?_
  have e1 : F_X10_thrown μ = μ 24 1 := by rw [F_X10_thrown]
  exact v_Q hQ (v_iret C () trivial (by rw [e1]) rfl (Nat.zero_le _) (Nat.zero_le _) dX10_thrown_4)
def F_X10_fails (μ : Sg) (c : Int32) : Int32 × Sg := ((0 : Int32), (s2 μ 24 1 c))
abbrev rm_X10_fails : Room := { frames := 0, cells := 0, slots := 0, locals := 0 }
set_option maxRecDepth 100000 in
set_option maxHeartbeats 4000000 in
theorem m_X10_fails (l : Launch) (G : GG) (E : EE) (σ μ : Sg) (Y : va_W) (c : Int32) : KK l G yX10_fails cX10_fails 2 (some .int) rm_X10_fails [.ref (E.1 24), .int c] (Wd G E σ μ Y) (some (.int (F_X10_fails μ c).1)) (Wd G E σ (F_X10_fails μ c).2 Y) := by
  refine KE.of (by decide) (Nat.le_of_ble_eq_true rfl) ?_
  intro zp ze zs zm za zb zt zc zA C _
  generalize hQ : MQ zb _ za zs _ _ zA = Q
  show V zp l ze rm_X10_fails zs zm za zb zt zc 2 G zA 0 0 Q 0 [(0, .ref (E.1 24)), (1, .int c)] [] (Wd G E σ μ Y)
  refine v_aload_n C 0 rfl dX10_fails_0 ?_
  refine v_iload_n C 1 rfl dX10_fails_1 ?_
  refine v_put C fp_RX10_39 24 g_24 rfl rfl (Nat.le_of_ble_eq_true rfl) (p_24_3 _) dX10_fails_2 ?_
  refine v_iconst (v := (0 : Int32)) C (by decide) dX10_fails_5 ?_
  have e1 : F_X10_fails μ c = ((0 : Int32), (s2 μ 24 1 c)) := by rw [F_X10_fails]
  exact v_Q hQ (v_iret C () trivial (by rw [e1]) (by rw [e1]) (Nat.zero_le _) (Nat.zero_le _) dX10_fails_6)
def F_X10_becomes (μ : Sg) (i : Int32) (v : Int32) : Int32 × Sg := (μ 25 (i).toNatClampNeg, (s2 μ 25 (i).toNatClampNeg v))
abbrev rm_X10_becomes : Room := { frames := 0, cells := 0, slots := 0, locals := 0 }
set_option maxRecDepth 100000 in
set_option maxHeartbeats 4000000 in
theorem m_X10_becomes (l : Launch) (G : GG) (E : EE) (σ μ : Sg) (Y : va_W) (i : Int32) (v : Int32) (hi : vp_in i 1700) : KK l G yX10_becomes cX10_becomes 4 (some .int) rm_X10_becomes [.ref (E.1 24), .int i, .int v] (Wd G E σ μ Y) (some (.int (F_X10_becomes μ i v).1)) (Wd G E σ (F_X10_becomes μ i v).2 Y) := by
  refine KE.of (by decide) (Nat.le_of_ble_eq_true rfl) ?_
  intro zp ze zs zm za zb zt zc zA C _
  generalize hQ : MQ zb _ za zs _ _ zA = Q
  show V zp l ze rm_X10_becomes zs zm za zb zt zc 4 G zA 0 0 Q 0 [(0, .ref (E.1 24)), (1, .int i), (2, .int v)] [] (Wd G E σ μ Y)
  refine v_aload_n C 0 rfl dX10_becomes_0 ?_
  refine v_get (v := .ref (E.1 25)) C fl_RX10_7 24 g_24 rfl dX10_becomes_1 ?_
  refine v_iload_n C 1 rfl dX10_becomes_4 ?_
  refine v_iald (v := μ 25 (i).toNatClampNeg) C 25 g_25 (by assumption) rfl dX10_becomes_5 ?_
  refine v_istore_n (lv' := [(3, .int (μ 25 (i).toNatClampNeg)), (0, .ref (E.1 24)), (1, .int i), (2, .int v)]) C (Nat.le_of_ble_eq_true rfl) rfl dX10_becomes_6 ?_
  refine v_aload_n C 1 rfl dX10_becomes_7 ?_
  refine v_get (v := .ref (E.1 25)) C fl_RX10_7 24 g_24 rfl dX10_becomes_8 ?_
  refine v_iload_n C 2 rfl dX10_becomes_11 ?_
  refine v_iload_n C 3 rfl dX10_becomes_12 ?_
  refine v_iast (ws' := Wd G E σ (s2 μ 25 (i).toNatClampNeg v) Y) C 25 g_25 (by assumption) (p_25 _ _) dX10_becomes_13 ?_
  refine v_iload_n C 0 rfl dX10_becomes_14 ?_
  have e1 : F_X10_becomes μ i v = (μ 25 (i).toNatClampNeg, (s2 μ 25 (i).toNatClampNeg v)) := by rw [F_X10_becomes]
  exact v_Q hQ (v_iret C () trivial (by rw [e1]) (by rw [e1]) (Nat.zero_le _) (Nat.zero_le _) dX10_becomes_15)
def F_X10_setCurve (μ : Sg) (a : Int32) (b : Int32) (c : Int32) : Sg := (if (F_X10_in a (0 : Int32) (50 : Int32)) = 0 then (s2 (s2 μ 24 1 (0 : Int32)) 24 1 (1 : Int32)) else (if (F_X10_in b (0 : Int32) (20 : Int32)) = 0 then (s2 (s2 μ 24 1 (0 : Int32)) 24 1 (1 : Int32)) else (if (F_X10_in c (0 : Int32) (9 : Int32)) = 0 then (s2 (s2 μ 24 1 (0 : Int32)) 24 1 (1 : Int32)) else (s2 (s2 (s2 (s2 μ 24 1 (0 : Int32)) 25 0 a) 25 1 b) 25 2 c))))
abbrev rm_X10_setCurve : Room := { frames := 1, cells := 0, slots := 0, locals := 22 }
theorem tn_0 : (0 : Int32).toNatClampNeg = 0 := by decide
theorem vi_0_1700 : vp_in (0 : Int32) 1700 := vp_lit tn_0 (by decide) (by decide)
theorem tn_1 : (1 : Int32).toNatClampNeg = 1 := by decide
theorem vi_1_1700 : vp_in (1 : Int32) 1700 := vp_lit tn_1 (by decide) (by decide)
theorem tn_2 : (2 : Int32).toNatClampNeg = 2 := by decide
theorem vi_2_1700 : vp_in (2 : Int32) 1700 := vp_lit tn_2 (by decide) (by decide)
set_option maxRecDepth 100000 in
set_option maxHeartbeats 4000000 in
theorem m_X10_setCurve (l : Launch) (G : GG) (E : EE) (σ μ : Sg) (Y : va_W) (a : Int32) (b : Int32) (c : Int32) : KK l G yX10_setCurve cX10_setCurve 4 none rm_X10_setCurve [.ref (E.1 24), .int a, .int b, .int c] (Wd G E σ μ Y) none (Wd G E σ (F_X10_setCurve μ a b c) Y) := by
  refine KE.of (by decide) (Nat.le_of_ble_eq_true rfl) ?_
  intro zp ze zs zm za zb zt zc zA C _
  generalize hQ : MQ zb _ za zs _ _ zA = Q
  show V zp l ze rm_X10_setCurve zs zm za zb zt zc 4 G zA 0 0 Q 0 [(0, .ref (E.1 24)), (1, .int a), (2, .int b), (3, .int c)] [] (Wd G E σ μ Y)
  refine v_aload_n C 0 rfl dX10_setCurve_0 ?_
  refine v_iconst (v := (0 : Int32)) C (by decide) dX10_setCurve_1 ?_
  refine v_put C fp_RX10_39 24 g_24 rfl rfl (Nat.le_of_ble_eq_true rfl) (p_24_3 _) dX10_setCurve_2 ?_
  refine v_iload_n C 1 rfl dX10_setCurve_5 ?_
  refine v_iconst (v := (0 : Int32)) C (by decide) dX10_setCurve_6 ?_
  refine v_bipush (v := (50 : Int32)) C (by decide) dX10_setCurve_7 ?_
  refine v_cS1 (rest := []) C ms_RX10_42 (m_X10_in l G E σ (s2 μ 24 1 (0 : Int32)) Y a (0 : Int32) (50 : Int32)) rfl rfl (Nat.le_of_ble_eq_true rfl) ⟨Nat.le_of_ble_eq_true rfl, Nat.le_of_ble_eq_true rfl⟩ ⟨rfl, rfl⟩ ⟨Nat.zero_le _, Nat.zero_le _⟩ dX10_setCurve_9 ?_
  refine v_if_eq (tgt := 35) C (by decide) dX10_setCurve_12 (fun h1 => ?_) (fun h1 => ?_)
  · refine v_aload_n C 0 rfl dX10_setCurve_35 ?_
    refine v_iconst (v := (1 : Int32)) C (by decide) dX10_setCurve_36 ?_
    refine v_put C fp_RX10_39 24 g_24 rfl rfl (Nat.le_of_ble_eq_true rfl) (p_24_3 _) dX10_setCurve_37 ?_
    have e1 : F_X10_setCurve μ a b c = (s2 (s2 μ 24 1 (0 : Int32)) 24 1 (1 : Int32)) := by rw [F_X10_setCurve, if_pos h1]
    exact v_Q hQ (v_vret C () trivial rfl (by rw [e1]) (Nat.zero_le _) (Nat.zero_le _) dX10_setCurve_40)
  · refine v_iload_n C 2 rfl dX10_setCurve_15 ?_
    refine v_iconst (v := (0 : Int32)) C (by decide) dX10_setCurve_16 ?_
    refine v_bipush (v := (20 : Int32)) C (by decide) dX10_setCurve_17 ?_
    refine v_cS1 (rest := []) C ms_RX10_42 (m_X10_in l G E σ (s2 μ 24 1 (0 : Int32)) Y b (0 : Int32) (20 : Int32)) rfl rfl (Nat.le_of_ble_eq_true rfl) ⟨Nat.le_of_ble_eq_true rfl, Nat.le_of_ble_eq_true rfl⟩ ⟨rfl, rfl⟩ ⟨Nat.zero_le _, Nat.zero_le _⟩ dX10_setCurve_19 ?_
    refine v_if_eq (tgt := 35) C (by decide) dX10_setCurve_22 (fun h2 => ?_) (fun h2 => ?_)
    · refine v_aload_n C 0 rfl dX10_setCurve_35 ?_
      refine v_iconst (v := (1 : Int32)) C (by decide) dX10_setCurve_36 ?_
      refine v_put C fp_RX10_39 24 g_24 rfl rfl (Nat.le_of_ble_eq_true rfl) (p_24_3 _) dX10_setCurve_37 ?_
      have e1 : F_X10_setCurve μ a b c = (s2 (s2 μ 24 1 (0 : Int32)) 24 1 (1 : Int32)) := by rw [F_X10_setCurve, if_neg h1, if_pos h2]
      exact v_Q hQ (v_vret C () trivial rfl (by rw [e1]) (Nat.zero_le _) (Nat.zero_le _) dX10_setCurve_40)
    · refine v_iload_n C 3 rfl dX10_setCurve_25 ?_
      refine v_iconst (v := (0 : Int32)) C (by decide) dX10_setCurve_26 ?_
      refine v_bipush (v := (9 : Int32)) C (by decide) dX10_setCurve_27 ?_
      refine v_cS1 (rest := []) C ms_RX10_42 (m_X10_in l G E σ (s2 μ 24 1 (0 : Int32)) Y c (0 : Int32) (9 : Int32)) rfl rfl (Nat.le_of_ble_eq_true rfl) ⟨Nat.le_of_ble_eq_true rfl, Nat.le_of_ble_eq_true rfl⟩ ⟨rfl, rfl⟩ ⟨Nat.zero_le _, Nat.zero_le _⟩ dX10_setCurve_29 ?_
      refine v_if_ne (tgt := 41) C (by decide) dX10_setCurve_32 (fun h3 => ?_) (fun h3 => ?_)
      · refine v_aload_n C 0 rfl dX10_setCurve_41 ?_
        refine v_get (v := .ref (E.1 25)) C fl_RX10_7 24 g_24 rfl dX10_setCurve_42 ?_
        refine v_iconst (v := (0 : Int32)) C (by decide) dX10_setCurve_45 ?_
        refine v_iload_n C 1 rfl dX10_setCurve_46 ?_
        refine v_iast (ws' := Wd G E σ (s2 (s2 μ 24 1 (0 : Int32)) 25 0 a) Y) C 25 g_25 vi_0_1700 (by rw [tn_0]; exact p_25 _ _) dX10_setCurve_47 ?_
        refine v_aload_n C 0 rfl dX10_setCurve_48 ?_
        refine v_get (v := .ref (E.1 25)) C fl_RX10_7 24 g_24 rfl dX10_setCurve_49 ?_
        refine v_iconst (v := (1 : Int32)) C (by decide) dX10_setCurve_52 ?_
        refine v_iload_n C 2 rfl dX10_setCurve_53 ?_
        refine v_iast (ws' := Wd G E σ (s2 (s2 (s2 μ 24 1 (0 : Int32)) 25 0 a) 25 1 b) Y) C 25 g_25 vi_1_1700 (by rw [tn_1]; exact p_25 _ _) dX10_setCurve_54 ?_
        refine v_aload_n C 0 rfl dX10_setCurve_55 ?_
        refine v_get (v := .ref (E.1 25)) C fl_RX10_7 24 g_24 rfl dX10_setCurve_56 ?_
        refine v_iconst (v := (2 : Int32)) C (by decide) dX10_setCurve_59 ?_
        refine v_iload_n C 3 rfl dX10_setCurve_60 ?_
        refine v_iast (ws' := Wd G E σ (s2 (s2 (s2 (s2 μ 24 1 (0 : Int32)) 25 0 a) 25 1 b) 25 2 c) Y) C 25 g_25 vi_2_1700 (by rw [tn_2]; exact p_25 _ _) dX10_setCurve_61 ?_
        have e1 : F_X10_setCurve μ a b c = (s2 (s2 (s2 (s2 μ 24 1 (0 : Int32)) 25 0 a) 25 1 b) 25 2 c) := by rw [F_X10_setCurve, if_neg h1, if_neg h2, if_neg h3]
        exact v_Q hQ (v_vret C () trivial rfl (by rw [e1]) (Nat.zero_le _) (Nat.zero_le _) dX10_setCurve_62)
      · refine v_aload_n C 0 rfl dX10_setCurve_35 ?_
        refine v_iconst (v := (1 : Int32)) C (by decide) dX10_setCurve_36 ?_
        refine v_put C fp_RX10_39 24 g_24 rfl rfl (Nat.le_of_ble_eq_true rfl) (p_24_3 _) dX10_setCurve_37 ?_
        have e1 : F_X10_setCurve μ a b c = (s2 (s2 μ 24 1 (0 : Int32)) 24 1 (1 : Int32)) := by rw [F_X10_setCurve, if_neg h1, if_neg h2, if_pos h3]
        exact v_Q hQ (v_vret C () trivial rfl (by rw [e1]) (Nat.zero_le _) (Nat.zero_le _) dX10_setCurve_40)
