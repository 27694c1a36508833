theorem root_step : ∀ d, d ≤ 63 → ∀ j, j ≤ 8 → ¬ (nI d < (nI j + 1) * (nI j + 1)) → j + 1 ≤ 8 := by decide +kernel
def F_X10_thrown (μ : Sg) : Int32 := μ 24 1
abbrev rm_X10_thrown : Room := { frames := 0, cells := 0, slots := 0, locals := 0 }
set_option maxRecDepth 100000 in
set_option maxHeartbeats 4000000 in
theorem m_X10_thrown (l : Launch) (G : GG) (E : EE) (σ μ : Sg) (Y : va_W) : KK l G yX10_thrown cX10_thrown 1 (some .int) rm_X10_thrown [.ref (E.1 24)] (Wd G E σ μ Y) (some (.int (F_X10_thrown μ))) (Wd G E σ μ Y) := by
  refine KE.of (by decide) (Nat.le_of_ble_eq_true rfl) ?_
  intro zp ze zs zm za zb zt zc zA C _
  generalize hQ : MQ zb _ za zs _ _ zA = Q
  show V zp l ze rm_X10_thrown zs zm za zb zt zc 1 G zA 0 0 Q 0 [(0, .ref (E.1 24))] [] (Wd G E σ μ Y)
  refine v_aload_n C 0 rfl dX10_thrown_0 ?_
  refine v_get (v := .int (μ 24 1)) C fl_RX10_39 24 g_24 rfl dX10_thrown_1 ?_
  have e1 : F_X10_thrown μ = μ 24 1 := by rw [F_X10_thrown]
  exact v_Q hQ (v_iret C () trivial (by rw [e1]) rfl (Nat.zero_le _) (Nat.zero_le _) dX10_thrown_4)
def F_X10_fails (μ : Sg) (cd : Int32) : Int32 × Sg := ((0 : Int32), (s2 μ 24 1 cd))
abbrev rm_X10_fails : Room := { frames := 0, cells := 0, slots := 0, locals := 0 }
set_option maxRecDepth 100000 in
set_option maxHeartbeats 4000000 in
theorem m_X10_fails (l : Launch) (G : GG) (E : EE) (σ μ : Sg) (Y : va_W) (cd : Int32) : KK l G yX10_fails cX10_fails 2 (some .int) rm_X10_fails [.ref (E.1 24), .int cd] (Wd G E σ μ Y) (some (.int (F_X10_fails μ cd).1)) (Wd G E σ (F_X10_fails μ cd).2 Y) := by
  refine KE.of (by decide) (Nat.le_of_ble_eq_true rfl) ?_
  intro zp ze zs zm za zb zt zc zA C _
  generalize hQ : MQ zb _ za zs _ _ zA = Q
  show V zp l ze rm_X10_fails zs zm za zb zt zc 2 G zA 0 0 Q 0 [(0, .ref (E.1 24)), (1, .int cd)] [] (Wd G E σ μ Y)
  refine v_aload_n C 0 rfl dX10_fails_0 ?_
  refine v_iload_n C 1 rfl dX10_fails_1 ?_
  refine v_put C fp_RX10_39 24 g_24 rfl rfl (Nat.le_of_ble_eq_true rfl) (p_24_3 _) dX10_fails_2 ?_
  refine v_iconst (v := (0 : Int32)) C (by decide) dX10_fails_5 ?_
  have e1 : F_X10_fails μ cd = ((0 : Int32), (s2 μ 24 1 cd)) := by rw [F_X10_fails]
  exact v_Q hQ (v_iret C () trivial (by rw [e1]) (by rw [e1]) (Nat.zero_le _) (Nat.zero_le _) dX10_fails_6)
def F_X10_in (v : Int32) (lo : Int32) (hi : Int32) : Int32 := (if v < lo then (0 : Int32) else (if hi < v then (0 : Int32) else (1 : Int32)))
theorem z01_X10_in (v : Int32) (lo : Int32) (hi : Int32) : F_X10_in v lo hi = 0 ∨ F_X10_in v lo hi = 1 := by
  unfold F_X10_in; (repeat' split) <;> first | exact Or.inl rfl | exact Or.inr rfl
abbrev rm_X10_in : Room := { frames := 0, cells := 0, slots := 0, locals := 0 }
set_option maxRecDepth 100000 in
set_option maxHeartbeats 4000000 in
theorem m_X10_in (l : Launch) (G : GG) (E : EE) (σ μ : Sg) (Y : va_W) (v : Int32) (lo : Int32) (hi : Int32) : KK l G yX10_in cX10_in 3 (some .boolean) rm_X10_in [.int v, .int lo, .int hi] (Wd G E σ μ Y) (some (.int (F_X10_in v lo hi))) (Wd G E σ μ Y) := by
  refine KE.of (by decide) (Nat.le_of_ble_eq_true rfl) ?_
  intro zp ze zs zm za zb zt zc zA C _
  generalize hQ : MQ zb _ za zs _ _ zA = Q
  show V zp l ze rm_X10_in zs zm za zb zt zc 3 G zA 0 0 Q 0 [(0, .int v), (1, .int lo), (2, .int hi)] [] (Wd G E σ μ Y)
  refine v_iload_n C 0 rfl dX10_in_0 ?_
  refine v_iload_n C 1 rfl dX10_in_1 ?_
  refine v_icmp_lt (tgt := 14) C (by decide) dX10_in_2 (fun h1 => ?_) (fun h1 => ?_)
  · refine v_iconst (v := (0 : Int32)) C (by decide) dX10_in_14 ?_
    have e1 : F_X10_in v lo hi = (0 : Int32) := by rw [F_X10_in, if_pos h1]
    exact v_Q hQ (v_zret C rfl () trivial (by rw [e1]) rfl (Nat.zero_le _) (Nat.zero_le _) dX10_in_15)
  · refine v_iload_n C 0 rfl dX10_in_5 ?_
    refine v_iload_n C 2 rfl dX10_in_6 ?_
    refine v_icmp_gt (tgt := 14) C (by decide) dX10_in_7 (fun h2 => ?_) (fun h2 => ?_)
    · refine v_iconst (v := (0 : Int32)) C (by decide) dX10_in_14 ?_
      have e1 : F_X10_in v lo hi = (0 : Int32) := by rw [F_X10_in, if_neg h1, if_pos h2]
      exact v_Q hQ (v_zret C rfl () trivial (by rw [e1]) rfl (Nat.zero_le _) (Nat.zero_le _) dX10_in_15)
    · refine v_iconst (v := (1 : Int32)) C (by decide) dX10_in_10 ?_
      refine v_goto (tgt := 15) C (by decide) dX10_in_11 ?_
      have e1 : F_X10_in v lo hi = (1 : Int32) := by rw [F_X10_in, if_neg h1, if_neg h2]
      exact v_Q hQ (v_zret C rfl () trivial (by rw [e1]) rfl (Nat.zero_le _) (Nat.zero_le _) dX10_in_15)
def F_X10_isBlock (b : Int32) : Int32 := F_X10_in b (0 : Int32) (571 : Int32)
theorem z01_X10_isBlock (b : Int32) : F_X10_isBlock b = 0 ∨ F_X10_isBlock b = 1 := by
  exact z01_X10_in _ _ _
abbrev rm_X10_isBlock : Room := { frames := 1, cells := 0, slots := 0, locals := 22 }
set_option maxRecDepth 100000 in
set_option maxHeartbeats 4000000 in
theorem m_X10_isBlock (l : Launch) (G : GG) (E : EE) (σ μ : Sg) (Y : va_W) (b : Int32) : KK l G yX10_isBlock cX10_isBlock 1 (some .boolean) rm_X10_isBlock [.int b] (Wd G E σ μ Y) (some (.int (F_X10_isBlock b))) (Wd G E σ μ Y) := by
  refine KE.of (by decide) (Nat.le_of_ble_eq_true rfl) ?_
  intro zp ze zs zm za zb zt zc zA C _
  generalize hQ : MQ zb _ za zs _ _ zA = Q
  show V zp l ze rm_X10_isBlock zs zm za zb zt zc 1 G zA 0 0 Q 0 [(0, .int b)] [] (Wd G E σ μ Y)
  refine v_iload_n C 0 rfl dX10_isBlock_0 ?_
  refine v_iconst (v := (0 : Int32)) C (by decide) dX10_isBlock_1 ?_
  refine v_sipush (v := (571 : Int32)) C (by decide) dX10_isBlock_2 ?_
  refine v_cS1 (rest := []) C ms_RX10_42 (m_X10_in l G E σ μ Y b (0 : Int32) (571 : Int32)) rfl rfl (Nat.le_of_ble_eq_true rfl) ⟨Nat.le_of_ble_eq_true rfl, Nat.le_of_ble_eq_true rfl⟩ ⟨rfl, rfl⟩ ⟨Nat.zero_le _, Nat.zero_le _⟩ dX10_isBlock_5 ?_
  have e1 : F_X10_isBlock b = F_X10_in b (0 : Int32) (571 : Int32) := by rw [F_X10_isBlock]
  exact v_Q hQ (v_zret C (nbz (z01_X10_in b (0 : Int32) (571 : Int32))) () trivial (by rw [e1]) rfl (Nat.zero_le _) (Nat.zero_le _) dX10_isBlock_8)
def F_X10_isRequest (μ : Sg) (r : Int32) : Int32 := F_X10_in r (0 : Int32) ((μ 25 12) - (1 : Int32))
theorem z01_X10_isRequest (μ : Sg) (r : Int32) : F_X10_isRequest μ r = 0 ∨ F_X10_isRequest μ r = 1 := by
  exact z01_X10_in _ _ _
abbrev rm_X10_isRequest : Room := { frames := 1, cells := 0, slots := 0, locals := 22 }
theorem tn_12 : (12 : Int32).toNatClampNeg = 12 := by decide
theorem vi_12_1700 : vp_in (12 : Int32) 1700 := vp_lit tn_12 (by decide) (by decide)
set_option maxRecDepth 100000 in
set_option maxHeartbeats 4000000 in
theorem m_X10_isRequest (l : Launch) (G : GG) (E : EE) (σ μ : Sg) (Y : va_W) (r : Int32) : KK l G yX10_isRequest cX10_isRequest 2 (some .boolean) rm_X10_isRequest [.ref (E.1 24), .int r] (Wd G E σ μ Y) (some (.int (F_X10_isRequest μ r))) (Wd G E σ μ Y) := by
  refine KE.of (by decide) (Nat.le_of_ble_eq_true rfl) ?_
  intro zp ze zs zm za zb zt zc zA C _
  generalize hQ : MQ zb _ za zs _ _ zA = Q
  show V zp l ze rm_X10_isRequest zs zm za zb zt zc 2 G zA 0 0 Q 0 [(0, .ref (E.1 24)), (1, .int r)] [] (Wd G E σ μ Y)
  refine v_iload_n C 1 rfl dX10_isRequest_0 ?_
  refine v_iconst (v := (0 : Int32)) C (by decide) dX10_isRequest_1 ?_
  refine v_aload_n C 0 rfl dX10_isRequest_2 ?_
  refine v_get (v := .ref (E.1 25)) C fl_RX10_7 24 g_24 rfl dX10_isRequest_3 ?_
  refine v_bipush (v := (12 : Int32)) C (by decide) dX10_isRequest_6 ?_
  refine v_iald (v := μ 25 12) C 25 g_25 vi_12_1700 (rdl tn_12 rfl) dX10_isRequest_8 ?_
  refine v_iconst (v := (1 : Int32)) C (by decide) dX10_isRequest_9 ?_
  refine v_isub C dX10_isRequest_10 ?_
  refine v_cS1 (rest := []) C ms_RX10_42 (m_X10_in l G E σ μ Y r (0 : Int32) ((μ 25 12) - (1 : Int32))) rfl rfl (Nat.le_of_ble_eq_true rfl) ⟨Nat.le_of_ble_eq_true rfl, Nat.le_of_ble_eq_true rfl⟩ ⟨rfl, rfl⟩ ⟨Nat.zero_le _, Nat.zero_le _⟩ dX10_isRequest_11 ?_
  have e1 : F_X10_isRequest μ r = F_X10_in r (0 : Int32) ((μ 25 12) - (1 : Int32)) := by rw [F_X10_isRequest]
  exact v_Q hQ (v_zret C (nbz (z01_X10_in r (0 : Int32) ((μ 25 12) - (1 : Int32)))) () trivial (by rw [e1]) rfl (Nat.zero_le _) (Nat.zero_le _) dX10_isRequest_14)
def F_X10_sectorsOf (cy : Int32) : Int32 := (12 : Int32) - ((2 : Int32) * (cy / (16 : Int32)))
abbrev rm_X10_sectorsOf : Room := { frames := 0, cells := 0, slots := 0, locals := 0 }
set_option maxRecDepth 100000 in
set_option maxHeartbeats 4000000 in
theorem m_X10_sectorsOf (l : Launch) (G : GG) (E : EE) (σ μ : Sg) (Y : va_W) (cy : Int32) : KK l G yX10_sectorsOf cX10_sectorsOf 1 (some .int) rm_X10_sectorsOf [.int cy] (Wd G E σ μ Y) (some (.int (F_X10_sectorsOf cy))) (Wd G E σ μ Y) := by
  refine KE.of (by decide) (Nat.le_of_ble_eq_true rfl) ?_
  intro zp ze zs zm za zb zt zc zA C _
  generalize hQ : MQ zb _ za zs _ _ zA = Q
  show V zp l ze rm_X10_sectorsOf zs zm za zb zt zc 1 G zA 0 0 Q 0 [(0, .int cy)] [] (Wd G E σ μ Y)
  refine v_bipush (v := (12 : Int32)) C (by decide) dX10_sectorsOf_0 ?_
  refine v_iconst (v := (2 : Int32)) C (by decide) dX10_sectorsOf_2 ?_
  refine v_iload_n C 0 rfl dX10_sectorsOf_3 ?_
  refine v_bipush (v := (16 : Int32)) C (by decide) dX10_sectorsOf_4 ?_
  refine v_idiv C (by decide) dX10_sectorsOf_6 ?_
  refine v_imul C dX10_sectorsOf_7 ?_
  refine v_isub C dX10_sectorsOf_8 ?_
  have e1 : F_X10_sectorsOf cy = (12 : Int32) - ((2 : Int32) * (cy / (16 : Int32))) := by rw [F_X10_sectorsOf]
  exact v_Q hQ (v_iret C () trivial (by rw [e1]) rfl (Nat.zero_le _) (Nat.zero_le _) dX10_sectorsOf_9)
def F_X10_ticksOf (cy : Int32) : Int32 := (120 : Int32) / (F_X10_sectorsOf cy)
abbrev rm_X10_ticksOf : Room := { frames := 1, cells := 0, slots := 0, locals := 20 }
set_option maxRecDepth 100000 in
set_option maxHeartbeats 4000000 in
theorem m_X10_ticksOf (l : Launch) (G : GG) (E : EE) (σ μ : Sg) (Y : va_W) (cy : Int32) (hs : ¬ F_X10_sectorsOf cy = 0) : KK l G yX10_ticksOf cX10_ticksOf 1 (some .int) rm_X10_ticksOf [.int cy] (Wd G E σ μ Y) (some (.int (F_X10_ticksOf cy))) (Wd G E σ μ Y) := by
  refine KE.of (by decide) (Nat.le_of_ble_eq_true rfl) ?_
  intro zp ze zs zm za zb zt zc zA C _
  generalize hQ : MQ zb _ za zs _ _ zA = Q
  show V zp l ze rm_X10_ticksOf zs zm za zb zt zc 1 G zA 0 0 Q 0 [(0, .int cy)] [] (Wd G E σ μ Y)
  refine v_bipush (v := (120 : Int32)) C (by decide) dX10_ticksOf_0 ?_
  refine v_iload_n C 0 rfl dX10_ticksOf_2 ?_
  refine v_cS1 (rest := [.int (120 : Int32)]) C ms_RX10_46 (m_X10_sectorsOf l G E σ μ Y cy) rfl rfl (Nat.le_of_ble_eq_true rfl) ⟨Nat.le_of_ble_eq_true rfl, Nat.le_of_ble_eq_true rfl⟩ ⟨rfl, rfl⟩ ⟨Nat.zero_le _, Nat.zero_le _⟩ dX10_ticksOf_3 ?_
  refine v_idiv C hs dX10_ticksOf_6 ?_
  have e1 : F_X10_ticksOf cy = (120 : Int32) / (F_X10_sectorsOf cy) := by rw [F_X10_ticksOf]
  exact v_Q hQ (v_iret C () trivial (by rw [e1]) rfl (Nat.zero_le _) (Nat.zero_le _) dX10_ticksOf_7)
def F_X10_zoneAt (z : Int32) : Int32 := (if z = 0 then (0 : Int32) else (if z = (1 : Int32) then (192 : Int32) else (if z = (2 : Int32) then (352 : Int32) else (480 : Int32))))
abbrev rm_X10_zoneAt : Room := { frames := 0, cells := 0, slots := 0, locals := 0 }
set_option maxRecDepth 100000 in
set_option maxHeartbeats 4000000 in
theorem m_X10_zoneAt (l : Launch) (G : GG) (E : EE) (σ μ : Sg) (Y : va_W) (z : Int32) : KK l G yX10_zoneAt cX10_zoneAt 1 (some .int) rm_X10_zoneAt [.int z] (Wd G E σ μ Y) (some (.int (F_X10_zoneAt z))) (Wd G E σ μ Y) := by
  refine KE.of (by decide) (Nat.le_of_ble_eq_true rfl) ?_
  intro zp ze zs zm za zb zt zc zA C _
  generalize hQ : MQ zb _ za zs _ _ zA = Q
  show V zp l ze rm_X10_zoneAt zs zm za zb zt zc 1 G zA 0 0 Q 0 [(0, .int z)] [] (Wd G E σ μ Y)
  refine v_iload_n C 0 rfl dX10_zoneAt_0 ?_
  refine v_if_ne (tgt := 8) C (by decide) dX10_zoneAt_1 (fun h1 => ?_) (fun h1 => ?_)
  · refine v_iload_n C 0 rfl dX10_zoneAt_8 ?_
    refine v_iconst (v := (1 : Int32)) C (by decide) dX10_zoneAt_9 ?_
    refine v_icmp_ne (tgt := 19) C (by decide) dX10_zoneAt_10 (fun h2 => ?_) (fun h2 => ?_)
    · refine v_iload_n C 0 rfl dX10_zoneAt_19 ?_
      refine v_iconst (v := (2 : Int32)) C (by decide) dX10_zoneAt_20 ?_
      refine v_icmp_ne (tgt := 30) C (by decide) dX10_zoneAt_21 (fun h3 => ?_) (fun h3 => ?_)
      · refine v_sipush (v := (480 : Int32)) C (by decide) dX10_zoneAt_30 ?_
        have e1 : F_X10_zoneAt z = (480 : Int32) := by rw [F_X10_zoneAt, if_neg h1, if_neg h2, if_neg h3]
        exact v_Q hQ (v_iret C () trivial (by rw [e1]) rfl (Nat.zero_le _) (Nat.zero_le _) dX10_zoneAt_33)
      · refine v_sipush (v := (352 : Int32)) C (by decide) dX10_zoneAt_24 ?_
        refine v_goto (tgt := 33) C (by decide) dX10_zoneAt_27 ?_
        have e1 : F_X10_zoneAt z = (352 : Int32) := by rw [F_X10_zoneAt, if_neg h1, if_neg h2, if_pos h3]
        exact v_Q hQ (v_iret C () trivial (by rw [e1]) rfl (Nat.zero_le _) (Nat.zero_le _) dX10_zoneAt_33)
    · refine v_sipush (v := (192 : Int32)) C (by decide) dX10_zoneAt_13 ?_
      refine v_goto (tgt := 33) C (by decide) dX10_zoneAt_16 ?_
      have e1 : F_X10_zoneAt z = (192 : Int32) := by rw [F_X10_zoneAt, if_neg h1, if_pos h2]
      exact v_Q hQ (v_iret C () trivial (by rw [e1]) rfl (Nat.zero_le _) (Nat.zero_le _) dX10_zoneAt_33)
  · refine v_iconst (v := (0 : Int32)) C (by decide) dX10_zoneAt_4 ?_
    refine v_goto (tgt := 33) C (by decide) dX10_zoneAt_5 ?_
    have e1 : F_X10_zoneAt z = (0 : Int32) := by rw [F_X10_zoneAt, if_pos h1]
    exact v_Q hQ (v_iret C () trivial (by rw [e1]) rfl (Nat.zero_le _) (Nat.zero_le _) dX10_zoneAt_33)
def F_X10_firstOf (cy : Int32) : Int32 := (F_X10_zoneAt (cy / (16 : Int32))) + ((cy - cy / (16 : Int32) * (16 : Int32)) * (F_X10_sectorsOf cy))
abbrev rm_X10_firstOf : Room := { frames := 1, cells := 0, slots := 0, locals := 20 }
set_option maxRecDepth 100000 in
set_option maxHeartbeats 4000000 in
theorem m_X10_firstOf (l : Launch) (G : GG) (E : EE) (σ μ : Sg) (Y : va_W) (cy : Int32) : KK l G yX10_firstOf cX10_firstOf 1 (some .int) rm_X10_firstOf [.int cy] (Wd G E σ μ Y) (some (.int (F_X10_firstOf cy))) (Wd G E σ μ Y) := by
  refine KE.of (by decide) (Nat.le_of_ble_eq_true rfl) ?_
  intro zp ze zs zm za zb zt zc zA C _
  generalize hQ : MQ zb _ za zs _ _ zA = Q
  show V zp l ze rm_X10_firstOf zs zm za zb zt zc 1 G zA 0 0 Q 0 [(0, .int cy)] [] (Wd G E σ μ Y)
  refine v_iload_n C 0 rfl dX10_firstOf_0 ?_
  refine v_bipush (v := (16 : Int32)) C (by decide) dX10_firstOf_1 ?_
  refine v_idiv C (by decide) dX10_firstOf_3 ?_
  refine v_cS1 (rest := []) C ms_RX10_50 (m_X10_zoneAt l G E σ μ Y (cy / (16 : Int32))) rfl rfl (Nat.le_of_ble_eq_true rfl) ⟨Nat.le_of_ble_eq_true rfl, Nat.le_of_ble_eq_true rfl⟩ ⟨rfl, rfl⟩ ⟨Nat.zero_le _, Nat.zero_le _⟩ dX10_firstOf_4 ?_
  refine v_iload_n C 0 rfl dX10_firstOf_7 ?_
  refine v_bipush (v := (16 : Int32)) C (by decide) dX10_firstOf_8 ?_
  refine v_irem C (by decide) dX10_firstOf_10 ?_
  refine v_iload_n C 0 rfl dX10_firstOf_11 ?_
  refine v_cS1 (rest := [.int (cy - cy / (16 : Int32) * (16 : Int32)), .int (F_X10_zoneAt (cy / (16 : Int32)))]) C ms_RX10_46 (m_X10_sectorsOf l G E σ μ Y cy) rfl rfl (Nat.le_of_ble_eq_true rfl) ⟨Nat.le_of_ble_eq_true rfl, Nat.le_of_ble_eq_true rfl⟩ ⟨rfl, rfl⟩ ⟨Nat.zero_le _, Nat.zero_le _⟩ dX10_firstOf_12 ?_
  refine v_imul C dX10_firstOf_15 ?_
  refine v_iadd C dX10_firstOf_16 ?_
  have e1 : F_X10_firstOf cy = (F_X10_zoneAt (cy / (16 : Int32))) + ((cy - cy / (16 : Int32) * (16 : Int32)) * (F_X10_sectorsOf cy)) := by rw [F_X10_firstOf]
  exact v_Q hQ (v_iret C () trivial (by rw [e1]) rfl (Nat.zero_le _) (Nat.zero_le _) dX10_firstOf_17)
def F_X10_cylinderAt (pl : Int32) : Int32 := (if (192 : Int32) ≤ pl then (if (352 : Int32) ≤ pl then (if (480 : Int32) ≤ pl then ((16 : Int32) * (3 : Int32)) + ((pl - (F_X10_zoneAt (3 : Int32))) / (F_X10_sectorsOf ((16 : Int32) * (3 : Int32)))) else ((16 : Int32) * (2 : Int32)) + ((pl - (F_X10_zoneAt (2 : Int32))) / (F_X10_sectorsOf ((16 : Int32) * (2 : Int32))))) else ((16 : Int32) * (1 : Int32)) + ((pl - (F_X10_zoneAt (1 : Int32))) / (F_X10_sectorsOf ((16 : Int32) * (1 : Int32))))) else ((16 : Int32) * (0 : Int32)) + ((pl - (F_X10_zoneAt (0 : Int32))) / (F_X10_sectorsOf ((16 : Int32) * (0 : Int32)))))
abbrev rm_X10_cylinderAt : Room := { frames := 1, cells := 0, slots := 0, locals := 20 }
set_option maxRecDepth 100000 in
set_option maxHeartbeats 4000000 in
theorem m_X10_cylinderAt (l : Launch) (G : GG) (E : EE) (σ μ : Sg) (Y : va_W) (pl : Int32) : KK l G yX10_cylinderAt cX10_cylinderAt 2 (some .int) rm_X10_cylinderAt [.int pl] (Wd G E σ μ Y) (some (.int (F_X10_cylinderAt pl))) (Wd G E σ μ Y) := by
  refine KE.of (by decide) (Nat.le_of_ble_eq_true rfl) ?_
  intro zp ze zs zm za zb zt zc zA C _
  generalize hQ : MQ zb _ za zs _ _ zA = Q
  show V zp l ze rm_X10_cylinderAt zs zm za zb zt zc 2 G zA 0 0 Q 0 [(0, .int pl)] [] (Wd G E σ μ Y)
  refine v_iload_n C 0 rfl dX10_cylinderAt_0 ?_
  refine v_sipush (v := (192 : Int32)) C (by decide) dX10_cylinderAt_1 ?_
  refine v_icmp_ge (tgt := 11) C (by decide) dX10_cylinderAt_4 (fun h1 => ?_) (fun h1 => ?_)
  · refine v_iload_n C 0 rfl dX10_cylinderAt_11 ?_
    refine v_sipush (v := (352 : Int32)) C (by decide) dX10_cylinderAt_12 ?_
    refine v_icmp_ge (tgt := 22) C (by decide) dX10_cylinderAt_15 (fun h2 => ?_) (fun h2 => ?_)
    · refine v_iload_n C 0 rfl dX10_cylinderAt_22 ?_
      refine v_sipush (v := (480 : Int32)) C (by decide) dX10_cylinderAt_23 ?_
      refine v_icmp_ge (tgt := 33) C (by decide) dX10_cylinderAt_26 (fun h3 => ?_) (fun h3 => ?_)
      · refine v_iconst (v := (3 : Int32)) C (by decide) dX10_cylinderAt_33 ?_
        refine v_istore_n (lv' := [(1, .int (3 : Int32)), (0, .int pl)]) C (Nat.le_of_ble_eq_true rfl) rfl dX10_cylinderAt_34 ?_
        refine v_bipush (v := (16 : Int32)) C (by decide) dX10_cylinderAt_35 ?_
        refine v_iload_n C 0 rfl dX10_cylinderAt_37 ?_
        refine v_imul C dX10_cylinderAt_38 ?_
        refine v_iload_n C 1 rfl dX10_cylinderAt_39 ?_
        refine v_iload_n C 0 rfl dX10_cylinderAt_40 ?_
        refine v_cS1 (rest := [.int pl, .int ((16 : Int32) * (3 : Int32))]) C ms_RX10_50 (m_X10_zoneAt l G E σ μ Y (3 : Int32)) rfl rfl (Nat.le_of_ble_eq_true rfl) ⟨Nat.le_of_ble_eq_true rfl, Nat.le_of_ble_eq_true rfl⟩ ⟨rfl, rfl⟩ ⟨Nat.zero_le _, Nat.zero_le _⟩ dX10_cylinderAt_41 ?_
        refine v_isub C dX10_cylinderAt_44 ?_
        refine v_bipush (v := (16 : Int32)) C (by decide) dX10_cylinderAt_45 ?_
        refine v_iload_n C 0 rfl dX10_cylinderAt_47 ?_
        refine v_imul C dX10_cylinderAt_48 ?_
        refine v_cS1 (rest := [.int (pl - (F_X10_zoneAt (3 : Int32))), .int ((16 : Int32) * (3 : Int32))]) C ms_RX10_46 (m_X10_sectorsOf l G E σ μ Y ((16 : Int32) * (3 : Int32))) rfl rfl (Nat.le_of_ble_eq_true rfl) ⟨Nat.le_of_ble_eq_true rfl, Nat.le_of_ble_eq_true rfl⟩ ⟨rfl, rfl⟩ ⟨Nat.zero_le _, Nat.zero_le _⟩ dX10_cylinderAt_49 ?_
        refine v_idiv C (by decide) dX10_cylinderAt_52 ?_
        refine v_iadd C dX10_cylinderAt_53 ?_
        have e1 : F_X10_cylinderAt pl = ((16 : Int32) * (3 : Int32)) + ((pl - (F_X10_zoneAt (3 : Int32))) / (F_X10_sectorsOf ((16 : Int32) * (3 : Int32)))) := by rw [F_X10_cylinderAt, if_pos h1, if_pos h2, if_pos h3]
        exact v_Q hQ (v_iret C () trivial (by rw [e1]) rfl (Nat.zero_le _) (Nat.zero_le _) dX10_cylinderAt_54)
      · refine v_iconst (v := (2 : Int32)) C (by decide) dX10_cylinderAt_29 ?_
        refine v_goto (tgt := 34) C (by decide) dX10_cylinderAt_30 ?_
        refine v_istore_n (lv' := [(1, .int (2 : Int32)), (0, .int pl)]) C (Nat.le_of_ble_eq_true rfl) rfl dX10_cylinderAt_34 ?_
        refine v_bipush (v := (16 : Int32)) C (by decide) dX10_cylinderAt_35 ?_
        refine v_iload_n C 0 rfl dX10_cylinderAt_37 ?_
        refine v_imul C dX10_cylinderAt_38 ?_
        refine v_iload_n C 1 rfl dX10_cylinderAt_39 ?_
        refine v_iload_n C 0 rfl dX10_cylinderAt_40 ?_
        refine v_cS1 (rest := [.int pl, .int ((16 : Int32) * (2 : Int32))]) C ms_RX10_50 (m_X10_zoneAt l G E σ μ Y (2 : Int32)) rfl rfl (Nat.le_of_ble_eq_true rfl) ⟨Nat.le_of_ble_eq_true rfl, Nat.le_of_ble_eq_true rfl⟩ ⟨rfl, rfl⟩ ⟨Nat.zero_le _, Nat.zero_le _⟩ dX10_cylinderAt_41 ?_
        refine v_isub C dX10_cylinderAt_44 ?_
        refine v_bipush (v := (16 : Int32)) C (by decide) dX10_cylinderAt_45 ?_
        refine v_iload_n C 0 rfl dX10_cylinderAt_47 ?_
        refine v_imul C dX10_cylinderAt_48 ?_
        refine v_cS1 (rest := [.int (pl - (F_X10_zoneAt (2 : Int32))), .int ((16 : Int32) * (2 : Int32))]) C ms_RX10_46 (m_X10_sectorsOf l G E σ μ Y ((16 : Int32) * (2 : Int32))) rfl rfl (Nat.le_of_ble_eq_true rfl) ⟨Nat.le_of_ble_eq_true rfl, Nat.le_of_ble_eq_true rfl⟩ ⟨rfl, rfl⟩ ⟨Nat.zero_le _, Nat.zero_le _⟩ dX10_cylinderAt_49 ?_
        refine v_idiv C (by decide) dX10_cylinderAt_52 ?_
        refine v_iadd C dX10_cylinderAt_53 ?_
        have e1 : F_X10_cylinderAt pl = ((16 : Int32) * (2 : Int32)) + ((pl - (F_X10_zoneAt (2 : Int32))) / (F_X10_sectorsOf ((16 : Int32) * (2 : Int32)))) := by rw [F_X10_cylinderAt, if_pos h1, if_pos h2, if_neg h3]
        exact v_Q hQ (v_iret C () trivial (by rw [e1]) rfl (Nat.zero_le _) (Nat.zero_le _) dX10_cylinderAt_54)
    · refine v_iconst (v := (1 : Int32)) C (by decide) dX10_cylinderAt_18 ?_
      refine v_goto (tgt := 34) C (by decide) dX10_cylinderAt_19 ?_
      refine v_istore_n (lv' := [(1, .int (1 : Int32)), (0, .int pl)]) C (Nat.le_of_ble_eq_true rfl) rfl dX10_cylinderAt_34 ?_
      refine v_bipush (v := (16 : Int32)) C (by decide) dX10_cylinderAt_35 ?_
      refine v_iload_n C 0 rfl dX10_cylinderAt_37 ?_
      refine v_imul C dX10_cylinderAt_38 ?_
      refine v_iload_n C 1 rfl dX10_cylinderAt_39 ?_
      refine v_iload_n C 0 rfl dX10_cylinderAt_40 ?_
      refine v_cS1 (rest := [.int pl, .int ((16 : Int32) * (1 : Int32))]) C ms_RX10_50 (m_X10_zoneAt l G E σ μ Y (1 : Int32)) rfl rfl (Nat.le_of_ble_eq_true rfl) ⟨Nat.le_of_ble_eq_true rfl, Nat.le_of_ble_eq_true rfl⟩ ⟨rfl, rfl⟩ ⟨Nat.zero_le _, Nat.zero_le _⟩ dX10_cylinderAt_41 ?_
      refine v_isub C dX10_cylinderAt_44 ?_
      refine v_bipush (v := (16 : Int32)) C (by decide) dX10_cylinderAt_45 ?_
      refine v_iload_n C 0 rfl dX10_cylinderAt_47 ?_
      refine v_imul C dX10_cylinderAt_48 ?_
      refine v_cS1 (rest := [.int (pl - (F_X10_zoneAt (1 : Int32))), .int ((16 : Int32) * (1 : Int32))]) C ms_RX10_46 (m_X10_sectorsOf l G E σ μ Y ((16 : Int32) * (1 : Int32))) rfl rfl (Nat.le_of_ble_eq_true rfl) ⟨Nat.le_of_ble_eq_true rfl, Nat.le_of_ble_eq_true rfl⟩ ⟨rfl, rfl⟩ ⟨Nat.zero_le _, Nat.zero_le _⟩ dX10_cylinderAt_49 ?_
      refine v_idiv C (by decide) dX10_cylinderAt_52 ?_
      refine v_iadd C dX10_cylinderAt_53 ?_
      have e1 : F_X10_cylinderAt pl = ((16 : Int32) * (1 : Int32)) + ((pl - (F_X10_zoneAt (1 : Int32))) / (F_X10_sectorsOf ((16 : Int32) * (1 : Int32)))) := by rw [F_X10_cylinderAt, if_pos h1, if_neg h2]
      exact v_Q hQ (v_iret C () trivial (by rw [e1]) rfl (Nat.zero_le _) (Nat.zero_le _) dX10_cylinderAt_54)
  · refine v_iconst (v := (0 : Int32)) C (by decide) dX10_cylinderAt_7 ?_
    refine v_goto (tgt := 34) C (by decide) dX10_cylinderAt_8 ?_
    refine v_istore_n (lv' := [(1, .int (0 : Int32)), (0, .int pl)]) C (Nat.le_of_ble_eq_true rfl) rfl dX10_cylinderAt_34 ?_
    refine v_bipush (v := (16 : Int32)) C (by decide) dX10_cylinderAt_35 ?_
    refine v_iload_n C 0 rfl dX10_cylinderAt_37 ?_
    refine v_imul C dX10_cylinderAt_38 ?_
    refine v_iload_n C 1 rfl dX10_cylinderAt_39 ?_
    refine v_iload_n C 0 rfl dX10_cylinderAt_40 ?_
    refine v_cS1 (rest := [.int pl, .int ((16 : Int32) * (0 : Int32))]) C ms_RX10_50 (m_X10_zoneAt l G E σ μ Y (0 : Int32)) rfl rfl (Nat.le_of_ble_eq_true rfl) ⟨Nat.le_of_ble_eq_true rfl, Nat.le_of_ble_eq_true rfl⟩ ⟨rfl, rfl⟩ ⟨Nat.zero_le _, Nat.zero_le _⟩ dX10_cylinderAt_41 ?_
    refine v_isub C dX10_cylinderAt_44 ?_
    refine v_bipush (v := (16 : Int32)) C (by decide) dX10_cylinderAt_45 ?_
    refine v_iload_n C 0 rfl dX10_cylinderAt_47 ?_
    refine v_imul C dX10_cylinderAt_48 ?_
    refine v_cS1 (rest := [.int (pl - (F_X10_zoneAt (0 : Int32))), .int ((16 : Int32) * (0 : Int32))]) C ms_RX10_46 (m_X10_sectorsOf l G E σ μ Y ((16 : Int32) * (0 : Int32))) rfl rfl (Nat.le_of_ble_eq_true rfl) ⟨Nat.le_of_ble_eq_true rfl, Nat.le_of_ble_eq_true rfl⟩ ⟨rfl, rfl⟩ ⟨Nat.zero_le _, Nat.zero_le _⟩ dX10_cylinderAt_49 ?_
    refine v_idiv C (by decide) dX10_cylinderAt_52 ?_
    refine v_iadd C dX10_cylinderAt_53 ?_
    have e1 : F_X10_cylinderAt pl = ((16 : Int32) * (0 : Int32)) + ((pl - (F_X10_zoneAt (0 : Int32))) / (F_X10_sectorsOf ((16 : Int32) * (0 : Int32)))) := by rw [F_X10_cylinderAt, if_neg h1]
    exact v_Q hQ (v_iret C () trivial (by rw [e1]) rfl (Nat.zero_le _) (Nat.zero_le _) dX10_cylinderAt_54)
def L_X10_place_2 (μ : Sg) (bk : Int32) : Nat → Int32 → Int32
  | 0, _ => 0
  | n + 1, x => (if (μ 25 11) ≤ x then bk else (if (μ 25 ((20 : Int32) + x).toNatClampNeg) = bk then (572 : Int32) + x else L_X10_place_2 μ bk n (x + (1 : Int32))))
def F_X10_place (μ : Sg) (bk : Int32) : Int32 := L_X10_place_2 μ bk 5 (0 : Int32)
abbrev rm_X10_place : Room := { frames := 0, cells := 0, slots := 0, locals := 0 }
theorem tn_11 : (11 : Int32).toNatClampNeg = 11 := by decide
theorem vi_11_1700 : vp_in (11 : Int32) 1700 := vp_lit tn_11 (by decide) (by decide)
set_option maxRecDepth 100000 in
set_option maxHeartbeats 4000000 in
theorem m_X10_place (l : Launch) (G : GG) (E : EE) (σ μ : Sg) (Y : va_W) (bk : Int32) (hS : ∃ m : Nat, m ≤ 4 ∧ μ 25 11 = nI m) : KK l G yX10_place cX10_place 3 (some .int) rm_X10_place [.ref (E.1 24), .int bk] (Wd G E σ μ Y) (some (.int (F_X10_place μ bk))) (Wd G E σ μ Y) := by
  refine KE.of (by decide) (Nat.le_of_ble_eq_true rfl) ?_
  intro zp ze zs zm za zb zt zc zA C _
  generalize hQ : MQ zb _ za zs _ _ zA = Q
  have loop_2 : ∀ (n : Nat) (x : Int32), (∃ j : Nat, x = nI j ∧ j ≤ 4 ∧ j + n = 5) → F_X10_place μ bk = L_X10_place_2 μ bk n x → V zp l ze rm_X10_place zs zm za zb zt zc 3 G zA 0 0 Q 2 [(0, .ref (E.1 24)), (1, .int bk), (2, .int x)] [] (Wd G E σ μ Y) := by
    intro n
    induction n with
    | zero =>
      intro x hI hL
      exact False.elim (by obtain ⟨j, _, h4, hn⟩ := hI; omega)
    | succ n ih =>
      intro x hI hL
      obtain ⟨j, ej, h4, hn⟩ := hI
      obtain ⟨mm, hm4, em⟩ := hS
      refine v_iload_n C 2 rfl dX10_place_2 ?_
      refine v_aload_n C 0 rfl dX10_place_3 ?_
      refine v_get (v := .ref (E.1 25)) C fl_RX10_7 24 g_24 rfl dX10_place_4 ?_
      refine v_bipush (v := (11 : Int32)) C (by decide) dX10_place_7 ?_
      refine v_iald (v := μ 25 11) C 25 g_25 vi_11_1700 (rdl tn_11 rfl) dX10_place_9 ?_
      refine v_icmp_ge (tgt := 38) C (by decide) dX10_place_10 (fun h1 => ?_) (fun h1 => ?_)
      · refine v_iload_n C 1 rfl dX10_place_38 ?_
        have e1 : F_X10_place μ bk = bk := by rw [hL, L_X10_place_2, if_pos h1]
        exact v_Q hQ (v_iret C () trivial (by rw [e1]) rfl (Nat.zero_le _) (Nat.zero_le _) dX10_place_39)
      · refine v_aload_n C 0 rfl dX10_place_13 ?_
        refine v_get (v := .ref (E.1 25)) C fl_RX10_7 24 g_24 rfl dX10_place_14 ?_
        refine v_bipush (v := (20 : Int32)) C (by decide) dX10_place_17 ?_
        refine v_iload_n C 2 rfl dX10_place_19 ?_
        refine v_iadd C dX10_place_20 ?_
        refine v_iald (v := μ 25 ((20 : Int32) + x).toNatClampNeg) C 25 g_25 (vi_add 20 ej (by omega) (by decide)) rfl dX10_place_21 ?_
        refine v_iload_n C 1 rfl dX10_place_22 ?_
        refine v_icmp_ne (tgt := 32) C (by decide) dX10_place_23 (fun h2 => ?_) (fun h2 => ?_)
        · refine v_iinc (v := x + (1 : Int32)) (lv' := [(2, .int (x + (1 : Int32))), (0, .ref (E.1 24)), (1, .int bk)]) C 2 rfl rfl (Nat.le_of_ble_eq_true rfl) rfl dX10_place_32 ?_
          refine v_goto (tgt := 2) C (by decide) dX10_place_35 ?_
          refine v_lv [1, 2, 0] rfl ?_
          exact ih (x + (1 : Int32)) (by have q := gt_of_nle em ej (by omega) (by omega) h1; exact ⟨j + 1, by rw [ej]; exact nI_1 j, by omega, by omega⟩) (by rw [hL, L_X10_place_2, if_neg h1, if_neg h2])
        · refine v_sipush (v := (572 : Int32)) C (by decide) dX10_place_26 ?_
          refine v_iload_n C 2 rfl dX10_place_29 ?_
          refine v_iadd C dX10_place_30 ?_
          have e1 : F_X10_place μ bk = (572 : Int32) + x := by rw [hL, L_X10_place_2, if_neg h1, if_pos h2]
          exact v_Q hQ (v_iret C () trivial (by rw [e1]) rfl (Nat.zero_le _) (Nat.zero_le _) dX10_place_31)
  show V zp l ze rm_X10_place zs zm za zb zt zc 3 G zA 0 0 Q 0 [(0, .ref (E.1 24)), (1, .int bk)] [] (Wd G E σ μ Y)
  refine v_iconst (v := (0 : Int32)) C (by decide) dX10_place_0 ?_
  refine v_istore_n (lv' := [(2, .int (0 : Int32)), (0, .ref (E.1 24)), (1, .int bk)]) C (Nat.le_of_ble_eq_true rfl) rfl dX10_place_1 ?_
  refine v_lv [1, 2, 0] rfl ?_
  exact loop_2 5 (0 : Int32) (⟨0, rfl, by omega, by omega⟩) (by rw [F_X10_place])
def F_X10_angleAt (μ : Sg) (pl : Int32) : Int32 := (((pl - (F_X10_firstOf (F_X10_cylinderAt pl))) * (F_X10_ticksOf (F_X10_cylinderAt pl))) + ((F_X10_cylinderAt pl) * (μ 25 3))) - (((pl - (F_X10_firstOf (F_X10_cylinderAt pl))) * (F_X10_ticksOf (F_X10_cylinderAt pl))) + ((F_X10_cylinderAt pl) * (μ 25 3))) / (120 : Int32) * (120 : Int32)
abbrev rm_X10_angleAt : Room := { frames := 2, cells := 0, slots := 0, locals := 41 }
theorem tn_3 : (3 : Int32).toNatClampNeg = 3 := by decide
theorem vi_3_1700 : vp_in (3 : Int32) 1700 := vp_lit tn_3 (by decide) (by decide)
set_option maxRecDepth 100000 in
set_option maxHeartbeats 4000000 in
theorem m_X10_angleAt (l : Launch) (G : GG) (E : EE) (σ μ : Sg) (Y : va_W) (pl : Int32) (hs : ¬ F_X10_sectorsOf (F_X10_cylinderAt pl) = 0) : KK l G yX10_angleAt cX10_angleAt 3 (some .int) rm_X10_angleAt [.ref (E.1 24), .int pl] (Wd G E σ μ Y) (some (.int (F_X10_angleAt μ pl))) (Wd G E σ μ Y) := by
  refine KE.of (by decide) (Nat.le_of_ble_eq_true rfl) ?_
  intro zp ze zs zm za zb zt zc zA C _
  generalize hQ : MQ zb _ za zs _ _ zA = Q
  show V zp l ze rm_X10_angleAt zs zm za zb zt zc 3 G zA 0 0 Q 0 [(0, .ref (E.1 24)), (1, .int pl)] [] (Wd G E σ μ Y)
  refine v_iload_n C 1 rfl dX10_angleAt_0 ?_
  refine v_cS1 (rest := []) C ms_RX10_53 (m_X10_cylinderAt l G E σ μ Y pl) rfl rfl (Nat.le_of_ble_eq_true rfl) ⟨Nat.le_of_ble_eq_true rfl, Nat.le_of_ble_eq_true rfl⟩ ⟨rfl, rfl⟩ ⟨Nat.zero_le _, Nat.zero_le _⟩ dX10_angleAt_1 ?_
  refine v_istore_n (lv' := [(2, .int (F_X10_cylinderAt pl)), (0, .ref (E.1 24)), (1, .int pl)]) C (Nat.le_of_ble_eq_true rfl) rfl dX10_angleAt_4 ?_
  refine v_iload_n C 2 rfl dX10_angleAt_5 ?_
  refine v_iload_n C 0 rfl dX10_angleAt_6 ?_
  refine v_cS1 (rest := [.int pl]) C ms_RX10_56 (m_X10_firstOf l G E σ μ Y (F_X10_cylinderAt pl)) rfl rfl (Nat.le_of_ble_eq_true rfl) ⟨Nat.le_of_ble_eq_true rfl, Nat.le_of_ble_eq_true rfl⟩ ⟨rfl, rfl⟩ ⟨Nat.zero_le _, Nat.zero_le _⟩ dX10_angleAt_7 ?_
  refine v_isub C dX10_angleAt_10 ?_
  refine v_iload_n C 0 rfl dX10_angleAt_11 ?_
  refine v_cS1 (rest := [.int (pl - (F_X10_firstOf (F_X10_cylinderAt pl)))]) C ms_RX10_59 (m_X10_ticksOf l G E σ μ Y (F_X10_cylinderAt pl) hs) rfl rfl (Nat.le_of_ble_eq_true rfl) ⟨Nat.le_of_ble_eq_true rfl, Nat.le_of_ble_eq_true rfl⟩ ⟨rfl, rfl⟩ ⟨Nat.zero_le _, Nat.zero_le _⟩ dX10_angleAt_12 ?_
  refine v_imul C dX10_angleAt_15 ?_
  refine v_iload_n C 0 rfl dX10_angleAt_16 ?_
  refine v_aload_n C 1 rfl dX10_angleAt_17 ?_
  refine v_get (v := .ref (E.1 25)) C fl_RX10_7 24 g_24 rfl dX10_angleAt_18 ?_
  refine v_iconst (v := (3 : Int32)) C (by decide) dX10_angleAt_21 ?_
  refine v_iald (v := μ 25 3) C 25 g_25 vi_3_1700 (rdl tn_3 rfl) dX10_angleAt_22 ?_
  refine v_imul C dX10_angleAt_23 ?_
  refine v_iadd C dX10_angleAt_24 ?_
  refine v_bipush (v := (120 : Int32)) C (by decide) dX10_angleAt_25 ?_
  refine v_irem C (by decide) dX10_angleAt_27 ?_
  have e1 : F_X10_angleAt μ pl = (((pl - (F_X10_firstOf (F_X10_cylinderAt pl))) * (F_X10_ticksOf (F_X10_cylinderAt pl))) + ((F_X10_cylinderAt pl) * (μ 25 3))) - (((pl - (F_X10_firstOf (F_X10_cylinderAt pl))) * (F_X10_ticksOf (F_X10_cylinderAt pl))) + ((F_X10_cylinderAt pl) * (μ 25 3))) / (120 : Int32) * (120 : Int32) := by rw [F_X10_angleAt]
  exact v_Q hQ (v_iret C () trivial (by rw [e1]) rfl (Nat.zero_le _) (Nat.zero_le _) dX10_angleAt_28)
def L_X10_rootOf_2 (v : Int32) : Nat → Int32 → Int32
  | 0, _ => 0
  | n + 1, x => (if v < ((x + (1 : Int32)) * (x + (1 : Int32))) then x else L_X10_rootOf_2 v n (x + (1 : Int32)))
def F_X10_rootOf (v : Int32) : Int32 := L_X10_rootOf_2 v 9 (0 : Int32)
abbrev rm_X10_rootOf : Room := { frames := 0, cells := 0, slots := 0, locals := 0 }
set_option maxRecDepth 100000 in
set_option maxHeartbeats 4000000 in
theorem m_X10_rootOf (l : Launch) (G : GG) (E : EE) (σ μ : Sg) (Y : va_W) (v : Int32) (hv : ∃ d : Nat, d ≤ 63 ∧ v = nI d) : KK l G yX10_rootOf cX10_rootOf 2 (some .int) rm_X10_rootOf [.int v] (Wd G E σ μ Y) (some (.int (F_X10_rootOf v))) (Wd G E σ μ Y) := by
  refine KE.of (by decide) (Nat.le_of_ble_eq_true rfl) ?_
  intro zp ze zs zm za zb zt zc zA C _
  generalize hQ : MQ zb _ za zs _ _ zA = Q
  have loop_2 : ∀ (n : Nat) (x : Int32), (∃ j : Nat, x = nI j ∧ j ≤ 8 ∧ j + n = 9) → F_X10_rootOf v = L_X10_rootOf_2 v n x → V zp l ze rm_X10_rootOf zs zm za zb zt zc 2 G zA 0 0 Q 2 [(0, .int v), (1, .int x)] [] (Wd G E σ μ Y) := by
    intro n
    induction n with
    | zero =>
      intro x hI hL
      exact False.elim (by obtain ⟨j, _, h4, hn⟩ := hI; omega)
    | succ n ih =>
      intro x hI hL
      obtain ⟨j, ej, h8, hn⟩ := hI
      obtain ⟨dd, hd, ed⟩ := hv
      refine v_iload_n C 1 rfl dX10_rootOf_2 ?_
      refine v_iconst (v := (1 : Int32)) C (by decide) dX10_rootOf_3 ?_
      refine v_iadd C dX10_rootOf_4 ?_
      refine v_iload_n C 1 rfl dX10_rootOf_5 ?_
      refine v_iconst (v := (1 : Int32)) C (by decide) dX10_rootOf_6 ?_
      refine v_iadd C dX10_rootOf_7 ?_
      refine v_imul C dX10_rootOf_8 ?_
      refine v_iload_n C 0 rfl dX10_rootOf_9 ?_
      refine v_icmp_gt (tgt := 19) C (by decide) dX10_rootOf_10 (fun h1 => ?_) (fun h1 => ?_)
      · refine v_iload_n C 1 rfl dX10_rootOf_19 ?_
        have e1 : F_X10_rootOf v = x := by rw [hL, L_X10_rootOf_2, if_pos h1]
        exact v_Q hQ (v_iret C () trivial (by rw [e1]) rfl (Nat.zero_le _) (Nat.zero_le _) dX10_rootOf_20)
      · refine v_iinc (v := x + (1 : Int32)) (lv' := [(1, .int (x + (1 : Int32))), (0, .int v)]) C 1 rfl rfl (Nat.le_of_ble_eq_true rfl) rfl dX10_rootOf_13 ?_
        refine v_goto (tgt := 2) C (by decide) dX10_rootOf_16 ?_
        refine v_lv [1, 0] rfl ?_
        exact ih (x + (1 : Int32)) (by rw [ed, ej] at h1; have q := root_step dd hd j h8 h1; exact ⟨j + 1, by rw [ej]; exact nI_1 j, by omega, by omega⟩) (by rw [hL, L_X10_rootOf_2, if_neg h1])
  show V zp l ze rm_X10_rootOf zs zm za zb zt zc 2 G zA 0 0 Q 0 [(0, .int v)] [] (Wd G E σ μ Y)
  refine v_iconst (v := (0 : Int32)) C (by decide) dX10_rootOf_0 ?_
  refine v_istore_n (lv' := [(1, .int (0 : Int32)), (0, .int v)]) C (Nat.le_of_ble_eq_true rfl) rfl dX10_rootOf_1 ?_
  refine v_lv [1, 0] rfl ?_
  exact loop_2 9 (0 : Int32) (⟨0, rfl, by omega, by omega⟩) (by rw [F_X10_rootOf])
def cyl (x : Int32) : Prop := ∃ a : Nat, a ≤ 63 ∧ x = nI a
theorem dist_ge {x y : Int32} (hx : cyl x) (hy : cyl y) (h : y ≤ x) : ∃ d : Nat, d ≤ 63 ∧ x - y = nI d := by
  obtain ⟨a, ha, rfl⟩ := hx
  obtain ⟨b, hb, rfl⟩ := hy
  rw [nI_leI (by omega) (by omega)] at h
  exact ⟨a - b, by omega, pk_sub h⟩
theorem dist_lt {x y : Int32} (hx : cyl x) (hy : cyl y) (h : ¬ y ≤ x) : ∃ d : Nat, d ≤ 63 ∧ y - x = nI d := by
  obtain ⟨a, ha, rfl⟩ := hx
  obtain ⟨b, hb, rfl⟩ := hy
  rw [nI_leI (by omega) (by omega)] at h
  exact ⟨b - a, by omega, pk_sub (by omega)⟩
def F_X10_seek (μ : Sg) (fr : Int32) (to : Int32) : Int32 := (if to ≤ fr then (if (fr - to) = 0 then (0 : Int32) else ((μ 25 0) + ((μ 25 1) * (F_X10_rootOf (fr - to)))) + ((μ 25 2) * (fr - to))) else (if (to - fr) = 0 then (0 : Int32) else ((μ 25 0) + ((μ 25 1) * (F_X10_rootOf (to - fr)))) + ((μ 25 2) * (to - fr))))
abbrev rm_X10_seek : Room := { frames := 1, cells := 0, slots := 0, locals := 21 }
theorem tn_0 : (0 : Int32).toNatClampNeg = 0 := by decide
theorem vi_0_1700 : vp_in (0 : Int32) 1700 := vp_lit tn_0 (by decide) (by decide)
theorem tn_1 : (1 : Int32).toNatClampNeg = 1 := by decide
theorem vi_1_1700 : vp_in (1 : Int32) 1700 := vp_lit tn_1 (by decide) (by decide)
theorem tn_2 : (2 : Int32).toNatClampNeg = 2 := by decide
theorem vi_2_1700 : vp_in (2 : Int32) 1700 := vp_lit tn_2 (by decide) (by decide)
set_option maxRecDepth 100000 in
set_option maxHeartbeats 4000000 in
theorem m_X10_seek (l : Launch) (G : GG) (E : EE) (σ μ : Sg) (Y : va_W) (fr : Int32) (to : Int32) (hf : cyl fr) (ht : cyl to) : KK l G yX10_seek cX10_seek 4 (some .int) rm_X10_seek [.ref (E.1 24), .int fr, .int to] (Wd G E σ μ Y) (some (.int (F_X10_seek μ fr to))) (Wd G E σ μ Y) := by
  refine KE.of (by decide) (Nat.le_of_ble_eq_true rfl) ?_
  intro zp ze zs zm za zb zt zc zA C _
  generalize hQ : MQ zb _ za zs _ _ zA = Q
  show V zp l ze rm_X10_seek zs zm za zb zt zc 4 G zA 0 0 Q 0 [(0, .ref (E.1 24)), (1, .int fr), (2, .int to)] [] (Wd G E σ μ Y)
  refine v_iload_n C 1 rfl dX10_seek_0 ?_
  refine v_iload_n C 2 rfl dX10_seek_1 ?_
  refine v_icmp_ge (tgt := 11) C (by decide) dX10_seek_2 (fun h1 => ?_) (fun h1 => ?_)
  · refine v_iload_n C 1 rfl dX10_seek_11 ?_
    refine v_iload_n C 2 rfl dX10_seek_12 ?_
    refine v_isub C dX10_seek_13 ?_
    refine v_istore_n (lv' := [(3, .int (fr - to)), (0, .ref (E.1 24)), (1, .int fr), (2, .int to)]) C (Nat.le_of_ble_eq_true rfl) rfl dX10_seek_14 ?_
    refine v_iload_n C 0 rfl dX10_seek_15 ?_
    refine v_if_ne (tgt := 23) C (by decide) dX10_seek_16 (fun h2 => ?_) (fun h2 => ?_)
    · refine v_aload_n C 1 rfl dX10_seek_23 ?_
      refine v_get (v := .ref (E.1 25)) C fl_RX10_7 24 g_24 rfl dX10_seek_24 ?_
      refine v_iconst (v := (0 : Int32)) C (by decide) dX10_seek_27 ?_
      refine v_iald (v := μ 25 0) C 25 g_25 vi_0_1700 (rdl tn_0 rfl) dX10_seek_28 ?_
      refine v_aload_n C 1 rfl dX10_seek_29 ?_
      refine v_get (v := .ref (E.1 25)) C fl_RX10_7 24 g_24 rfl dX10_seek_30 ?_
      refine v_iconst (v := (1 : Int32)) C (by decide) dX10_seek_33 ?_
      refine v_iald (v := μ 25 1) C 25 g_25 vi_1_1700 (rdl tn_1 rfl) dX10_seek_34 ?_
      refine v_iload_n C 0 rfl dX10_seek_35 ?_
      refine v_cS1 (rest := [.int (μ 25 1), .int (μ 25 0)]) C ms_RX10_62 (m_X10_rootOf l G E σ μ Y (fr - to) (by first | exact dist_lt hf ht h1 | exact dist_ge hf ht h1)) rfl rfl (Nat.le_of_ble_eq_true rfl) ⟨Nat.le_of_ble_eq_true rfl, Nat.le_of_ble_eq_true rfl⟩ ⟨rfl, rfl⟩ ⟨Nat.zero_le _, Nat.zero_le _⟩ dX10_seek_36 ?_
      refine v_imul C dX10_seek_39 ?_
      refine v_iadd C dX10_seek_40 ?_
      refine v_aload_n C 1 rfl dX10_seek_41 ?_
      refine v_get (v := .ref (E.1 25)) C fl_RX10_7 24 g_24 rfl dX10_seek_42 ?_
      refine v_iconst (v := (2 : Int32)) C (by decide) dX10_seek_45 ?_
      refine v_iald (v := μ 25 2) C 25 g_25 vi_2_1700 (rdl tn_2 rfl) dX10_seek_46 ?_
      refine v_iload_n C 0 rfl dX10_seek_47 ?_
      refine v_imul C dX10_seek_48 ?_
      refine v_iadd C dX10_seek_49 ?_
      have e1 : F_X10_seek μ fr to = ((μ 25 0) + ((μ 25 1) * (F_X10_rootOf (fr - to)))) + ((μ 25 2) * (fr - to)) := by rw [F_X10_seek, if_pos h1, if_neg h2]
      exact v_Q hQ (v_iret C () trivial (by rw [e1]) rfl (Nat.zero_le _) (Nat.zero_le _) dX10_seek_50)
    · refine v_iconst (v := (0 : Int32)) C (by decide) dX10_seek_19 ?_
      refine v_goto (tgt := 50) C (by decide) dX10_seek_20 ?_
      have e1 : F_X10_seek μ fr to = (0 : Int32) := by rw [F_X10_seek, if_pos h1, if_pos h2]
      exact v_Q hQ (v_iret C () trivial (by rw [e1]) rfl (Nat.zero_le _) (Nat.zero_le _) dX10_seek_50)
  · refine v_iload_n C 2 rfl dX10_seek_5 ?_
    refine v_iload_n C 1 rfl dX10_seek_6 ?_
    refine v_isub C dX10_seek_7 ?_
    refine v_goto (tgt := 14) C (by decide) dX10_seek_8 ?_
    refine v_istore_n (lv' := [(3, .int (to - fr)), (0, .ref (E.1 24)), (1, .int fr), (2, .int to)]) C (Nat.le_of_ble_eq_true rfl) rfl dX10_seek_14 ?_
    refine v_iload_n C 0 rfl dX10_seek_15 ?_
    refine v_if_ne (tgt := 23) C (by decide) dX10_seek_16 (fun h3 => ?_) (fun h3 => ?_)
    · refine v_aload_n C 1 rfl dX10_seek_23 ?_
      refine v_get (v := .ref (E.1 25)) C fl_RX10_7 24 g_24 rfl dX10_seek_24 ?_
      refine v_iconst (v := (0 : Int32)) C (by decide) dX10_seek_27 ?_
      refine v_iald (v := μ 25 0) C 25 g_25 vi_0_1700 (rdl tn_0 rfl) dX10_seek_28 ?_
      refine v_aload_n C 1 rfl dX10_seek_29 ?_
      refine v_get (v := .ref (E.1 25)) C fl_RX10_7 24 g_24 rfl dX10_seek_30 ?_
      refine v_iconst (v := (1 : Int32)) C (by decide) dX10_seek_33 ?_
      refine v_iald (v := μ 25 1) C 25 g_25 vi_1_1700 (rdl tn_1 rfl) dX10_seek_34 ?_
      refine v_iload_n C 0 rfl dX10_seek_35 ?_
      refine v_cS1 (rest := [.int (μ 25 1), .int (μ 25 0)]) C ms_RX10_62 (m_X10_rootOf l G E σ μ Y (to - fr) (by first | exact dist_lt hf ht h1 | exact dist_ge hf ht h1)) rfl rfl (Nat.le_of_ble_eq_true rfl) ⟨Nat.le_of_ble_eq_true rfl, Nat.le_of_ble_eq_true rfl⟩ ⟨rfl, rfl⟩ ⟨Nat.zero_le _, Nat.zero_le _⟩ dX10_seek_36 ?_
      refine v_imul C dX10_seek_39 ?_
      refine v_iadd C dX10_seek_40 ?_
      refine v_aload_n C 1 rfl dX10_seek_41 ?_
      refine v_get (v := .ref (E.1 25)) C fl_RX10_7 24 g_24 rfl dX10_seek_42 ?_
      refine v_iconst (v := (2 : Int32)) C (by decide) dX10_seek_45 ?_
      refine v_iald (v := μ 25 2) C 25 g_25 vi_2_1700 (rdl tn_2 rfl) dX10_seek_46 ?_
      refine v_iload_n C 0 rfl dX10_seek_47 ?_
      refine v_imul C dX10_seek_48 ?_
      refine v_iadd C dX10_seek_49 ?_
      have e1 : F_X10_seek μ fr to = ((μ 25 0) + ((μ 25 1) * (F_X10_rootOf (to - fr)))) + ((μ 25 2) * (to - fr)) := by rw [F_X10_seek, if_neg h1, if_neg h3]
      exact v_Q hQ (v_iret C () trivial (by rw [e1]) rfl (Nat.zero_le _) (Nat.zero_le _) dX10_seek_50)
    · refine v_iconst (v := (0 : Int32)) C (by decide) dX10_seek_19 ?_
      refine v_goto (tgt := 50) C (by decide) dX10_seek_20 ?_
      have e1 : F_X10_seek μ fr to = (0 : Int32) := by rw [F_X10_seek, if_neg h1, if_pos h3]
      exact v_Q hQ (v_iret C () trivial (by rw [e1]) rfl (Nat.zero_le _) (Nat.zero_le _) dX10_seek_50)
def F_X10_waits (μ : Sg) (t : Int32) (pl : Int32) : Int32 := (((F_X10_angleAt μ pl) - (t - t / (120 : Int32) * (120 : Int32))) + (120 : Int32)) - (((F_X10_angleAt μ pl) - (t - t / (120 : Int32) * (120 : Int32))) + (120 : Int32)) / (120 : Int32) * (120 : Int32)
abbrev rm_X10_waits : Room := { frames := 3, cells := 0, slots := 0, locals := 63 }
set_option maxRecDepth 100000 in
set_option maxHeartbeats 4000000 in
theorem m_X10_waits (l : Launch) (G : GG) (E : EE) (σ μ : Sg) (Y : va_W) (t : Int32) (pl : Int32) (hs : ¬ F_X10_sectorsOf (F_X10_cylinderAt pl) = 0) : KK l G yX10_waits cX10_waits 3 (some .int) rm_X10_waits [.ref (E.1 24), .int t, .int pl] (Wd G E σ μ Y) (some (.int (F_X10_waits μ t pl))) (Wd G E σ μ Y) := by
  refine KE.of (by decide) (Nat.le_of_ble_eq_true rfl) ?_
  intro zp ze zs zm za zb zt zc zA C _
  generalize hQ : MQ zb _ za zs _ _ zA = Q
  show V zp l ze rm_X10_waits zs zm za zb zt zc 3 G zA 0 0 Q 0 [(0, .ref (E.1 24)), (1, .int t), (2, .int pl)] [] (Wd G E σ μ Y)
  refine v_aload_n C 0 rfl dX10_waits_0 ?_
  refine v_iload_n C 2 rfl dX10_waits_1 ?_
  refine v_cV1 (rest := []) C mv_RX10_65 (m_X10_angleAt l G E σ μ Y pl hs) 24 g_24 rfl rfl rfl rfl (Nat.le_of_ble_eq_true rfl) ⟨Nat.le_of_ble_eq_true rfl, Nat.le_of_ble_eq_true rfl⟩ ⟨rfl, rfl⟩ ⟨Nat.zero_le _, Nat.zero_le _⟩ dX10_waits_2 ?_
  refine v_iload_n C 1 rfl dX10_waits_5 ?_
  refine v_bipush (v := (120 : Int32)) C (by decide) dX10_waits_6 ?_
  refine v_irem C (by decide) dX10_waits_8 ?_
  refine v_isub C dX10_waits_9 ?_
  refine v_bipush (v := (120 : Int32)) C (by decide) dX10_waits_10 ?_
  refine v_iadd C dX10_waits_12 ?_
  refine v_bipush (v := (120 : Int32)) C (by decide) dX10_waits_13 ?_
  refine v_irem C (by decide) dX10_waits_15 ?_
  have e1 : F_X10_waits μ t pl = (((F_X10_angleAt μ pl) - (t - t / (120 : Int32) * (120 : Int32))) + (120 : Int32)) - (((F_X10_angleAt μ pl) - (t - t / (120 : Int32) * (120 : Int32))) + (120 : Int32)) / (120 : Int32) * (120 : Int32) := by rw [F_X10_waits]
  exact v_Q hQ (v_iret C () trivial (by rw [e1]) rfl (Nat.zero_le _) (Nat.zero_le _) dX10_waits_16)
def F_X10_ends (μ : Sg) (t : Int32) (am : Int32) (pl : Int32) : Int32 := ((t + (F_X10_seek μ am (F_X10_cylinderAt pl))) + (F_X10_waits μ (t + (F_X10_seek μ am (F_X10_cylinderAt pl))) pl)) + (F_X10_ticksOf (F_X10_cylinderAt pl))
abbrev rm_X10_ends : Room := { frames := 4, cells := 0, slots := 0, locals := 85 }
set_option maxRecDepth 100000 in
set_option maxHeartbeats 4000000 in
theorem m_X10_ends (l : Launch) (G : GG) (E : EE) (σ μ : Sg) (Y : va_W) (t : Int32) (am : Int32) (pl : Int32) (hs : ¬ F_X10_sectorsOf (F_X10_cylinderAt pl) = 0) (ha : cyl am) (hc : cyl (F_X10_cylinderAt pl)) : KK l G yX10_ends cX10_ends 6 (some .int) rm_X10_ends [.ref (E.1 24), .int t, .int am, .int pl] (Wd G E σ μ Y) (some (.int (F_X10_ends μ t am pl))) (Wd G E σ μ Y) := by
  refine KE.of (by decide) (Nat.le_of_ble_eq_true rfl) ?_
  intro zp ze zs zm za zb zt zc zA C _
  generalize hQ : MQ zb _ za zs _ _ zA = Q
  show V zp l ze rm_X10_ends zs zm za zb zt zc 6 G zA 0 0 Q 0 [(0, .ref (E.1 24)), (1, .int t), (2, .int am), (3, .int pl)] [] (Wd G E σ μ Y)
  refine v_iload_n C 3 rfl dX10_ends_0 ?_
  refine v_cS1 (rest := []) C ms_RX10_53 (m_X10_cylinderAt l G E σ μ Y pl) rfl rfl (Nat.le_of_ble_eq_true rfl) ⟨Nat.le_of_ble_eq_true rfl, Nat.le_of_ble_eq_true rfl⟩ ⟨rfl, rfl⟩ ⟨Nat.zero_le _, Nat.zero_le _⟩ dX10_ends_1 ?_
  refine v_istore (lv' := [(4, .int (F_X10_cylinderAt pl)), (0, .ref (E.1 24)), (1, .int t), (2, .int am), (3, .int pl)]) C (Nat.le_of_ble_eq_true rfl) rfl dX10_ends_4 ?_
  refine v_iload_n C 2 rfl dX10_ends_6 ?_
  refine v_aload_n C 1 rfl dX10_ends_7 ?_
  refine v_iload_n C 3 rfl dX10_ends_8 ?_
  refine v_iload C 0 rfl dX10_ends_9 ?_
  refine v_cV1 (rest := [.int t]) C mv_RX10_68 (m_X10_seek l G E σ μ Y am (F_X10_cylinderAt pl) ha hc) 24 g_24 rfl rfl rfl rfl (Nat.le_of_ble_eq_true rfl) ⟨Nat.le_of_ble_eq_true rfl, Nat.le_of_ble_eq_true rfl⟩ ⟨rfl, rfl⟩ ⟨Nat.zero_le _, Nat.zero_le _⟩ dX10_ends_11 ?_
  refine v_iadd C dX10_ends_14 ?_
  refine v_istore (lv' := [(5, .int (t + (F_X10_seek μ am (F_X10_cylinderAt pl)))), (4, .int (F_X10_cylinderAt pl)), (0, .ref (E.1 24)), (1, .int t), (2, .int am), (3, .int pl)]) C (Nat.le_of_ble_eq_true rfl) rfl dX10_ends_15 ?_
  refine v_iload C 0 rfl dX10_ends_17 ?_
  refine v_aload_n C 2 rfl dX10_ends_19 ?_
  refine v_iload C 0 rfl dX10_ends_20 ?_
  refine v_iload_n C 5 rfl dX10_ends_22 ?_
  refine v_cV1 (rest := [.int (t + (F_X10_seek μ am (F_X10_cylinderAt pl)))]) C mv_RX10_72 (m_X10_waits l G E σ μ Y (t + (F_X10_seek μ am (F_X10_cylinderAt pl))) pl hs) 24 g_24 rfl rfl rfl rfl (Nat.le_of_ble_eq_true rfl) ⟨Nat.le_of_ble_eq_true rfl, Nat.le_of_ble_eq_true rfl⟩ ⟨rfl, rfl⟩ ⟨Nat.zero_le _, Nat.zero_le _⟩ dX10_ends_23 ?_
  refine v_iadd C dX10_ends_26 ?_
  refine v_iload C 1 rfl dX10_ends_27 ?_
  refine v_cS1 (rest := [.int ((t + (F_X10_seek μ am (F_X10_cylinderAt pl))) + (F_X10_waits μ (t + (F_X10_seek μ am (F_X10_cylinderAt pl))) pl))]) C ms_RX10_59 (m_X10_ticksOf l G E σ μ Y (F_X10_cylinderAt pl) hs) rfl rfl (Nat.le_of_ble_eq_true rfl) ⟨Nat.le_of_ble_eq_true rfl, Nat.le_of_ble_eq_true rfl⟩ ⟨rfl, rfl⟩ ⟨Nat.zero_le _, Nat.zero_le _⟩ dX10_ends_29 ?_
  refine v_iadd C dX10_ends_32 ?_
  have e1 : F_X10_ends μ t am pl = ((t + (F_X10_seek μ am (F_X10_cylinderAt pl))) + (F_X10_waits μ (t + (F_X10_seek μ am (F_X10_cylinderAt pl))) pl)) + (F_X10_ticksOf (F_X10_cylinderAt pl)) := by rw [F_X10_ends]
  exact v_Q hQ (v_iret C () trivial (by rw [e1]) rfl (Nat.zero_le _) (Nat.zero_le _) dX10_ends_33)
def F_X10_accesses (μ : Sg) (pl : Int32) : Sg := (s2 (s2 (s2 (s2 (s2 (s2 (s2 μ 25 13 ((μ 25 13) + (F_X10_seek μ (μ 25 9) (F_X10_cylinderAt pl)))) 25 14 ((μ 25 14) + (F_X10_waits μ ((μ 25 8) + (F_X10_seek μ (μ 25 9) (F_X10_cylinderAt pl))) pl))) 25 15 ((μ 25 15) + (F_X10_ticksOf (F_X10_cylinderAt pl)))) 25 16 ((μ 25 16) + (1 : Int32))) 25 ((1100 : Int32) + pl).toNatClampNeg (((s2 (s2 (s2 (s2 μ 25 13 ((μ 25 13) + (F_X10_seek μ (μ 25 9) (F_X10_cylinderAt pl)))) 25 14 ((μ 25 14) + (F_X10_waits μ ((μ 25 8) + (F_X10_seek μ (μ 25 9) (F_X10_cylinderAt pl))) pl))) 25 15 ((μ 25 15) + (F_X10_ticksOf (F_X10_cylinderAt pl)))) 25 16 ((μ 25 16) + (1 : Int32))) 25 ((1100 : Int32) + pl).toNatClampNeg) + (1 : Int32))) 25 8 (((s2 (s2 (s2 (s2 (s2 μ 25 13 ((μ 25 13) + (F_X10_seek μ (μ 25 9) (F_X10_cylinderAt pl)))) 25 14 ((μ 25 14) + (F_X10_waits μ ((μ 25 8) + (F_X10_seek μ (μ 25 9) (F_X10_cylinderAt pl))) pl))) 25 15 ((μ 25 15) + (F_X10_ticksOf (F_X10_cylinderAt pl)))) 25 16 ((μ 25 16) + (1 : Int32))) 25 ((1100 : Int32) + pl).toNatClampNeg (((s2 (s2 (s2 (s2 μ 25 13 ((μ 25 13) + (F_X10_seek μ (μ 25 9) (F_X10_cylinderAt pl)))) 25 14 ((μ 25 14) + (F_X10_waits μ ((μ 25 8) + (F_X10_seek μ (μ 25 9) (F_X10_cylinderAt pl))) pl))) 25 15 ((μ 25 15) + (F_X10_ticksOf (F_X10_cylinderAt pl)))) 25 16 ((μ 25 16) + (1 : Int32))) 25 ((1100 : Int32) + pl).toNatClampNeg) + (1 : Int32))) 25 8) + (((F_X10_seek μ (μ 25 9) (F_X10_cylinderAt pl)) + (F_X10_waits μ ((μ 25 8) + (F_X10_seek μ (μ 25 9) (F_X10_cylinderAt pl))) pl)) + (F_X10_ticksOf (F_X10_cylinderAt pl))))) 25 9 (F_X10_cylinderAt pl))
abbrev rm_X10_accesses : Room := { frames := 4, cells := 0, slots := 0, locals := 85 }
theorem tn_8 : (8 : Int32).toNatClampNeg = 8 := by decide
theorem vi_8_1700 : vp_in (8 : Int32) 1700 := vp_lit tn_8 (by decide) (by decide)
theorem tn_9 : (9 : Int32).toNatClampNeg = 9 := by decide
theorem vi_9_1700 : vp_in (9 : Int32) 1700 := vp_lit tn_9 (by decide) (by decide)
theorem tn_13 : (13 : Int32).toNatClampNeg = 13 := by decide
theorem vi_13_1700 : vp_in (13 : Int32) 1700 := vp_lit tn_13 (by decide) (by decide)
theorem tn_14 : (14 : Int32).toNatClampNeg = 14 := by decide
theorem vi_14_1700 : vp_in (14 : Int32) 1700 := vp_lit tn_14 (by decide) (by decide)
theorem tn_15 : (15 : Int32).toNatClampNeg = 15 := by decide
theorem vi_15_1700 : vp_in (15 : Int32) 1700 := vp_lit tn_15 (by decide) (by decide)
theorem tn_16 : (16 : Int32).toNatClampNeg = 16 := by decide
theorem vi_16_1700 : vp_in (16 : Int32) 1700 := vp_lit tn_16 (by decide) (by decide)
set_option maxRecDepth 100000 in
set_option maxHeartbeats 4000000 in
theorem m_X10_accesses (l : Launch) (G : GG) (E : EE) (σ μ : Sg) (Y : va_W) (pl : Int32) (hs : ¬ F_X10_sectorsOf (F_X10_cylinderAt pl) = 0) (ha : cyl (μ 25 9)) (hc : cyl (F_X10_cylinderAt pl)) (hp : ∃ j : Nat, j ≤ 575 ∧ pl = nI j) : KK l G yX10_accesses cX10_accesses 5 none rm_X10_accesses [.ref (E.1 24), .int pl] (Wd G E σ μ Y) none (Wd G E σ (F_X10_accesses μ pl) Y) := by
  refine KE.of (by decide) (Nat.le_of_ble_eq_true rfl) ?_
  intro zp ze zs zm za zb zt zc zA C _
  generalize hQ : MQ zb _ za zs _ _ zA = Q
  show V zp l ze rm_X10_accesses zs zm za zb zt zc 5 G zA 0 0 Q 0 [(0, .ref (E.1 24)), (1, .int pl)] [] (Wd G E σ μ Y)
  refine v_iload_n C 1 rfl dX10_accesses_0 ?_
  refine v_cS1 (rest := []) C ms_RX10_53 (m_X10_cylinderAt l G E σ μ Y pl) rfl rfl (Nat.le_of_ble_eq_true rfl) ⟨Nat.le_of_ble_eq_true rfl, Nat.le_of_ble_eq_true rfl⟩ ⟨rfl, rfl⟩ ⟨Nat.zero_le _, Nat.zero_le _⟩ dX10_accesses_1 ?_
  refine v_istore_n (lv' := [(2, .int (F_X10_cylinderAt pl)), (0, .ref (E.1 24)), (1, .int pl)]) C (Nat.le_of_ble_eq_true rfl) rfl dX10_accesses_4 ?_
  refine v_aload_n C 1 rfl dX10_accesses_5 ?_
  refine v_aload_n C 1 rfl dX10_accesses_6 ?_
  refine v_get (v := .ref (E.1 25)) C fl_RX10_7 24 g_24 rfl dX10_accesses_7 ?_
  refine v_bipush (v := (9 : Int32)) C (by decide) dX10_accesses_10 ?_
  refine v_iald (v := μ 25 9) C 25 g_25 vi_9_1700 (rdl tn_9 rfl) dX10_accesses_12 ?_
  refine v_iload_n C 0 rfl dX10_accesses_13 ?_
  refine v_cV1 (rest := []) C mv_RX10_68 (m_X10_seek l G E σ μ Y (μ 25 9) (F_X10_cylinderAt pl) ha hc) 24 g_24 rfl rfl rfl rfl (Nat.le_of_ble_eq_true rfl) ⟨Nat.le_of_ble_eq_true rfl, Nat.le_of_ble_eq_true rfl⟩ ⟨rfl, rfl⟩ ⟨Nat.zero_le _, Nat.zero_le _⟩ dX10_accesses_14 ?_
  refine v_istore_n (lv' := [(3, .int (F_X10_seek μ (μ 25 9) (F_X10_cylinderAt pl))), (2, .int (F_X10_cylinderAt pl)), (0, .ref (E.1 24)), (1, .int pl)]) C (Nat.le_of_ble_eq_true rfl) rfl dX10_accesses_17 ?_
  refine v_aload_n C 2 rfl dX10_accesses_18 ?_
  refine v_aload_n C 2 rfl dX10_accesses_19 ?_
  refine v_get (v := .ref (E.1 25)) C fl_RX10_7 24 g_24 rfl dX10_accesses_20 ?_
  refine v_bipush (v := (8 : Int32)) C (by decide) dX10_accesses_23 ?_
  refine v_iald (v := μ 25 8) C 25 g_25 vi_8_1700 (rdl tn_8 rfl) dX10_accesses_25 ?_
  refine v_iload_n C 0 rfl dX10_accesses_26 ?_
  refine v_iadd C dX10_accesses_27 ?_
  refine v_iload_n C 3 rfl dX10_accesses_28 ?_
  refine v_cV1 (rest := []) C mv_RX10_72 (m_X10_waits l G E σ μ Y ((μ 25 8) + (F_X10_seek μ (μ 25 9) (F_X10_cylinderAt pl))) pl hs) 24 g_24 rfl rfl rfl rfl (Nat.le_of_ble_eq_true rfl) ⟨Nat.le_of_ble_eq_true rfl, Nat.le_of_ble_eq_true rfl⟩ ⟨rfl, rfl⟩ ⟨Nat.zero_le _, Nat.zero_le _⟩ dX10_accesses_29 ?_
  refine v_istore (lv' := [(4, .int (F_X10_waits μ ((μ 25 8) + (F_X10_seek μ (μ 25 9) (F_X10_cylinderAt pl))) pl)), (3, .int (F_X10_seek μ (μ 25 9) (F_X10_cylinderAt pl))), (2, .int (F_X10_cylinderAt pl)), (0, .ref (E.1 24)), (1, .int pl)]) C (Nat.le_of_ble_eq_true rfl) rfl dX10_accesses_32 ?_
  refine v_aload_n C 3 rfl dX10_accesses_34 ?_
  refine v_get (v := .ref (E.1 25)) C fl_RX10_7 24 g_24 rfl dX10_accesses_35 ?_
  refine v_bipush (v := (13 : Int32)) C (by decide) dX10_accesses_38 ?_
  refine v_dup2 C rfl rfl dX10_accesses_40 ?_
  refine v_iald (v := μ 25 13) C 25 g_25 vi_13_1700 (rdl tn_13 rfl) dX10_accesses_41 ?_
  refine v_iload_n C 1 rfl dX10_accesses_42 ?_
  refine v_iadd C dX10_accesses_43 ?_
  refine v_iast (ws' := Wd G E σ (s2 μ 25 13 ((μ 25 13) + (F_X10_seek μ (μ 25 9) (F_X10_cylinderAt pl)))) Y) C 25 g_25 vi_13_1700 ((p_25 _ _).trans (by rw [tn_13])) dX10_accesses_44 ?_
  refine v_aload_n C 3 rfl dX10_accesses_45 ?_
  refine v_get (v := .ref (E.1 25)) C fl_RX10_7 24 g_24 rfl dX10_accesses_46 ?_
  refine v_bipush (v := (14 : Int32)) C (by decide) dX10_accesses_49 ?_
  refine v_dup2 C rfl rfl dX10_accesses_51 ?_
  refine v_iald (v := μ 25 14) C 25 g_25 vi_14_1700 (rdl tn_14 rfl) dX10_accesses_52 ?_
  refine v_iload C 0 rfl dX10_accesses_53 ?_
  refine v_iadd C dX10_accesses_55 ?_
  refine v_iast (ws' := Wd G E σ (s2 (s2 μ 25 13 ((μ 25 13) + (F_X10_seek μ (μ 25 9) (F_X10_cylinderAt pl)))) 25 14 ((μ 25 14) + (F_X10_waits μ ((μ 25 8) + (F_X10_seek μ (μ 25 9) (F_X10_cylinderAt pl))) pl))) Y) C 25 g_25 vi_14_1700 ((p_25 _ _).trans (by rw [tn_14])) dX10_accesses_56 ?_
  refine v_aload_n C 3 rfl dX10_accesses_57 ?_
  refine v_get (v := .ref (E.1 25)) C fl_RX10_7 24 g_24 rfl dX10_accesses_58 ?_
  refine v_bipush (v := (15 : Int32)) C (by decide) dX10_accesses_61 ?_
  refine v_dup2 C rfl rfl dX10_accesses_63 ?_
  refine v_iald (v := μ 25 15) C 25 g_25 vi_15_1700 (rdl tn_15 rfl) dX10_accesses_64 ?_
  refine v_iload_n C 2 rfl dX10_accesses_65 ?_
  refine v_cS1 (rest := [.int (μ 25 15), .int (15 : Int32), .ref (E.1 25)]) C ms_RX10_59 (m_X10_ticksOf l G E σ (s2 (s2 μ 25 13 ((μ 25 13) + (F_X10_seek μ (μ 25 9) (F_X10_cylinderAt pl)))) 25 14 ((μ 25 14) + (F_X10_waits μ ((μ 25 8) + (F_X10_seek μ (μ 25 9) (F_X10_cylinderAt pl))) pl))) Y (F_X10_cylinderAt pl) hs) rfl rfl (Nat.le_of_ble_eq_true rfl) ⟨Nat.le_of_ble_eq_true rfl, Nat.le_of_ble_eq_true rfl⟩ ⟨rfl, rfl⟩ ⟨Nat.zero_le _, Nat.zero_le _⟩ dX10_accesses_66 ?_
  refine v_iadd C dX10_accesses_69 ?_
  refine v_iast (ws' := Wd G E σ (s2 (s2 (s2 μ 25 13 ((μ 25 13) + (F_X10_seek μ (μ 25 9) (F_X10_cylinderAt pl)))) 25 14 ((μ 25 14) + (F_X10_waits μ ((μ 25 8) + (F_X10_seek μ (μ 25 9) (F_X10_cylinderAt pl))) pl))) 25 15 ((μ 25 15) + (F_X10_ticksOf (F_X10_cylinderAt pl)))) Y) C 25 g_25 vi_15_1700 ((p_25 _ _).trans (by rw [tn_15])) dX10_accesses_70 ?_
  refine v_aload_n C 3 rfl dX10_accesses_71 ?_
  refine v_get (v := .ref (E.1 25)) C fl_RX10_7 24 g_24 rfl dX10_accesses_72 ?_
  refine v_bipush (v := (16 : Int32)) C (by decide) dX10_accesses_75 ?_
  refine v_dup2 C rfl rfl dX10_accesses_77 ?_
  refine v_iald (v := μ 25 16) C 25 g_25 vi_16_1700 (rdl tn_16 rfl) dX10_accesses_78 ?_
  refine v_iconst (v := (1 : Int32)) C (by decide) dX10_accesses_79 ?_
  refine v_iadd C dX10_accesses_80 ?_
  refine v_iast (ws' := Wd G E σ (s2 (s2 (s2 (s2 μ 25 13 ((μ 25 13) + (F_X10_seek μ (μ 25 9) (F_X10_cylinderAt pl)))) 25 14 ((μ 25 14) + (F_X10_waits μ ((μ 25 8) + (F_X10_seek μ (μ 25 9) (F_X10_cylinderAt pl))) pl))) 25 15 ((μ 25 15) + (F_X10_ticksOf (F_X10_cylinderAt pl)))) 25 16 ((μ 25 16) + (1 : Int32))) Y) C 25 g_25 vi_16_1700 ((p_25 _ _).trans (by rw [tn_16])) dX10_accesses_81 ?_
  refine v_aload_n C 3 rfl dX10_accesses_82 ?_
  refine v_get (v := .ref (E.1 25)) C fl_RX10_7 24 g_24 rfl dX10_accesses_83 ?_
  refine v_sipush (v := (1100 : Int32)) C (by decide) dX10_accesses_86 ?_
  refine v_iload_n C 4 rfl dX10_accesses_89 ?_
  refine v_iadd C dX10_accesses_90 ?_
  refine v_dup2 C rfl rfl dX10_accesses_91 ?_
  refine v_iald (v := (s2 (s2 (s2 (s2 μ 25 13 ((μ 25 13) + (F_X10_seek μ (μ 25 9) (F_X10_cylinderAt pl)))) 25 14 ((μ 25 14) + (F_X10_waits μ ((μ 25 8) + (F_X10_seek μ (μ 25 9) (F_X10_cylinderAt pl))) pl))) 25 15 ((μ 25 15) + (F_X10_ticksOf (F_X10_cylinderAt pl)))) 25 16 ((μ 25 16) + (1 : Int32))) 25 ((1100 : Int32) + pl).toNatClampNeg) C 25 g_25 (by obtain ⟨j, hj, ej⟩ := hp; exact vi_add 1100 ej (by omega) (by decide)) rfl dX10_accesses_92 ?_
  refine v_iconst (v := (1 : Int32)) C (by decide) dX10_accesses_93 ?_
  refine v_iadd C dX10_accesses_94 ?_
  refine v_iast (ws' := Wd G E σ (s2 (s2 (s2 (s2 (s2 μ 25 13 ((μ 25 13) + (F_X10_seek μ (μ 25 9) (F_X10_cylinderAt pl)))) 25 14 ((μ 25 14) + (F_X10_waits μ ((μ 25 8) + (F_X10_seek μ (μ 25 9) (F_X10_cylinderAt pl))) pl))) 25 15 ((μ 25 15) + (F_X10_ticksOf (F_X10_cylinderAt pl)))) 25 16 ((μ 25 16) + (1 : Int32))) 25 ((1100 : Int32) + pl).toNatClampNeg (((s2 (s2 (s2 (s2 μ 25 13 ((μ 25 13) + (F_X10_seek μ (μ 25 9) (F_X10_cylinderAt pl)))) 25 14 ((μ 25 14) + (F_X10_waits μ ((μ 25 8) + (F_X10_seek μ (μ 25 9) (F_X10_cylinderAt pl))) pl))) 25 15 ((μ 25 15) + (F_X10_ticksOf (F_X10_cylinderAt pl)))) 25 16 ((μ 25 16) + (1 : Int32))) 25 ((1100 : Int32) + pl).toNatClampNeg) + (1 : Int32))) Y) C 25 g_25 (by obtain ⟨j, hj, ej⟩ := hp; exact vi_add 1100 ej (by omega) (by decide)) (p_25 _ _) dX10_accesses_95 ?_
  refine v_aload_n C 3 rfl dX10_accesses_96 ?_
  refine v_get (v := .ref (E.1 25)) C fl_RX10_7 24 g_24 rfl dX10_accesses_97 ?_
  refine v_bipush (v := (8 : Int32)) C (by decide) dX10_accesses_100 ?_
  refine v_dup2 C rfl rfl dX10_accesses_102 ?_
  refine v_iald (v := (s2 (s2 (s2 (s2 (s2 μ 25 13 ((μ 25 13) + (F_X10_seek μ (μ 25 9) (F_X10_cylinderAt pl)))) 25 14 ((μ 25 14) + (F_X10_waits μ ((μ 25 8) + (F_X10_seek μ (μ 25 9) (F_X10_cylinderAt pl))) pl))) 25 15 ((μ 25 15) + (F_X10_ticksOf (F_X10_cylinderAt pl)))) 25 16 ((μ 25 16) + (1 : Int32))) 25 ((1100 : Int32) + pl).toNatClampNeg (((s2 (s2 (s2 (s2 μ 25 13 ((μ 25 13) + (F_X10_seek μ (μ 25 9) (F_X10_cylinderAt pl)))) 25 14 ((μ 25 14) + (F_X10_waits μ ((μ 25 8) + (F_X10_seek μ (μ 25 9) (F_X10_cylinderAt pl))) pl))) 25 15 ((μ 25 15) + (F_X10_ticksOf (F_X10_cylinderAt pl)))) 25 16 ((μ 25 16) + (1 : Int32))) 25 ((1100 : Int32) + pl).toNatClampNeg) + (1 : Int32))) 25 8) C 25 g_25 vi_8_1700 (rdl tn_8 rfl) dX10_accesses_103 ?_
  refine v_iload_n C 1 rfl dX10_accesses_104 ?_
  refine v_iload C 0 rfl dX10_accesses_105 ?_
  refine v_iadd C dX10_accesses_107 ?_
  refine v_iload_n C 2 rfl dX10_accesses_108 ?_
  refine v_cS1 (rest := [.int ((F_X10_seek μ (μ 25 9) (F_X10_cylinderAt pl)) + (F_X10_waits μ ((μ 25 8) + (F_X10_seek μ (μ 25 9) (F_X10_cylinderAt pl))) pl)), .int ((s2 (s2 (s2 (s2 (s2 μ 25 13 ((μ 25 13) + (F_X10_seek μ (μ 25 9) (F_X10_cylinderAt pl)))) 25 14 ((μ 25 14) + (F_X10_waits μ ((μ 25 8) + (F_X10_seek μ (μ 25 9) (F_X10_cylinderAt pl))) pl))) 25 15 ((μ 25 15) + (F_X10_ticksOf (F_X10_cylinderAt pl)))) 25 16 ((μ 25 16) + (1 : Int32))) 25 ((1100 : Int32) + pl).toNatClampNeg (((s2 (s2 (s2 (s2 μ 25 13 ((μ 25 13) + (F_X10_seek μ (μ 25 9) (F_X10_cylinderAt pl)))) 25 14 ((μ 25 14) + (F_X10_waits μ ((μ 25 8) + (F_X10_seek μ (μ 25 9) (F_X10_cylinderAt pl))) pl))) 25 15 ((μ 25 15) + (F_X10_ticksOf (F_X10_cylinderAt pl)))) 25 16 ((μ 25 16) + (1 : Int32))) 25 ((1100 : Int32) + pl).toNatClampNeg) + (1 : Int32))) 25 8), .int (8 : Int32), .ref (E.1 25)]) C ms_RX10_59 (m_X10_ticksOf l G E σ (s2 (s2 (s2 (s2 (s2 μ 25 13 ((μ 25 13) + (F_X10_seek μ (μ 25 9) (F_X10_cylinderAt pl)))) 25 14 ((μ 25 14) + (F_X10_waits μ ((μ 25 8) + (F_X10_seek μ (μ 25 9) (F_X10_cylinderAt pl))) pl))) 25 15 ((μ 25 15) + (F_X10_ticksOf (F_X10_cylinderAt pl)))) 25 16 ((μ 25 16) + (1 : Int32))) 25 ((1100 : Int32) + pl).toNatClampNeg (((s2 (s2 (s2 (s2 μ 25 13 ((μ 25 13) + (F_X10_seek μ (μ 25 9) (F_X10_cylinderAt pl)))) 25 14 ((μ 25 14) + (F_X10_waits μ ((μ 25 8) + (F_X10_seek μ (μ 25 9) (F_X10_cylinderAt pl))) pl))) 25 15 ((μ 25 15) + (F_X10_ticksOf (F_X10_cylinderAt pl)))) 25 16 ((μ 25 16) + (1 : Int32))) 25 ((1100 : Int32) + pl).toNatClampNeg) + (1 : Int32))) Y (F_X10_cylinderAt pl) hs) rfl rfl (Nat.le_of_ble_eq_true rfl) ⟨Nat.le_of_ble_eq_true rfl, Nat.le_of_ble_eq_true rfl⟩ ⟨rfl, rfl⟩ ⟨Nat.zero_le _, Nat.zero_le _⟩ dX10_accesses_109 ?_
  refine v_iadd C dX10_accesses_112 ?_
  refine v_iadd C dX10_accesses_113 ?_
  refine v_iast (ws' := Wd G E σ (s2 (s2 (s2 (s2 (s2 (s2 μ 25 13 ((μ 25 13) + (F_X10_seek μ (μ 25 9) (F_X10_cylinderAt pl)))) 25 14 ((μ 25 14) + (F_X10_waits μ ((μ 25 8) + (F_X10_seek μ (μ 25 9) (F_X10_cylinderAt pl))) pl))) 25 15 ((μ 25 15) + (F_X10_ticksOf (F_X10_cylinderAt pl)))) 25 16 ((μ 25 16) + (1 : Int32))) 25 ((1100 : Int32) + pl).toNatClampNeg (((s2 (s2 (s2 (s2 μ 25 13 ((μ 25 13) + (F_X10_seek μ (μ 25 9) (F_X10_cylinderAt pl)))) 25 14 ((μ 25 14) + (F_X10_waits μ ((μ 25 8) + (F_X10_seek μ (μ 25 9) (F_X10_cylinderAt pl))) pl))) 25 15 ((μ 25 15) + (F_X10_ticksOf (F_X10_cylinderAt pl)))) 25 16 ((μ 25 16) + (1 : Int32))) 25 ((1100 : Int32) + pl).toNatClampNeg) + (1 : Int32))) 25 8 (((s2 (s2 (s2 (s2 (s2 μ 25 13 ((μ 25 13) + (F_X10_seek μ (μ 25 9) (F_X10_cylinderAt pl)))) 25 14 ((μ 25 14) + (F_X10_waits μ ((μ 25 8) + (F_X10_seek μ (μ 25 9) (F_X10_cylinderAt pl))) pl))) 25 15 ((μ 25 15) + (F_X10_ticksOf (F_X10_cylinderAt pl)))) 25 16 ((μ 25 16) + (1 : Int32))) 25 ((1100 : Int32) + pl).toNatClampNeg (((s2 (s2 (s2 (s2 μ 25 13 ((μ 25 13) + (F_X10_seek μ (μ 25 9) (F_X10_cylinderAt pl)))) 25 14 ((μ 25 14) + (F_X10_waits μ ((μ 25 8) + (F_X10_seek μ (μ 25 9) (F_X10_cylinderAt pl))) pl))) 25 15 ((μ 25 15) + (F_X10_ticksOf (F_X10_cylinderAt pl)))) 25 16 ((μ 25 16) + (1 : Int32))) 25 ((1100 : Int32) + pl).toNatClampNeg) + (1 : Int32))) 25 8) + (((F_X10_seek μ (μ 25 9) (F_X10_cylinderAt pl)) + (F_X10_waits μ ((μ 25 8) + (F_X10_seek μ (μ 25 9) (F_X10_cylinderAt pl))) pl)) + (F_X10_ticksOf (F_X10_cylinderAt pl))))) Y) C 25 g_25 vi_8_1700 ((p_25 _ _).trans (by rw [tn_8])) dX10_accesses_114 ?_
  refine v_aload_n C 3 rfl dX10_accesses_115 ?_
  refine v_get (v := .ref (E.1 25)) C fl_RX10_7 24 g_24 rfl dX10_accesses_116 ?_
  refine v_bipush (v := (9 : Int32)) C (by decide) dX10_accesses_119 ?_
  refine v_iload_n C 2 rfl dX10_accesses_121 ?_
  refine v_iast (ws' := Wd G E σ (s2 (s2 (s2 (s2 (s2 (s2 (s2 μ 25 13 ((μ 25 13) + (F_X10_seek μ (μ 25 9) (F_X10_cylinderAt pl)))) 25 14 ((μ 25 14) + (F_X10_waits μ ((μ 25 8) + (F_X10_seek μ (μ 25 9) (F_X10_cylinderAt pl))) pl))) 25 15 ((μ 25 15) + (F_X10_ticksOf (F_X10_cylinderAt pl)))) 25 16 ((μ 25 16) + (1 : Int32))) 25 ((1100 : Int32) + pl).toNatClampNeg (((s2 (s2 (s2 (s2 μ 25 13 ((μ 25 13) + (F_X10_seek μ (μ 25 9) (F_X10_cylinderAt pl)))) 25 14 ((μ 25 14) + (F_X10_waits μ ((μ 25 8) + (F_X10_seek μ (μ 25 9) (F_X10_cylinderAt pl))) pl))) 25 15 ((μ 25 15) + (F_X10_ticksOf (F_X10_cylinderAt pl)))) 25 16 ((μ 25 16) + (1 : Int32))) 25 ((1100 : Int32) + pl).toNatClampNeg) + (1 : Int32))) 25 8 (((s2 (s2 (s2 (s2 (s2 μ 25 13 ((μ 25 13) + (F_X10_seek μ (μ 25 9) (F_X10_cylinderAt pl)))) 25 14 ((μ 25 14) + (F_X10_waits μ ((μ 25 8) + (F_X10_seek μ (μ 25 9) (F_X10_cylinderAt pl))) pl))) 25 15 ((μ 25 15) + (F_X10_ticksOf (F_X10_cylinderAt pl)))) 25 16 ((μ 25 16) + (1 : Int32))) 25 ((1100 : Int32) + pl).toNatClampNeg (((s2 (s2 (s2 (s2 μ 25 13 ((μ 25 13) + (F_X10_seek μ (μ 25 9) (F_X10_cylinderAt pl)))) 25 14 ((μ 25 14) + (F_X10_waits μ ((μ 25 8) + (F_X10_seek μ (μ 25 9) (F_X10_cylinderAt pl))) pl))) 25 15 ((μ 25 15) + (F_X10_ticksOf (F_X10_cylinderAt pl)))) 25 16 ((μ 25 16) + (1 : Int32))) 25 ((1100 : Int32) + pl).toNatClampNeg) + (1 : Int32))) 25 8) + (((F_X10_seek μ (μ 25 9) (F_X10_cylinderAt pl)) + (F_X10_waits μ ((μ 25 8) + (F_X10_seek μ (μ 25 9) (F_X10_cylinderAt pl))) pl)) + (F_X10_ticksOf (F_X10_cylinderAt pl))))) 25 9 (F_X10_cylinderAt pl)) Y) C 25 g_25 vi_9_1700 ((p_25 _ _).trans (by rw [tn_9])) dX10_accesses_122 ?_
  have e1 : F_X10_accesses μ pl = (s2 (s2 (s2 (s2 (s2 (s2 (s2 μ 25 13 ((μ 25 13) + (F_X10_seek μ (μ 25 9) (F_X10_cylinderAt pl)))) 25 14 ((μ 25 14) + (F_X10_waits μ ((μ 25 8) + (F_X10_seek μ (μ 25 9) (F_X10_cylinderAt pl))) pl))) 25 15 ((μ 25 15) + (F_X10_ticksOf (F_X10_cylinderAt pl)))) 25 16 ((μ 25 16) + (1 : Int32))) 25 ((1100 : Int32) + pl).toNatClampNeg (((s2 (s2 (s2 (s2 μ 25 13 ((μ 25 13) + (F_X10_seek μ (μ 25 9) (F_X10_cylinderAt pl)))) 25 14 ((μ 25 14) + (F_X10_waits μ ((μ 25 8) + (F_X10_seek μ (μ 25 9) (F_X10_cylinderAt pl))) pl))) 25 15 ((μ 25 15) + (F_X10_ticksOf (F_X10_cylinderAt pl)))) 25 16 ((μ 25 16) + (1 : Int32))) 25 ((1100 : Int32) + pl).toNatClampNeg) + (1 : Int32))) 25 8 (((s2 (s2 (s2 (s2 (s2 μ 25 13 ((μ 25 13) + (F_X10_seek μ (μ 25 9) (F_X10_cylinderAt pl)))) 25 14 ((μ 25 14) + (F_X10_waits μ ((μ 25 8) + (F_X10_seek μ (μ 25 9) (F_X10_cylinderAt pl))) pl))) 25 15 ((μ 25 15) + (F_X10_ticksOf (F_X10_cylinderAt pl)))) 25 16 ((μ 25 16) + (1 : Int32))) 25 ((1100 : Int32) + pl).toNatClampNeg (((s2 (s2 (s2 (s2 μ 25 13 ((μ 25 13) + (F_X10_seek μ (μ 25 9) (F_X10_cylinderAt pl)))) 25 14 ((μ 25 14) + (F_X10_waits μ ((μ 25 8) + (F_X10_seek μ (μ 25 9) (F_X10_cylinderAt pl))) pl))) 25 15 ((μ 25 15) + (F_X10_ticksOf (F_X10_cylinderAt pl)))) 25 16 ((μ 25 16) + (1 : Int32))) 25 ((1100 : Int32) + pl).toNatClampNeg) + (1 : Int32))) 25 8) + (((F_X10_seek μ (μ 25 9) (F_X10_cylinderAt pl)) + (F_X10_waits μ ((μ 25 8) + (F_X10_seek μ (μ 25 9) (F_X10_cylinderAt pl))) pl)) + (F_X10_ticksOf (F_X10_cylinderAt pl))))) 25 9 (F_X10_cylinderAt pl)) := by rw [F_X10_accesses]
  exact v_Q hQ (v_vret C () trivial rfl (by rw [e1]) (Nat.zero_le _) (Nat.zero_le _) dX10_accesses_123)
