def IOK (μ : Sg) (i : Nat) : Prop := TOK (μ 24) ∧ μ 24 6 = nI i
theorem IOK.sk {μ : Sg} {i : Nat} {ch : Int32} (h : IOK μ i) (hc : ¬ ch = -1) : IOK (F_X10_skips μ ch).2 i := ⟨h.1.skips hc, skips_fr.2.1.trans h.2⟩
theorem IOK.dg {μ : Sg} {i : Nat} {mo : Int32} (h : IOK μ i) : IOK (F_X10_digits μ mo).2 i := ⟨(digits_fr h.1).2, (digits_fr h.1).1.2.1.trans h.2⟩
theorem it_b0 {x : Int32} {i : Nat} (hx : x = nI i) (h : i ≤ 18) : vp_in ((3 : Int32) * x) 60 := by
  rw [hx, show (3 : Int32) = nI 3 from rfl, pk_mul]; exact vp_in_nI (by omega) (by decide)
theorem it_b1 {x : Int32} {i : Nat} (hx : x = nI i) (h : i ≤ 18) : vp_in ((3 : Int32) * x + (1 : Int32)) 60 := by
  rw [hx, show (3 : Int32) = nI 3 from rfl, pk_mul, show (1 : Int32) = nI 1 from rfl, nI_add]; exact vp_in_nI (by omega) (by decide)
theorem it_b2 {x : Int32} {i : Nat} (hx : x = nI i) (h : i ≤ 18) : vp_in ((3 : Int32) * x + (2 : Int32)) 60 := by
  rw [hx, show (3 : Int32) = nI 3 from rfl, pk_mul, show (2 : Int32) = nI 2 from rfl, nI_add]; exact vp_in_nI (by omega) (by decide)
theorem IOK.sk' {μ : Sg} {i : Nat} {ch : Int32} {r : Int32 × Sg} (e : F_X10_skips μ ch = r) (h : IOK μ i) (hc : ¬ ch = -1) : IOK r.2 i := by rw [← e]; exact h.sk hc
theorem IOK.dg' {μ : Sg} {i : Nat} {mo : Int32} {r : Int32 × Sg} (e : F_X10_digits μ mo = r) (h : IOK μ i) : IOK r.2 i := by rw [← e]; exact h.dg
def F_X10_isItem (μ : Sg) : Int32 × Sg := (if (F_X10_here μ) = (119 : Int32) then (let r9 := F_X10_skips μ (114 : Int32); (if r9.1 = 0 then (let r13 := F_X10_skips r9.2 (119 : Int32); (if r13.1 = 0 then ((0 : Int32), r13.2) else (let r14 := F_X10_digits r13.2 (3 : Int32); (if r14.1 = 0 then ((0 : Int32), r14.2) else (let r15 := F_X10_skips (s2 (s2 (s2 r14.2 28 ((3 : Int32) * (r14.2 24 6)).toNatClampNeg (1 : Int32)) 28 (((3 : Int32) * (r14.2 24 6)) + (1 : Int32)).toNatClampNeg (r14.2 24 4)) 28 (((3 : Int32) * (r14.2 24 6)) + (2 : Int32)).toNatClampNeg (0 : Int32)) (64 : Int32); (if r15.1 = 0 then ((1 : Int32), (s2 r15.2 24 6 ((r15.2 24 6) + (1 : Int32)))) else (let r16 := F_X10_digits r15.2 (4 : Int32); (if r16.1 = 0 then ((0 : Int32), r16.2) else ((1 : Int32), (s2 (s2 r16.2 28 (((3 : Int32) * (r16.2 24 6)) + (2 : Int32)).toNatClampNeg (r16.2 24 4)) 24 6 ((r16.2 24 6) + (1 : Int32)))))))))))) else (let r10 := F_X10_digits r9.2 (3 : Int32); (if r10.1 = 0 then ((0 : Int32), r10.2) else (let r11 := F_X10_skips (s2 (s2 (s2 r10.2 28 ((3 : Int32) * (r10.2 24 6)).toNatClampNeg (1 : Int32)) 28 (((3 : Int32) * (r10.2 24 6)) + (1 : Int32)).toNatClampNeg (r10.2 24 4)) 28 (((3 : Int32) * (r10.2 24 6)) + (2 : Int32)).toNatClampNeg (0 : Int32)) (64 : Int32); (if r11.1 = 0 then ((1 : Int32), (s2 r11.2 24 6 ((r11.2 24 6) + (1 : Int32)))) else (let r12 := F_X10_digits r11.2 (4 : Int32); (if r12.1 = 0 then ((0 : Int32), r12.2) else ((1 : Int32), (s2 (s2 r12.2 28 (((3 : Int32) * (r12.2 24 6)) + (2 : Int32)).toNatClampNeg (r12.2 24 4)) 24 6 ((r12.2 24 6) + (1 : Int32)))))))))))) else (let r1 := F_X10_skips μ (114 : Int32); (if r1.1 = 0 then (let r5 := F_X10_skips r1.2 (119 : Int32); (if r5.1 = 0 then ((0 : Int32), r5.2) else (let r6 := F_X10_digits r5.2 (3 : Int32); (if r6.1 = 0 then ((0 : Int32), r6.2) else (let r7 := F_X10_skips (s2 (s2 (s2 r6.2 28 ((3 : Int32) * (r6.2 24 6)).toNatClampNeg (0 : Int32)) 28 (((3 : Int32) * (r6.2 24 6)) + (1 : Int32)).toNatClampNeg (r6.2 24 4)) 28 (((3 : Int32) * (r6.2 24 6)) + (2 : Int32)).toNatClampNeg (0 : Int32)) (64 : Int32); (if r7.1 = 0 then ((1 : Int32), (s2 r7.2 24 6 ((r7.2 24 6) + (1 : Int32)))) else (let r8 := F_X10_digits r7.2 (4 : Int32); (if r8.1 = 0 then ((0 : Int32), r8.2) else ((1 : Int32), (s2 (s2 r8.2 28 (((3 : Int32) * (r8.2 24 6)) + (2 : Int32)).toNatClampNeg (r8.2 24 4)) 24 6 ((r8.2 24 6) + (1 : Int32)))))))))))) else (let r2 := F_X10_digits r1.2 (3 : Int32); (if r2.1 = 0 then ((0 : Int32), r2.2) else (let r3 := F_X10_skips (s2 (s2 (s2 r2.2 28 ((3 : Int32) * (r2.2 24 6)).toNatClampNeg (0 : Int32)) 28 (((3 : Int32) * (r2.2 24 6)) + (1 : Int32)).toNatClampNeg (r2.2 24 4)) 28 (((3 : Int32) * (r2.2 24 6)) + (2 : Int32)).toNatClampNeg (0 : Int32)) (64 : Int32); (if r3.1 = 0 then ((1 : Int32), (s2 r3.2 24 6 ((r3.2 24 6) + (1 : Int32)))) else (let r4 := F_X10_digits r3.2 (4 : Int32); (if r4.1 = 0 then ((0 : Int32), r4.2) else ((1 : Int32), (s2 (s2 r4.2 28 (((3 : Int32) * (r4.2 24 6)) + (2 : Int32)).toNatClampNeg (r4.2 24 4)) 24 6 ((r4.2 24 6) + (1 : Int32)))))))))))))
theorem z01_X10_isItem (μ : Sg) : (F_X10_isItem μ).1 = 0 ∨ (F_X10_isItem μ).1 = 1 := by
  unfold F_X10_isItem; dsimp only; (repeat' split) <;> first | exact Or.inl rfl | exact Or.inr rfl
abbrev rm_X10_isItem : Room := { frames := 2, cells := 0, slots := 0, locals := 44 }
set_option maxRecDepth 100000 in
set_option maxHeartbeats 4000000 in
theorem m_X10_isItem (l : Launch) (G : GG) (E : EE) (σ μ : Sg) (Y : va_W) (hJ : ∃ i : Nat, i ≤ 18 ∧ IOK μ i) : KK l G yX10_isItem cX10_isItem 2 (some .boolean) rm_X10_isItem [.ref (E.1 24)] (Wd G E σ μ Y) (some (.int (F_X10_isItem μ).1)) (Wd G E σ (F_X10_isItem μ).2 Y) := by
  refine KE.of (by decide) (Nat.le_of_ble_eq_true rfl) ?_
  intro zp ze zs zm za zb zt zc zA C _
  generalize hQ : MQ zb _ za zs _ _ zA = Q
  show V zp l ze rm_X10_isItem zs zm za zb zt zc 2 G zA 0 0 Q 0 [(0, .ref (E.1 24))] [] (Wd G E σ μ Y)
  obtain ⟨i, h18, hs⟩ := hJ
  refine v_aload_n C 0 rfl dX10_isItem_0 ?_
  refine v_cV1 (rest := []) C mv_RX10_118 (m_X10_here l G E σ μ Y hs.1) 24 g_24 rfl rfl rfl rfl (Nat.le_of_ble_eq_true rfl) ⟨Nat.le_of_ble_eq_true rfl, Nat.le_of_ble_eq_true rfl⟩ ⟨rfl, rfl⟩ ⟨Nat.zero_le _, Nat.zero_le _⟩ dX10_isItem_1 ?_
  refine v_bipush (v := (119 : Int32)) C (by decide) dX10_isItem_4 ?_
  refine v_icmp_ne (tgt := 13) C (by decide) dX10_isItem_6 (fun h1 => ?_) (fun h1 => ?_)
  · refine v_iconst (v := (0 : Int32)) C (by decide) dX10_isItem_13 ?_
    refine v_istore_n (lv' := [(1, .int (0 : Int32)), (0, .ref (E.1 24))]) C (Nat.le_of_ble_eq_true rfl) rfl dX10_isItem_14 ?_
    refine v_aload_n C 1 rfl dX10_isItem_15 ?_
    refine v_bipush (v := (114 : Int32)) C (by decide) dX10_isItem_16 ?_
    refine v_cV1 (rest := []) C mv_RX10_124 (m_X10_skips l G E σ μ Y (114 : Int32) hs.1) 24 g_24 rfl rfl rfl rfl (Nat.le_of_ble_eq_true rfl) ⟨Nat.le_of_ble_eq_true rfl, Nat.le_of_ble_eq_true rfl⟩ ⟨rfl, rfl⟩ ⟨Nat.zero_le _, Nat.zero_le _⟩ dX10_isItem_18 ?_
    generalize hr1 : F_X10_skips μ (114 : Int32) = r1
    have hs : IOK r1.2 i := IOK.sk' hr1 hs (by decide)
    refine v_if_ne (tgt := 33) C (by decide) dX10_isItem_21 (fun h2 => ?_) (fun h2 => ?_)
    · refine v_aload_n C 1 rfl dX10_isItem_33 ?_
      refine v_iconst (v := (3 : Int32)) C (by decide) dX10_isItem_34 ?_
      refine v_cV1 (rest := []) C mv_RX10_127 (m_X10_digits l G E σ r1.2 Y (3 : Int32) hs.1 (⟨3, by omega, rfl⟩)) 24 g_24 rfl rfl rfl rfl (Nat.le_of_ble_eq_true rfl) ⟨Nat.le_of_ble_eq_true rfl, Nat.le_of_ble_eq_true rfl⟩ ⟨rfl, rfl⟩ ⟨Nat.zero_le _, Nat.zero_le _⟩ dX10_isItem_35 ?_
      generalize hr2 : F_X10_digits r1.2 (3 : Int32) = r2
      have hs : IOK r2.2 i := IOK.dg' hr2 hs
      refine v_if_ne (tgt := 43) C (by decide) dX10_isItem_38 (fun h3 => ?_) (fun h3 => ?_)
      · refine v_aload_n C 1 rfl dX10_isItem_43 ?_
        refine v_get (v := .ref (E.1 28)) C fl_RX10_23 24 g_24 rfl dX10_isItem_44 ?_
        refine v_iconst (v := (3 : Int32)) C (by decide) dX10_isItem_47 ?_
        refine v_aload_n C 1 rfl dX10_isItem_48 ?_
        refine v_get (v := .int (r2.2 24 6)) C fl_RX10_130 24 g_24 rfl dX10_isItem_49 ?_
        refine v_imul C dX10_isItem_52 ?_
        refine v_iload_n C 0 rfl dX10_isItem_53 ?_
        refine v_iast (ws' := Wd G E σ (s2 r2.2 28 ((3 : Int32) * (r2.2 24 6)).toNatClampNeg (0 : Int32)) Y) C 28 g_28 (it_b0 hs.2 h18) (p_28 _ _) dX10_isItem_54 ?_
        refine v_aload_n C 1 rfl dX10_isItem_55 ?_
        refine v_get (v := .ref (E.1 28)) C fl_RX10_23 24 g_24 rfl dX10_isItem_56 ?_
        refine v_iconst (v := (3 : Int32)) C (by decide) dX10_isItem_59 ?_
        refine v_aload_n C 1 rfl dX10_isItem_60 ?_
        refine v_get (v := .int (r2.2 24 6)) C fl_RX10_130 24 g_24 rfl dX10_isItem_61 ?_
        refine v_imul C dX10_isItem_64 ?_
        refine v_iconst (v := (1 : Int32)) C (by decide) dX10_isItem_65 ?_
        refine v_iadd C dX10_isItem_66 ?_
        refine v_aload_n C 1 rfl dX10_isItem_67 ?_
        refine v_get (v := .int (r2.2 24 4)) C fl_RX10_121 24 g_24 rfl dX10_isItem_68 ?_
        refine v_iast (ws' := Wd G E σ (s2 (s2 r2.2 28 ((3 : Int32) * (r2.2 24 6)).toNatClampNeg (0 : Int32)) 28 (((3 : Int32) * (r2.2 24 6)) + (1 : Int32)).toNatClampNeg (r2.2 24 4)) Y) C 28 g_28 (it_b1 hs.2 h18) (p_28 _ _) dX10_isItem_71 ?_
        refine v_aload_n C 1 rfl dX10_isItem_72 ?_
        refine v_get (v := .ref (E.1 28)) C fl_RX10_23 24 g_24 rfl dX10_isItem_73 ?_
        refine v_iconst (v := (3 : Int32)) C (by decide) dX10_isItem_76 ?_
        refine v_aload_n C 1 rfl dX10_isItem_77 ?_
        refine v_get (v := .int (r2.2 24 6)) C fl_RX10_130 24 g_24 rfl dX10_isItem_78 ?_
        refine v_imul C dX10_isItem_81 ?_
        refine v_iconst (v := (2 : Int32)) C (by decide) dX10_isItem_82 ?_
        refine v_iadd C dX10_isItem_83 ?_
        refine v_iconst (v := (0 : Int32)) C (by decide) dX10_isItem_84 ?_
        refine v_iast (ws' := Wd G E σ (s2 (s2 (s2 r2.2 28 ((3 : Int32) * (r2.2 24 6)).toNatClampNeg (0 : Int32)) 28 (((3 : Int32) * (r2.2 24 6)) + (1 : Int32)).toNatClampNeg (r2.2 24 4)) 28 (((3 : Int32) * (r2.2 24 6)) + (2 : Int32)).toNatClampNeg (0 : Int32)) Y) C 28 g_28 (it_b2 hs.2 h18) (p_28 _ _) dX10_isItem_85 ?_
        refine v_aload_n C 1 rfl dX10_isItem_86 ?_
        refine v_bipush (v := (64 : Int32)) C (by decide) dX10_isItem_87 ?_
        refine v_cV1 (rest := []) C mv_RX10_124 (m_X10_skips l G E σ (s2 (s2 (s2 r2.2 28 ((3 : Int32) * (r2.2 24 6)).toNatClampNeg (0 : Int32)) 28 (((3 : Int32) * (r2.2 24 6)) + (1 : Int32)).toNatClampNeg (r2.2 24 4)) 28 (((3 : Int32) * (r2.2 24 6)) + (2 : Int32)).toNatClampNeg (0 : Int32)) Y (64 : Int32) hs.1) 24 g_24 rfl rfl rfl rfl (Nat.le_of_ble_eq_true rfl) ⟨Nat.le_of_ble_eq_true rfl, Nat.le_of_ble_eq_true rfl⟩ ⟨rfl, rfl⟩ ⟨Nat.zero_le _, Nat.zero_le _⟩ dX10_isItem_89 ?_
        generalize hr3 : F_X10_skips (s2 (s2 (s2 r2.2 28 ((3 : Int32) * (r2.2 24 6)).toNatClampNeg (0 : Int32)) 28 (((3 : Int32) * (r2.2 24 6)) + (1 : Int32)).toNatClampNeg (r2.2 24 4)) 28 (((3 : Int32) * (r2.2 24 6)) + (2 : Int32)).toNatClampNeg (0 : Int32)) (64 : Int32) = r3
        have hs : IOK r3.2 i := IOK.sk' (i := i) hr3 hs (by decide)
        refine v_if_eq (tgt := 122) C (by decide) dX10_isItem_92 (fun h4 => ?_) (fun h4 => ?_)
        · refine v_aload_n C 1 rfl dX10_isItem_122 ?_
          refine v_dup C rfl dX10_isItem_123 ?_
          refine v_get (v := .int (r3.2 24 6)) C fl_RX10_130 24 g_24 rfl dX10_isItem_124 ?_
          refine v_iconst (v := (1 : Int32)) C (by decide) dX10_isItem_127 ?_
          refine v_iadd C dX10_isItem_128 ?_
          refine v_put C fp_RX10_130 24 g_24 rfl rfl (Nat.le_of_ble_eq_true rfl) (p_24_10 _) dX10_isItem_129 ?_
          refine v_iconst (v := (1 : Int32)) C (by decide) dX10_isItem_132 ?_
          have e1 : F_X10_isItem μ = ((1 : Int32), (s2 r3.2 24 6 ((r3.2 24 6) + (1 : Int32)))) := by rw [F_X10_isItem]; simp only [if_neg h1, hr1, if_neg h2, hr2, if_neg h3, hr3, if_pos h4]
          exact v_Q hQ (v_zret C rfl () trivial (by rw [e1]) (by rw [e1]) (Nat.zero_le _) (Nat.zero_le _) dX10_isItem_133)
        · refine v_aload_n C 1 rfl dX10_isItem_95 ?_
          refine v_iconst (v := (4 : Int32)) C (by decide) dX10_isItem_96 ?_
          refine v_cV1 (rest := []) C mv_RX10_127 (m_X10_digits l G E σ r3.2 Y (4 : Int32) hs.1 (⟨4, by omega, rfl⟩)) 24 g_24 rfl rfl rfl rfl (Nat.le_of_ble_eq_true rfl) ⟨Nat.le_of_ble_eq_true rfl, Nat.le_of_ble_eq_true rfl⟩ ⟨rfl, rfl⟩ ⟨Nat.zero_le _, Nat.zero_le _⟩ dX10_isItem_97 ?_
          generalize hr4 : F_X10_digits r3.2 (4 : Int32) = r4
          have hs : IOK r4.2 i := IOK.dg' hr4 hs
          refine v_if_ne (tgt := 105) C (by decide) dX10_isItem_100 (fun h5 => ?_) (fun h5 => ?_)
          · refine v_aload_n C 1 rfl dX10_isItem_105 ?_
            refine v_get (v := .ref (E.1 28)) C fl_RX10_23 24 g_24 rfl dX10_isItem_106 ?_
            refine v_iconst (v := (3 : Int32)) C (by decide) dX10_isItem_109 ?_
            refine v_aload_n C 1 rfl dX10_isItem_110 ?_
            refine v_get (v := .int (r4.2 24 6)) C fl_RX10_130 24 g_24 rfl dX10_isItem_111 ?_
            refine v_imul C dX10_isItem_114 ?_
            refine v_iconst (v := (2 : Int32)) C (by decide) dX10_isItem_115 ?_
            refine v_iadd C dX10_isItem_116 ?_
            refine v_aload_n C 1 rfl dX10_isItem_117 ?_
            refine v_get (v := .int (r4.2 24 4)) C fl_RX10_121 24 g_24 rfl dX10_isItem_118 ?_
            refine v_iast (ws' := Wd G E σ (s2 r4.2 28 (((3 : Int32) * (r4.2 24 6)) + (2 : Int32)).toNatClampNeg (r4.2 24 4)) Y) C 28 g_28 (it_b2 hs.2 h18) (p_28 _ _) dX10_isItem_121 ?_
            refine v_aload_n C 1 rfl dX10_isItem_122 ?_
            refine v_dup C rfl dX10_isItem_123 ?_
            refine v_get (v := .int (r4.2 24 6)) C fl_RX10_130 24 g_24 rfl dX10_isItem_124 ?_
            refine v_iconst (v := (1 : Int32)) C (by decide) dX10_isItem_127 ?_
            refine v_iadd C dX10_isItem_128 ?_
            refine v_put C fp_RX10_130 24 g_24 rfl rfl (Nat.le_of_ble_eq_true rfl) (p_24_10 _) dX10_isItem_129 ?_
            refine v_iconst (v := (1 : Int32)) C (by decide) dX10_isItem_132 ?_
            have e1 : F_X10_isItem μ = ((1 : Int32), (s2 (s2 r4.2 28 (((3 : Int32) * (r4.2 24 6)) + (2 : Int32)).toNatClampNeg (r4.2 24 4)) 24 6 ((r4.2 24 6) + (1 : Int32)))) := by rw [F_X10_isItem]; simp only [if_neg h1, hr1, if_neg h2, hr2, if_neg h3, hr3, if_neg h4, hr4, if_neg h5]
            exact v_Q hQ (v_zret C rfl () trivial (by rw [e1]) (by rw [e1]) (Nat.zero_le _) (Nat.zero_le _) dX10_isItem_133)
          · refine v_iconst (v := (0 : Int32)) C (by decide) dX10_isItem_103 ?_
            have e1 : F_X10_isItem μ = ((0 : Int32), r4.2) := by rw [F_X10_isItem]; simp only [if_neg h1, hr1, if_neg h2, hr2, if_neg h3, hr3, if_neg h4, hr4, if_pos h5]
            exact v_Q hQ (v_zret C rfl () trivial (by rw [e1]) (by rw [e1]) (Nat.zero_le _) (Nat.zero_le _) dX10_isItem_104)
      · refine v_iconst (v := (0 : Int32)) C (by decide) dX10_isItem_41 ?_
        have e1 : F_X10_isItem μ = ((0 : Int32), r2.2) := by rw [F_X10_isItem]; simp only [if_neg h1, hr1, if_neg h2, hr2, if_pos h3]
        exact v_Q hQ (v_zret C rfl () trivial (by rw [e1]) (by rw [e1]) (Nat.zero_le _) (Nat.zero_le _) dX10_isItem_42)
    · refine v_aload_n C 1 rfl dX10_isItem_24 ?_
      refine v_bipush (v := (119 : Int32)) C (by decide) dX10_isItem_25 ?_
      refine v_cV1 (rest := []) C mv_RX10_124 (m_X10_skips l G E σ r1.2 Y (119 : Int32) hs.1) 24 g_24 rfl rfl rfl rfl (Nat.le_of_ble_eq_true rfl) ⟨Nat.le_of_ble_eq_true rfl, Nat.le_of_ble_eq_true rfl⟩ ⟨rfl, rfl⟩ ⟨Nat.zero_le _, Nat.zero_le _⟩ dX10_isItem_27 ?_
      generalize hr5 : F_X10_skips r1.2 (119 : Int32) = r5
      have hs : IOK r5.2 i := IOK.sk' hr5 hs (by decide)
      refine v_if_eq (tgt := 41) C (by decide) dX10_isItem_30 (fun h6 => ?_) (fun h6 => ?_)
      · refine v_iconst (v := (0 : Int32)) C (by decide) dX10_isItem_41 ?_
        have e1 : F_X10_isItem μ = ((0 : Int32), r5.2) := by rw [F_X10_isItem]; simp only [if_neg h1, hr1, if_pos h2, hr5, if_pos h6]
        exact v_Q hQ (v_zret C rfl () trivial (by rw [e1]) (by rw [e1]) (Nat.zero_le _) (Nat.zero_le _) dX10_isItem_42)
      · refine v_aload_n C 1 rfl dX10_isItem_33 ?_
        refine v_iconst (v := (3 : Int32)) C (by decide) dX10_isItem_34 ?_
        refine v_cV1 (rest := []) C mv_RX10_127 (m_X10_digits l G E σ r5.2 Y (3 : Int32) hs.1 (⟨3, by omega, rfl⟩)) 24 g_24 rfl rfl rfl rfl (Nat.le_of_ble_eq_true rfl) ⟨Nat.le_of_ble_eq_true rfl, Nat.le_of_ble_eq_true rfl⟩ ⟨rfl, rfl⟩ ⟨Nat.zero_le _, Nat.zero_le _⟩ dX10_isItem_35 ?_
        generalize hr6 : F_X10_digits r5.2 (3 : Int32) = r6
        have hs : IOK r6.2 i := IOK.dg' hr6 hs
        refine v_if_ne (tgt := 43) C (by decide) dX10_isItem_38 (fun h7 => ?_) (fun h7 => ?_)
        · refine v_aload_n C 1 rfl dX10_isItem_43 ?_
          refine v_get (v := .ref (E.1 28)) C fl_RX10_23 24 g_24 rfl dX10_isItem_44 ?_
          refine v_iconst (v := (3 : Int32)) C (by decide) dX10_isItem_47 ?_
          refine v_aload_n C 1 rfl dX10_isItem_48 ?_
          refine v_get (v := .int (r6.2 24 6)) C fl_RX10_130 24 g_24 rfl dX10_isItem_49 ?_
          refine v_imul C dX10_isItem_52 ?_
          refine v_iload_n C 0 rfl dX10_isItem_53 ?_
          refine v_iast (ws' := Wd G E σ (s2 r6.2 28 ((3 : Int32) * (r6.2 24 6)).toNatClampNeg (0 : Int32)) Y) C 28 g_28 (it_b0 hs.2 h18) (p_28 _ _) dX10_isItem_54 ?_
          refine v_aload_n C 1 rfl dX10_isItem_55 ?_
          refine v_get (v := .ref (E.1 28)) C fl_RX10_23 24 g_24 rfl dX10_isItem_56 ?_
          refine v_iconst (v := (3 : Int32)) C (by decide) dX10_isItem_59 ?_
          refine v_aload_n C 1 rfl dX10_isItem_60 ?_
          refine v_get (v := .int (r6.2 24 6)) C fl_RX10_130 24 g_24 rfl dX10_isItem_61 ?_
          refine v_imul C dX10_isItem_64 ?_
          refine v_iconst (v := (1 : Int32)) C (by decide) dX10_isItem_65 ?_
          refine v_iadd C dX10_isItem_66 ?_
          refine v_aload_n C 1 rfl dX10_isItem_67 ?_
          refine v_get (v := .int (r6.2 24 4)) C fl_RX10_121 24 g_24 rfl dX10_isItem_68 ?_
          refine v_iast (ws' := Wd G E σ (s2 (s2 r6.2 28 ((3 : Int32) * (r6.2 24 6)).toNatClampNeg (0 : Int32)) 28 (((3 : Int32) * (r6.2 24 6)) + (1 : Int32)).toNatClampNeg (r6.2 24 4)) Y) C 28 g_28 (it_b1 hs.2 h18) (p_28 _ _) dX10_isItem_71 ?_
          refine v_aload_n C 1 rfl dX10_isItem_72 ?_
          refine v_get (v := .ref (E.1 28)) C fl_RX10_23 24 g_24 rfl dX10_isItem_73 ?_
          refine v_iconst (v := (3 : Int32)) C (by decide) dX10_isItem_76 ?_
          refine v_aload_n C 1 rfl dX10_isItem_77 ?_
          refine v_get (v := .int (r6.2 24 6)) C fl_RX10_130 24 g_24 rfl dX10_isItem_78 ?_
          refine v_imul C dX10_isItem_81 ?_
          refine v_iconst (v := (2 : Int32)) C (by decide) dX10_isItem_82 ?_
          refine v_iadd C dX10_isItem_83 ?_
          refine v_iconst (v := (0 : Int32)) C (by decide) dX10_isItem_84 ?_
          refine v_iast (ws' := Wd G E σ (s2 (s2 (s2 r6.2 28 ((3 : Int32) * (r6.2 24 6)).toNatClampNeg (0 : Int32)) 28 (((3 : Int32) * (r6.2 24 6)) + (1 : Int32)).toNatClampNeg (r6.2 24 4)) 28 (((3 : Int32) * (r6.2 24 6)) + (2 : Int32)).toNatClampNeg (0 : Int32)) Y) C 28 g_28 (it_b2 hs.2 h18) (p_28 _ _) dX10_isItem_85 ?_
          refine v_aload_n C 1 rfl dX10_isItem_86 ?_
          refine v_bipush (v := (64 : Int32)) C (by decide) dX10_isItem_87 ?_
          refine v_cV1 (rest := []) C mv_RX10_124 (m_X10_skips l G E σ (s2 (s2 (s2 r6.2 28 ((3 : Int32) * (r6.2 24 6)).toNatClampNeg (0 : Int32)) 28 (((3 : Int32) * (r6.2 24 6)) + (1 : Int32)).toNatClampNeg (r6.2 24 4)) 28 (((3 : Int32) * (r6.2 24 6)) + (2 : Int32)).toNatClampNeg (0 : Int32)) Y (64 : Int32) hs.1) 24 g_24 rfl rfl rfl rfl (Nat.le_of_ble_eq_true rfl) ⟨Nat.le_of_ble_eq_true rfl, Nat.le_of_ble_eq_true rfl⟩ ⟨rfl, rfl⟩ ⟨Nat.zero_le _, Nat.zero_le _⟩ dX10_isItem_89 ?_
          generalize hr7 : F_X10_skips (s2 (s2 (s2 r6.2 28 ((3 : Int32) * (r6.2 24 6)).toNatClampNeg (0 : Int32)) 28 (((3 : Int32) * (r6.2 24 6)) + (1 : Int32)).toNatClampNeg (r6.2 24 4)) 28 (((3 : Int32) * (r6.2 24 6)) + (2 : Int32)).toNatClampNeg (0 : Int32)) (64 : Int32) = r7
          have hs : IOK r7.2 i := IOK.sk' (i := i) hr7 hs (by decide)
          refine v_if_eq (tgt := 122) C (by decide) dX10_isItem_92 (fun h8 => ?_) (fun h8 => ?_)
          · refine v_aload_n C 1 rfl dX10_isItem_122 ?_
            refine v_dup C rfl dX10_isItem_123 ?_
            refine v_get (v := .int (r7.2 24 6)) C fl_RX10_130 24 g_24 rfl dX10_isItem_124 ?_
            refine v_iconst (v := (1 : Int32)) C (by decide) dX10_isItem_127 ?_
            refine v_iadd C dX10_isItem_128 ?_
            refine v_put C fp_RX10_130 24 g_24 rfl rfl (Nat.le_of_ble_eq_true rfl) (p_24_10 _) dX10_isItem_129 ?_
            refine v_iconst (v := (1 : Int32)) C (by decide) dX10_isItem_132 ?_
            have e1 : F_X10_isItem μ = ((1 : Int32), (s2 r7.2 24 6 ((r7.2 24 6) + (1 : Int32)))) := by rw [F_X10_isItem]; simp only [if_neg h1, hr1, if_pos h2, hr5, if_neg h6, hr6, if_neg h7, hr7, if_pos h8]
            exact v_Q hQ (v_zret C rfl () trivial (by rw [e1]) (by rw [e1]) (Nat.zero_le _) (Nat.zero_le _) dX10_isItem_133)
          · refine v_aload_n C 1 rfl dX10_isItem_95 ?_
            refine v_iconst (v := (4 : Int32)) C (by decide) dX10_isItem_96 ?_
            refine v_cV1 (rest := []) C mv_RX10_127 (m_X10_digits l G E σ r7.2 Y (4 : Int32) hs.1 (⟨4, by omega, rfl⟩)) 24 g_24 rfl rfl rfl rfl (Nat.le_of_ble_eq_true rfl) ⟨Nat.le_of_ble_eq_true rfl, Nat.le_of_ble_eq_true rfl⟩ ⟨rfl, rfl⟩ ⟨Nat.zero_le _, Nat.zero_le _⟩ dX10_isItem_97 ?_
            generalize hr8 : F_X10_digits r7.2 (4 : Int32) = r8
            have hs : IOK r8.2 i := IOK.dg' hr8 hs
            refine v_if_ne (tgt := 105) C (by decide) dX10_isItem_100 (fun h9 => ?_) (fun h9 => ?_)
            · refine v_aload_n C 1 rfl dX10_isItem_105 ?_
              refine v_get (v := .ref (E.1 28)) C fl_RX10_23 24 g_24 rfl dX10_isItem_106 ?_
              refine v_iconst (v := (3 : Int32)) C (by decide) dX10_isItem_109 ?_
              refine v_aload_n C 1 rfl dX10_isItem_110 ?_
              refine v_get (v := .int (r8.2 24 6)) C fl_RX10_130 24 g_24 rfl dX10_isItem_111 ?_
              refine v_imul C dX10_isItem_114 ?_
              refine v_iconst (v := (2 : Int32)) C (by decide) dX10_isItem_115 ?_
              refine v_iadd C dX10_isItem_116 ?_
              refine v_aload_n C 1 rfl dX10_isItem_117 ?_
              refine v_get (v := .int (r8.2 24 4)) C fl_RX10_121 24 g_24 rfl dX10_isItem_118 ?_
              refine v_iast (ws' := Wd G E σ (s2 r8.2 28 (((3 : Int32) * (r8.2 24 6)) + (2 : Int32)).toNatClampNeg (r8.2 24 4)) Y) C 28 g_28 (it_b2 hs.2 h18) (p_28 _ _) dX10_isItem_121 ?_
              refine v_aload_n C 1 rfl dX10_isItem_122 ?_
              refine v_dup C rfl dX10_isItem_123 ?_
              refine v_get (v := .int (r8.2 24 6)) C fl_RX10_130 24 g_24 rfl dX10_isItem_124 ?_
              refine v_iconst (v := (1 : Int32)) C (by decide) dX10_isItem_127 ?_
              refine v_iadd C dX10_isItem_128 ?_
              refine v_put C fp_RX10_130 24 g_24 rfl rfl (Nat.le_of_ble_eq_true rfl) (p_24_10 _) dX10_isItem_129 ?_
              refine v_iconst (v := (1 : Int32)) C (by decide) dX10_isItem_132 ?_
              have e1 : F_X10_isItem μ = ((1 : Int32), (s2 (s2 r8.2 28 (((3 : Int32) * (r8.2 24 6)) + (2 : Int32)).toNatClampNeg (r8.2 24 4)) 24 6 ((r8.2 24 6) + (1 : Int32)))) := by rw [F_X10_isItem]; simp only [if_neg h1, hr1, if_pos h2, hr5, if_neg h6, hr6, if_neg h7, hr7, if_neg h8, hr8, if_neg h9]
              exact v_Q hQ (v_zret C rfl () trivial (by rw [e1]) (by rw [e1]) (Nat.zero_le _) (Nat.zero_le _) dX10_isItem_133)
            · refine v_iconst (v := (0 : Int32)) C (by decide) dX10_isItem_103 ?_
              have e1 : F_X10_isItem μ = ((0 : Int32), r8.2) := by rw [F_X10_isItem]; simp only [if_neg h1, hr1, if_pos h2, hr5, if_neg h6, hr6, if_neg h7, hr7, if_neg h8, hr8, if_pos h9]
              exact v_Q hQ (v_zret C rfl () trivial (by rw [e1]) (by rw [e1]) (Nat.zero_le _) (Nat.zero_le _) dX10_isItem_104)
        · refine v_iconst (v := (0 : Int32)) C (by decide) dX10_isItem_41 ?_
          have e1 : F_X10_isItem μ = ((0 : Int32), r6.2) := by rw [F_X10_isItem]; simp only [if_neg h1, hr1, if_pos h2, hr5, if_neg h6, hr6, if_pos h7]
          exact v_Q hQ (v_zret C rfl () trivial (by rw [e1]) (by rw [e1]) (Nat.zero_le _) (Nat.zero_le _) dX10_isItem_42)
  · refine v_iconst (v := (1 : Int32)) C (by decide) dX10_isItem_9 ?_
    refine v_goto (tgt := 14) C (by decide) dX10_isItem_10 ?_
    refine v_istore_n (lv' := [(1, .int (1 : Int32)), (0, .ref (E.1 24))]) C (Nat.le_of_ble_eq_true rfl) rfl dX10_isItem_14 ?_
    refine v_aload_n C 1 rfl dX10_isItem_15 ?_
    refine v_bipush (v := (114 : Int32)) C (by decide) dX10_isItem_16 ?_
    refine v_cV1 (rest := []) C mv_RX10_124 (m_X10_skips l G E σ μ Y (114 : Int32) hs.1) 24 g_24 rfl rfl rfl rfl (Nat.le_of_ble_eq_true rfl) ⟨Nat.le_of_ble_eq_true rfl, Nat.le_of_ble_eq_true rfl⟩ ⟨rfl, rfl⟩ ⟨Nat.zero_le _, Nat.zero_le _⟩ dX10_isItem_18 ?_
    generalize hr9 : F_X10_skips μ (114 : Int32) = r9
    have hs : IOK r9.2 i := IOK.sk' hr9 hs (by decide)
    refine v_if_ne (tgt := 33) C (by decide) dX10_isItem_21 (fun h10 => ?_) (fun h10 => ?_)
    · refine v_aload_n C 1 rfl dX10_isItem_33 ?_
      refine v_iconst (v := (3 : Int32)) C (by decide) dX10_isItem_34 ?_
      refine v_cV1 (rest := []) C mv_RX10_127 (m_X10_digits l G E σ r9.2 Y (3 : Int32) hs.1 (⟨3, by omega, rfl⟩)) 24 g_24 rfl rfl rfl rfl (Nat.le_of_ble_eq_true rfl) ⟨Nat.le_of_ble_eq_true rfl, Nat.le_of_ble_eq_true rfl⟩ ⟨rfl, rfl⟩ ⟨Nat.zero_le _, Nat.zero_le _⟩ dX10_isItem_35 ?_
      generalize hr10 : F_X10_digits r9.2 (3 : Int32) = r10
      have hs : IOK r10.2 i := IOK.dg' hr10 hs
      refine v_if_ne (tgt := 43) C (by decide) dX10_isItem_38 (fun h11 => ?_) (fun h11 => ?_)
      · refine v_aload_n C 1 rfl dX10_isItem_43 ?_
        refine v_get (v := .ref (E.1 28)) C fl_RX10_23 24 g_24 rfl dX10_isItem_44 ?_
        refine v_iconst (v := (3 : Int32)) C (by decide) dX10_isItem_47 ?_
        refine v_aload_n C 1 rfl dX10_isItem_48 ?_
        refine v_get (v := .int (r10.2 24 6)) C fl_RX10_130 24 g_24 rfl dX10_isItem_49 ?_
        refine v_imul C dX10_isItem_52 ?_
        refine v_iload_n C 0 rfl dX10_isItem_53 ?_
        refine v_iast (ws' := Wd G E σ (s2 r10.2 28 ((3 : Int32) * (r10.2 24 6)).toNatClampNeg (1 : Int32)) Y) C 28 g_28 (it_b0 hs.2 h18) (p_28 _ _) dX10_isItem_54 ?_
        refine v_aload_n C 1 rfl dX10_isItem_55 ?_
        refine v_get (v := .ref (E.1 28)) C fl_RX10_23 24 g_24 rfl dX10_isItem_56 ?_
        refine v_iconst (v := (3 : Int32)) C (by decide) dX10_isItem_59 ?_
        refine v_aload_n C 1 rfl dX10_isItem_60 ?_
        refine v_get (v := .int (r10.2 24 6)) C fl_RX10_130 24 g_24 rfl dX10_isItem_61 ?_
        refine v_imul C dX10_isItem_64 ?_
        refine v_iconst (v := (1 : Int32)) C (by decide) dX10_isItem_65 ?_
        refine v_iadd C dX10_isItem_66 ?_
        refine v_aload_n C 1 rfl dX10_isItem_67 ?_
        refine v_get (v := .int (r10.2 24 4)) C fl_RX10_121 24 g_24 rfl dX10_isItem_68 ?_
        refine v_iast (ws' := Wd G E σ (s2 (s2 r10.2 28 ((3 : Int32) * (r10.2 24 6)).toNatClampNeg (1 : Int32)) 28 (((3 : Int32) * (r10.2 24 6)) + (1 : Int32)).toNatClampNeg (r10.2 24 4)) Y) C 28 g_28 (it_b1 hs.2 h18) (p_28 _ _) dX10_isItem_71 ?_
        refine v_aload_n C 1 rfl dX10_isItem_72 ?_
        refine v_get (v := .ref (E.1 28)) C fl_RX10_23 24 g_24 rfl dX10_isItem_73 ?_
        refine v_iconst (v := (3 : Int32)) C (by decide) dX10_isItem_76 ?_
        refine v_aload_n C 1 rfl dX10_isItem_77 ?_
        refine v_get (v := .int (r10.2 24 6)) C fl_RX10_130 24 g_24 rfl dX10_isItem_78 ?_
        refine v_imul C dX10_isItem_81 ?_
        refine v_iconst (v := (2 : Int32)) C (by decide) dX10_isItem_82 ?_
        refine v_iadd C dX10_isItem_83 ?_
        refine v_iconst (v := (0 : Int32)) C (by decide) dX10_isItem_84 ?_
        refine v_iast (ws' := Wd G E σ (s2 (s2 (s2 r10.2 28 ((3 : Int32) * (r10.2 24 6)).toNatClampNeg (1 : Int32)) 28 (((3 : Int32) * (r10.2 24 6)) + (1 : Int32)).toNatClampNeg (r10.2 24 4)) 28 (((3 : Int32) * (r10.2 24 6)) + (2 : Int32)).toNatClampNeg (0 : Int32)) Y) C 28 g_28 (it_b2 hs.2 h18) (p_28 _ _) dX10_isItem_85 ?_
        refine v_aload_n C 1 rfl dX10_isItem_86 ?_
        refine v_bipush (v := (64 : Int32)) C (by decide) dX10_isItem_87 ?_
        refine v_cV1 (rest := []) C mv_RX10_124 (m_X10_skips l G E σ (s2 (s2 (s2 r10.2 28 ((3 : Int32) * (r10.2 24 6)).toNatClampNeg (1 : Int32)) 28 (((3 : Int32) * (r10.2 24 6)) + (1 : Int32)).toNatClampNeg (r10.2 24 4)) 28 (((3 : Int32) * (r10.2 24 6)) + (2 : Int32)).toNatClampNeg (0 : Int32)) Y (64 : Int32) hs.1) 24 g_24 rfl rfl rfl rfl (Nat.le_of_ble_eq_true rfl) ⟨Nat.le_of_ble_eq_true rfl, Nat.le_of_ble_eq_true rfl⟩ ⟨rfl, rfl⟩ ⟨Nat.zero_le _, Nat.zero_le _⟩ dX10_isItem_89 ?_
        generalize hr11 : F_X10_skips (s2 (s2 (s2 r10.2 28 ((3 : Int32) * (r10.2 24 6)).toNatClampNeg (1 : Int32)) 28 (((3 : Int32) * (r10.2 24 6)) + (1 : Int32)).toNatClampNeg (r10.2 24 4)) 28 (((3 : Int32) * (r10.2 24 6)) + (2 : Int32)).toNatClampNeg (0 : Int32)) (64 : Int32) = r11
        have hs : IOK r11.2 i := IOK.sk' (i := i) hr11 hs (by decide)
        refine v_if_eq (tgt := 122) C (by decide) dX10_isItem_92 (fun h12 => ?_) (fun h12 => ?_)
        · refine v_aload_n C 1 rfl dX10_isItem_122 ?_
          refine v_dup C rfl dX10_isItem_123 ?_
          refine v_get (v := .int (r11.2 24 6)) C fl_RX10_130 24 g_24 rfl dX10_isItem_124 ?_
          refine v_iconst (v := (1 : Int32)) C (by decide) dX10_isItem_127 ?_
          refine v_iadd C dX10_isItem_128 ?_
          refine v_put C fp_RX10_130 24 g_24 rfl rfl (Nat.le_of_ble_eq_true rfl) (p_24_10 _) dX10_isItem_129 ?_
          refine v_iconst (v := (1 : Int32)) C (by decide) dX10_isItem_132 ?_
          have e1 : F_X10_isItem μ = ((1 : Int32), (s2 r11.2 24 6 ((r11.2 24 6) + (1 : Int32)))) := by rw [F_X10_isItem]; simp only [if_pos h1, hr9, if_neg h10, hr10, if_neg h11, hr11, if_pos h12]
          exact v_Q hQ (v_zret C rfl () trivial (by rw [e1]) (by rw [e1]) (Nat.zero_le _) (Nat.zero_le _) dX10_isItem_133)
        · refine v_aload_n C 1 rfl dX10_isItem_95 ?_
          refine v_iconst (v := (4 : Int32)) C (by decide) dX10_isItem_96 ?_
          refine v_cV1 (rest := []) C mv_RX10_127 (m_X10_digits l G E σ r11.2 Y (4 : Int32) hs.1 (⟨4, by omega, rfl⟩)) 24 g_24 rfl rfl rfl rfl (Nat.le_of_ble_eq_true rfl) ⟨Nat.le_of_ble_eq_true rfl, Nat.le_of_ble_eq_true rfl⟩ ⟨rfl, rfl⟩ ⟨Nat.zero_le _, Nat.zero_le _⟩ dX10_isItem_97 ?_
          generalize hr12 : F_X10_digits r11.2 (4 : Int32) = r12
          have hs : IOK r12.2 i := IOK.dg' hr12 hs
          refine v_if_ne (tgt := 105) C (by decide) dX10_isItem_100 (fun h13 => ?_) (fun h13 => ?_)
          · refine v_aload_n C 1 rfl dX10_isItem_105 ?_
            refine v_get (v := .ref (E.1 28)) C fl_RX10_23 24 g_24 rfl dX10_isItem_106 ?_
            refine v_iconst (v := (3 : Int32)) C (by decide) dX10_isItem_109 ?_
            refine v_aload_n C 1 rfl dX10_isItem_110 ?_
            refine v_get (v := .int (r12.2 24 6)) C fl_RX10_130 24 g_24 rfl dX10_isItem_111 ?_
            refine v_imul C dX10_isItem_114 ?_
            refine v_iconst (v := (2 : Int32)) C (by decide) dX10_isItem_115 ?_
            refine v_iadd C dX10_isItem_116 ?_
            refine v_aload_n C 1 rfl dX10_isItem_117 ?_
            refine v_get (v := .int (r12.2 24 4)) C fl_RX10_121 24 g_24 rfl dX10_isItem_118 ?_
            refine v_iast (ws' := Wd G E σ (s2 r12.2 28 (((3 : Int32) * (r12.2 24 6)) + (2 : Int32)).toNatClampNeg (r12.2 24 4)) Y) C 28 g_28 (it_b2 hs.2 h18) (p_28 _ _) dX10_isItem_121 ?_
            refine v_aload_n C 1 rfl dX10_isItem_122 ?_
            refine v_dup C rfl dX10_isItem_123 ?_
            refine v_get (v := .int (r12.2 24 6)) C fl_RX10_130 24 g_24 rfl dX10_isItem_124 ?_
            refine v_iconst (v := (1 : Int32)) C (by decide) dX10_isItem_127 ?_
            refine v_iadd C dX10_isItem_128 ?_
            refine v_put C fp_RX10_130 24 g_24 rfl rfl (Nat.le_of_ble_eq_true rfl) (p_24_10 _) dX10_isItem_129 ?_
            refine v_iconst (v := (1 : Int32)) C (by decide) dX10_isItem_132 ?_
            have e1 : F_X10_isItem μ = ((1 : Int32), (s2 (s2 r12.2 28 (((3 : Int32) * (r12.2 24 6)) + (2 : Int32)).toNatClampNeg (r12.2 24 4)) 24 6 ((r12.2 24 6) + (1 : Int32)))) := by rw [F_X10_isItem]; simp only [if_pos h1, hr9, if_neg h10, hr10, if_neg h11, hr11, if_neg h12, hr12, if_neg h13]
            exact v_Q hQ (v_zret C rfl () trivial (by rw [e1]) (by rw [e1]) (Nat.zero_le _) (Nat.zero_le _) dX10_isItem_133)
          · refine v_iconst (v := (0 : Int32)) C (by decide) dX10_isItem_103 ?_
            have e1 : F_X10_isItem μ = ((0 : Int32), r12.2) := by rw [F_X10_isItem]; simp only [if_pos h1, hr9, if_neg h10, hr10, if_neg h11, hr11, if_neg h12, hr12, if_pos h13]
            exact v_Q hQ (v_zret C rfl () trivial (by rw [e1]) (by rw [e1]) (Nat.zero_le _) (Nat.zero_le _) dX10_isItem_104)
      · refine v_iconst (v := (0 : Int32)) C (by decide) dX10_isItem_41 ?_
        have e1 : F_X10_isItem μ = ((0 : Int32), r10.2) := by rw [F_X10_isItem]; simp only [if_pos h1, hr9, if_neg h10, hr10, if_pos h11]
        exact v_Q hQ (v_zret C rfl () trivial (by rw [e1]) (by rw [e1]) (Nat.zero_le _) (Nat.zero_le _) dX10_isItem_42)
    · refine v_aload_n C 1 rfl dX10_isItem_24 ?_
      refine v_bipush (v := (119 : Int32)) C (by decide) dX10_isItem_25 ?_
      refine v_cV1 (rest := []) C mv_RX10_124 (m_X10_skips l G E σ r9.2 Y (119 : Int32) hs.1) 24 g_24 rfl rfl rfl rfl (Nat.le_of_ble_eq_true rfl) ⟨Nat.le_of_ble_eq_true rfl, Nat.le_of_ble_eq_true rfl⟩ ⟨rfl, rfl⟩ ⟨Nat.zero_le _, Nat.zero_le _⟩ dX10_isItem_27 ?_
      generalize hr13 : F_X10_skips r9.2 (119 : Int32) = r13
      have hs : IOK r13.2 i := IOK.sk' hr13 hs (by decide)
      refine v_if_eq (tgt := 41) C (by decide) dX10_isItem_30 (fun h14 => ?_) (fun h14 => ?_)
      · refine v_iconst (v := (0 : Int32)) C (by decide) dX10_isItem_41 ?_
        have e1 : F_X10_isItem μ = ((0 : Int32), r13.2) := by rw [F_X10_isItem]; simp only [if_pos h1, hr9, if_pos h10, hr13, if_pos h14]
        exact v_Q hQ (v_zret C rfl () trivial (by rw [e1]) (by rw [e1]) (Nat.zero_le _) (Nat.zero_le _) dX10_isItem_42)
      · refine v_aload_n C 1 rfl dX10_isItem_33 ?_
        refine v_iconst (v := (3 : Int32)) C (by decide) dX10_isItem_34 ?_
        refine v_cV1 (rest := []) C mv_RX10_127 (m_X10_digits l G E σ r13.2 Y (3 : Int32) hs.1 (⟨3, by omega, rfl⟩)) 24 g_24 rfl rfl rfl rfl (Nat.le_of_ble_eq_true rfl) ⟨Nat.le_of_ble_eq_true rfl, Nat.le_of_ble_eq_true rfl⟩ ⟨rfl, rfl⟩ ⟨Nat.zero_le _, Nat.zero_le _⟩ dX10_isItem_35 ?_
        generalize hr14 : F_X10_digits r13.2 (3 : Int32) = r14
        have hs : IOK r14.2 i := IOK.dg' hr14 hs
        refine v_if_ne (tgt := 43) C (by decide) dX10_isItem_38 (fun h15 => ?_) (fun h15 => ?_)
        · refine v_aload_n C 1 rfl dX10_isItem_43 ?_
          refine v_get (v := .ref (E.1 28)) C fl_RX10_23 24 g_24 rfl dX10_isItem_44 ?_
          refine v_iconst (v := (3 : Int32)) C (by decide) dX10_isItem_47 ?_
          refine v_aload_n C 1 rfl dX10_isItem_48 ?_
          refine v_get (v := .int (r14.2 24 6)) C fl_RX10_130 24 g_24 rfl dX10_isItem_49 ?_
          refine v_imul C dX10_isItem_52 ?_
          refine v_iload_n C 0 rfl dX10_isItem_53 ?_
          refine v_iast (ws' := Wd G E σ (s2 r14.2 28 ((3 : Int32) * (r14.2 24 6)).toNatClampNeg (1 : Int32)) Y) C 28 g_28 (it_b0 hs.2 h18) (p_28 _ _) dX10_isItem_54 ?_
          refine v_aload_n C 1 rfl dX10_isItem_55 ?_
          refine v_get (v := .ref (E.1 28)) C fl_RX10_23 24 g_24 rfl dX10_isItem_56 ?_
          refine v_iconst (v := (3 : Int32)) C (by decide) dX10_isItem_59 ?_
          refine v_aload_n C 1 rfl dX10_isItem_60 ?_
          refine v_get (v := .int (r14.2 24 6)) C fl_RX10_130 24 g_24 rfl dX10_isItem_61 ?_
          refine v_imul C dX10_isItem_64 ?_
          refine v_iconst (v := (1 : Int32)) C (by decide) dX10_isItem_65 ?_
          refine v_iadd C dX10_isItem_66 ?_
          refine v_aload_n C 1 rfl dX10_isItem_67 ?_
          refine v_get (v := .int (r14.2 24 4)) C fl_RX10_121 24 g_24 rfl dX10_isItem_68 ?_
          refine v_iast (ws' := Wd G E σ (s2 (s2 r14.2 28 ((3 : Int32) * (r14.2 24 6)).toNatClampNeg (1 : Int32)) 28 (((3 : Int32) * (r14.2 24 6)) + (1 : Int32)).toNatClampNeg (r14.2 24 4)) Y) C 28 g_28 (it_b1 hs.2 h18) (p_28 _ _) dX10_isItem_71 ?_
          refine v_aload_n C 1 rfl dX10_isItem_72 ?_
          refine v_get (v := .ref (E.1 28)) C fl_RX10_23 24 g_24 rfl dX10_isItem_73 ?_
          refine v_iconst (v := (3 : Int32)) C (by decide) dX10_isItem_76 ?_
          refine v_aload_n C 1 rfl dX10_isItem_77 ?_
          refine v_get (v := .int (r14.2 24 6)) C fl_RX10_130 24 g_24 rfl dX10_isItem_78 ?_
          refine v_imul C dX10_isItem_81 ?_
          refine v_iconst (v := (2 : Int32)) C (by decide) dX10_isItem_82 ?_
          refine v_iadd C dX10_isItem_83 ?_
          refine v_iconst (v := (0 : Int32)) C (by decide) dX10_isItem_84 ?_
          refine v_iast (ws' := Wd G E σ (s2 (s2 (s2 r14.2 28 ((3 : Int32) * (r14.2 24 6)).toNatClampNeg (1 : Int32)) 28 (((3 : Int32) * (r14.2 24 6)) + (1 : Int32)).toNatClampNeg (r14.2 24 4)) 28 (((3 : Int32) * (r14.2 24 6)) + (2 : Int32)).toNatClampNeg (0 : Int32)) Y) C 28 g_28 (it_b2 hs.2 h18) (p_28 _ _) dX10_isItem_85 ?_
          refine v_aload_n C 1 rfl dX10_isItem_86 ?_
          refine v_bipush (v := (64 : Int32)) C (by decide) dX10_isItem_87 ?_
          refine v_cV1 (rest := []) C mv_RX10_124 (m_X10_skips l G E σ (s2 (s2 (s2 r14.2 28 ((3 : Int32) * (r14.2 24 6)).toNatClampNeg (1 : Int32)) 28 (((3 : Int32) * (r14.2 24 6)) + (1 : Int32)).toNatClampNeg (r14.2 24 4)) 28 (((3 : Int32) * (r14.2 24 6)) + (2 : Int32)).toNatClampNeg (0 : Int32)) Y (64 : Int32) hs.1) 24 g_24 rfl rfl rfl rfl (Nat.le_of_ble_eq_true rfl) ⟨Nat.le_of_ble_eq_true rfl, Nat.le_of_ble_eq_true rfl⟩ ⟨rfl, rfl⟩ ⟨Nat.zero_le _, Nat.zero_le _⟩ dX10_isItem_89 ?_
          generalize hr15 : F_X10_skips (s2 (s2 (s2 r14.2 28 ((3 : Int32) * (r14.2 24 6)).toNatClampNeg (1 : Int32)) 28 (((3 : Int32) * (r14.2 24 6)) + (1 : Int32)).toNatClampNeg (r14.2 24 4)) 28 (((3 : Int32) * (r14.2 24 6)) + (2 : Int32)).toNatClampNeg (0 : Int32)) (64 : Int32) = r15
          have hs : IOK r15.2 i := IOK.sk' (i := i) hr15 hs (by decide)
          refine v_if_eq (tgt := 122) C (by decide) dX10_isItem_92 (fun h16 => ?_) (fun h16 => ?_)
          · refine v_aload_n C 1 rfl dX10_isItem_122 ?_
            refine v_dup C rfl dX10_isItem_123 ?_
            refine v_get (v := .int (r15.2 24 6)) C fl_RX10_130 24 g_24 rfl dX10_isItem_124 ?_
            refine v_iconst (v := (1 : Int32)) C (by decide) dX10_isItem_127 ?_
            refine v_iadd C dX10_isItem_128 ?_
            refine v_put C fp_RX10_130 24 g_24 rfl rfl (Nat.le_of_ble_eq_true rfl) (p_24_10 _) dX10_isItem_129 ?_
            refine v_iconst (v := (1 : Int32)) C (by decide) dX10_isItem_132 ?_
            have e1 : F_X10_isItem μ = ((1 : Int32), (s2 r15.2 24 6 ((r15.2 24 6) + (1 : Int32)))) := by rw [F_X10_isItem]; simp only [if_pos h1, hr9, if_pos h10, hr13, if_neg h14, hr14, if_neg h15, hr15, if_pos h16]
            exact v_Q hQ (v_zret C rfl () trivial (by rw [e1]) (by rw [e1]) (Nat.zero_le _) (Nat.zero_le _) dX10_isItem_133)
          · refine v_aload_n C 1 rfl dX10_isItem_95 ?_
            refine v_iconst (v := (4 : Int32)) C (by decide) dX10_isItem_96 ?_
            refine v_cV1 (rest := []) C mv_RX10_127 (m_X10_digits l G E σ r15.2 Y (4 : Int32) hs.1 (⟨4, by omega, rfl⟩)) 24 g_24 rfl rfl rfl rfl (Nat.le_of_ble_eq_true rfl) ⟨Nat.le_of_ble_eq_true rfl, Nat.le_of_ble_eq_true rfl⟩ ⟨rfl, rfl⟩ ⟨Nat.zero_le _, Nat.zero_le _⟩ dX10_isItem_97 ?_
            generalize hr16 : F_X10_digits r15.2 (4 : Int32) = r16
            have hs : IOK r16.2 i := IOK.dg' hr16 hs
            refine v_if_ne (tgt := 105) C (by decide) dX10_isItem_100 (fun h17 => ?_) (fun h17 => ?_)
            · refine v_aload_n C 1 rfl dX10_isItem_105 ?_
              refine v_get (v := .ref (E.1 28)) C fl_RX10_23 24 g_24 rfl dX10_isItem_106 ?_
              refine v_iconst (v := (3 : Int32)) C (by decide) dX10_isItem_109 ?_
              refine v_aload_n C 1 rfl dX10_isItem_110 ?_
              refine v_get (v := .int (r16.2 24 6)) C fl_RX10_130 24 g_24 rfl dX10_isItem_111 ?_
              refine v_imul C dX10_isItem_114 ?_
              refine v_iconst (v := (2 : Int32)) C (by decide) dX10_isItem_115 ?_
              refine v_iadd C dX10_isItem_116 ?_
              refine v_aload_n C 1 rfl dX10_isItem_117 ?_
              refine v_get (v := .int (r16.2 24 4)) C fl_RX10_121 24 g_24 rfl dX10_isItem_118 ?_
              refine v_iast (ws' := Wd G E σ (s2 r16.2 28 (((3 : Int32) * (r16.2 24 6)) + (2 : Int32)).toNatClampNeg (r16.2 24 4)) Y) C 28 g_28 (it_b2 hs.2 h18) (p_28 _ _) dX10_isItem_121 ?_
              refine v_aload_n C 1 rfl dX10_isItem_122 ?_
              refine v_dup C rfl dX10_isItem_123 ?_
              refine v_get (v := .int (r16.2 24 6)) C fl_RX10_130 24 g_24 rfl dX10_isItem_124 ?_
              refine v_iconst (v := (1 : Int32)) C (by decide) dX10_isItem_127 ?_
              refine v_iadd C dX10_isItem_128 ?_
              refine v_put C fp_RX10_130 24 g_24 rfl rfl (Nat.le_of_ble_eq_true rfl) (p_24_10 _) dX10_isItem_129 ?_
              refine v_iconst (v := (1 : Int32)) C (by decide) dX10_isItem_132 ?_
              have e1 : F_X10_isItem μ = ((1 : Int32), (s2 (s2 r16.2 28 (((3 : Int32) * (r16.2 24 6)) + (2 : Int32)).toNatClampNeg (r16.2 24 4)) 24 6 ((r16.2 24 6) + (1 : Int32)))) := by rw [F_X10_isItem]; simp only [if_pos h1, hr9, if_pos h10, hr13, if_neg h14, hr14, if_neg h15, hr15, if_neg h16, hr16, if_neg h17]
              exact v_Q hQ (v_zret C rfl () trivial (by rw [e1]) (by rw [e1]) (Nat.zero_le _) (Nat.zero_le _) dX10_isItem_133)
            · refine v_iconst (v := (0 : Int32)) C (by decide) dX10_isItem_103 ?_
              have e1 : F_X10_isItem μ = ((0 : Int32), r16.2) := by rw [F_X10_isItem]; simp only [if_pos h1, hr9, if_pos h10, hr13, if_neg h14, hr14, if_neg h15, hr15, if_neg h16, hr16, if_pos h17]
              exact v_Q hQ (v_zret C rfl () trivial (by rw [e1]) (by rw [e1]) (Nat.zero_le _) (Nat.zero_le _) dX10_isItem_104)
        · refine v_iconst (v := (0 : Int32)) C (by decide) dX10_isItem_41 ?_
          have e1 : F_X10_isItem μ = ((0 : Int32), r14.2) := by rw [F_X10_isItem]; simp only [if_pos h1, hr9, if_pos h10, hr13, if_neg h14, hr14, if_pos h15]
          exact v_Q hQ (v_zret C rfl () trivial (by rw [e1]) (by rw [e1]) (Nat.zero_le _) (Nat.zero_le _) dX10_isItem_42)
