def L_X10_submitText_35 (μ : Sg) : Nat → Int32 → Int32 → Sg → Int32 × Sg
  | 0, _, _, _ => (0, μ)
  | n + 1, y, x, μ1 => (if (μ1 24 6) ≤ x then (y, μ1) else (if (F_X10_refusal μ1 (μ1 28 ((3 : Int32) * x).toNatClampNeg) (μ1 28 (((3 : Int32) * x) + (1 : Int32)).toNatClampNeg) (μ1 28 (((3 : Int32) * x) + (2 : Int32)).toNatClampNeg)) = 0 then (let r1 := F_X10_comes μ1 (μ1 28 ((3 : Int32) * x).toNatClampNeg) (μ1 28 (((3 : Int32) * x) + (1 : Int32)).toNatClampNeg) (μ1 28 (((3 : Int32) * x) + (2 : Int32)).toNatClampNeg); L_X10_submitText_35 μ n (y + (1 : Int32)) (x + (1 : Int32)) r1.2) else L_X10_submitText_35 μ n y (x + (1 : Int32)) μ1))
def F_X10_submitText (μ : Sg) : Int32 × Sg := (let r2 := F_X10_faultOf (s2 μ 24 1 (0 : Int32)); (if r2.1 < 0 then L_X10_submitText_35 μ 15 (0 : Int32) (0 : Int32) (s2 (s2 r2.2 24 5 r2.1) 24 2 (0 : Int32)) else (let r3 := F_X10_fails (s2 (s2 r2.2 24 5 r2.1) 24 2 (0 : Int32)) (1 : Int32); (r3.1, r3.2))))
abbrev rm_X10_submitText : Room := { frames := 4, cells := 0, slots := 0, locals := 85 }
set_option maxRecDepth 100000 in
set_option maxHeartbeats 4000000 in
theorem m_X10_submitText (l : Launch) (G : GG) (E : EE) (σ μ : Sg) (Y : va_W) (hM : MOKg (μ 25)) (hT : TOK (μ 24)) : KK l G yX10_submitText cX10_submitText 3 (some .int) rm_X10_submitText [.ref (E.1 24)] (Wd G E σ μ Y) (some (.int (F_X10_submitText μ).1)) (Wd G E σ (F_X10_submitText μ).2 Y) := by
  refine KE.of (by decide) (Nat.le_of_ble_eq_true rfl) ?_
  intro zp ze zs zm za zb zt zc zA C _
  generalize hQ : MQ zb _ za zs _ _ zA = Q
  have loop_35 : ∀ (n : Nat) (y : Int32) (x : Int32) (μ1 : Sg), ((∃ j i : Nat, x = nI j ∧ j ≤ i ∧ i ≤ 14 ∧ j + n = 15 ∧ μ1 24 6 = nI i) ∧ MOKg (μ1 25)) → F_X10_submitText μ = L_X10_submitText_35 μ n y x μ1 → V zp l ze rm_X10_submitText zs zm za zb zt zc 3 G zA 0 0 Q 35 [(0, .ref (E.1 24)), (1, .int y), (2, .int x)] [] (Wd G E σ μ1 Y) := by
    intro n
    induction n with
    | zero =>
      intro y x μ1 hI hL
      exact False.elim (by obtain ⟨⟨j, i, _, h1, h2, h3, _⟩, _⟩ := hI; omega)
    | succ n ih =>
      intro y x μ1 hI hL
      obtain ⟨⟨j, i, ej, hji, hi, hn, e6⟩, hM1⟩ := hI
      refine v_iload_n C 2 rfl dX10_submitText_35 ?_
      refine v_aload_n C 0 rfl dX10_submitText_36 ?_
      refine v_get (v := .int (μ1 24 6)) C fl_RX10_130 24 g_24 rfl dX10_submitText_37 ?_
      refine v_icmp_ge (tgt := 120) C (by decide) dX10_submitText_40 (fun h1 => ?_) (fun h1 => ?_)
      · refine v_iload_n C 1 rfl dX10_submitText_120 ?_
        have e1 : F_X10_submitText μ = (y, μ1) := by rw [hL, L_X10_submitText_35, if_pos h1]
        exact v_Q hQ (v_iret C () trivial (by rw [e1]) (by rw [e1]) (Nat.zero_le _) (Nat.zero_le _) dX10_submitText_121)
      · refine v_aload_n C 0 rfl dX10_submitText_43 ?_
        refine v_aload_n C 0 rfl dX10_submitText_44 ?_
        refine v_get (v := .ref (E.1 28)) C fl_RX10_23 24 g_24 rfl dX10_submitText_45 ?_
        refine v_iconst (v := (3 : Int32)) C (by decide) dX10_submitText_48 ?_
        refine v_iload_n C 2 rfl dX10_submitText_49 ?_
        refine v_imul C dX10_submitText_50 ?_
        refine v_iald (v := μ1 28 ((3 : Int32) * x).toNatClampNeg) C 28 g_28 (by have q := gt_of_nle e6 ej (by omega) (by omega) h1; exact it_b0 ej (by omega)) rfl dX10_submitText_51 ?_
        refine v_aload_n C 0 rfl dX10_submitText_52 ?_
        refine v_get (v := .ref (E.1 28)) C fl_RX10_23 24 g_24 rfl dX10_submitText_53 ?_
        refine v_iconst (v := (3 : Int32)) C (by decide) dX10_submitText_56 ?_
        refine v_iload_n C 2 rfl dX10_submitText_57 ?_
        refine v_imul C dX10_submitText_58 ?_
        refine v_iconst (v := (1 : Int32)) C (by decide) dX10_submitText_59 ?_
        refine v_iadd C dX10_submitText_60 ?_
        refine v_iald (v := μ1 28 (((3 : Int32) * x) + (1 : Int32)).toNatClampNeg) C 28 g_28 (by have q := gt_of_nle e6 ej (by omega) (by omega) h1; exact it_b1 ej (by omega)) rfl dX10_submitText_61 ?_
        refine v_aload_n C 0 rfl dX10_submitText_62 ?_
        refine v_get (v := .ref (E.1 28)) C fl_RX10_23 24 g_24 rfl dX10_submitText_63 ?_
        refine v_iconst (v := (3 : Int32)) C (by decide) dX10_submitText_66 ?_
        refine v_iload_n C 2 rfl dX10_submitText_67 ?_
        refine v_imul C dX10_submitText_68 ?_
        refine v_iconst (v := (2 : Int32)) C (by decide) dX10_submitText_69 ?_
        refine v_iadd C dX10_submitText_70 ?_
        refine v_iald (v := μ1 28 (((3 : Int32) * x) + (2 : Int32)).toNatClampNeg) C 28 g_28 (by have q := gt_of_nle e6 ej (by omega) (by omega) h1; exact it_b2 ej (by omega)) rfl dX10_submitText_71 ?_
        refine v_cV1 (rest := []) C mv_RX10_106 (m_X10_refusal l G E σ μ1 Y (μ1 28 ((3 : Int32) * x).toNatClampNeg) (μ1 28 (((3 : Int32) * x) + (1 : Int32)).toNatClampNeg) (μ1 28 (((3 : Int32) * x) + (2 : Int32)).toNatClampNeg) hM1) 24 g_24 rfl rfl rfl rfl (Nat.le_of_ble_eq_true rfl) ⟨Nat.le_of_ble_eq_true rfl, Nat.le_of_ble_eq_true rfl⟩ ⟨rfl, rfl⟩ ⟨Nat.zero_le _, Nat.zero_le _⟩ dX10_submitText_72 ?_
        refine v_if_ne (tgt := 114) C (by decide) dX10_submitText_75 (fun h2 => ?_) (fun h2 => ?_)
        · refine v_iinc (v := x + (1 : Int32)) (lv' := [(2, .int (x + (1 : Int32))), (0, .ref (E.1 24)), (1, .int y)]) C 2 rfl rfl (Nat.le_of_ble_eq_true rfl) rfl dX10_submitText_114 ?_
          refine v_goto (tgt := 35) C (by decide) dX10_submitText_117 ?_
          refine v_lv [1, 2, 0] rfl ?_
          exact ih y (x + (1 : Int32)) μ1 (by have q := gt_of_nle e6 ej (by omega) (by omega) h1; refine ⟨⟨j + 1, i, by rw [ej]; exact nI_1 j, by omega, hi, by omega, ?_⟩, ?_⟩ <;> first | exact e6 | exact hM1 | (rw [hc24]; exact e6) | exact hc25) (by rw [hL, L_X10_submitText_35, if_neg h1, if_neg h2])
        · refine v_aload_n C 0 rfl dX10_submitText_78 ?_
          refine v_aload_n C 0 rfl dX10_submitText_79 ?_
          refine v_get (v := .ref (E.1 28)) C fl_RX10_23 24 g_24 rfl dX10_submitText_80 ?_
          refine v_iconst (v := (3 : Int32)) C (by decide) dX10_submitText_83 ?_
          refine v_iload_n C 2 rfl dX10_submitText_84 ?_
          refine v_imul C dX10_submitText_85 ?_
          refine v_iald (v := μ1 28 ((3 : Int32) * x).toNatClampNeg) C 28 g_28 (by have q := gt_of_nle e6 ej (by omega) (by omega) h1; exact it_b0 ej (by omega)) rfl dX10_submitText_86 ?_
          refine v_aload_n C 0 rfl dX10_submitText_87 ?_
          refine v_get (v := .ref (E.1 28)) C fl_RX10_23 24 g_24 rfl dX10_submitText_88 ?_
          refine v_iconst (v := (3 : Int32)) C (by decide) dX10_submitText_91 ?_
          refine v_iload_n C 2 rfl dX10_submitText_92 ?_
          refine v_imul C dX10_submitText_93 ?_
          refine v_iconst (v := (1 : Int32)) C (by decide) dX10_submitText_94 ?_
          refine v_iadd C dX10_submitText_95 ?_
          refine v_iald (v := μ1 28 (((3 : Int32) * x) + (1 : Int32)).toNatClampNeg) C 28 g_28 (by have q := gt_of_nle e6 ej (by omega) (by omega) h1; exact it_b1 ej (by omega)) rfl dX10_submitText_96 ?_
          refine v_aload_n C 0 rfl dX10_submitText_97 ?_
          refine v_get (v := .ref (E.1 28)) C fl_RX10_23 24 g_24 rfl dX10_submitText_98 ?_
          refine v_iconst (v := (3 : Int32)) C (by decide) dX10_submitText_101 ?_
          refine v_iload_n C 2 rfl dX10_submitText_102 ?_
          refine v_imul C dX10_submitText_103 ?_
          refine v_iconst (v := (2 : Int32)) C (by decide) dX10_submitText_104 ?_
          refine v_iadd C dX10_submitText_105 ?_
          refine v_iald (v := μ1 28 (((3 : Int32) * x) + (2 : Int32)).toNatClampNeg) C 28 g_28 (by have q := gt_of_nle e6 ej (by omega) (by omega) h1; exact it_b2 ej (by omega)) rfl dX10_submitText_106 ?_
          refine v_cV1 (rest := []) C mv_RX10_109 (m_X10_comes l G E σ μ1 Y (μ1 28 ((3 : Int32) * x).toNatClampNeg) (μ1 28 (((3 : Int32) * x) + (1 : Int32)).toNatClampNeg) (μ1 28 (((3 : Int32) * x) + (2 : Int32)).toNatClampNeg) ((refusal_ok hM1 (by rw [h2]; decide)).1) ((refusal_ok hM1 (by rw [h2]; decide)).2)) 24 g_24 rfl rfl rfl rfl (Nat.le_of_ble_eq_true rfl) ⟨Nat.le_of_ble_eq_true rfl, Nat.le_of_ble_eq_true rfl⟩ ⟨rfl, rfl⟩ ⟨Nat.zero_le _, Nat.zero_le _⟩ dX10_submitText_107 ?_
          generalize hr1 : F_X10_comes μ1 (μ1 28 ((3 : Int32) * x).toNatClampNeg) (μ1 28 (((3 : Int32) * x) + (1 : Int32)).toNatClampNeg) (μ1 28 (((3 : Int32) * x) + (2 : Int32)).toNatClampNeg) = r1
          have hc25 : MOKg (r1.2 25) := by rw [← hr1]; exact comes_ok hM1 (refusal_ok hM1 (by rw [h2]; decide)).1 (refusal_ok hM1 (by rw [h2]; decide)).2
          have hc24 : r1.2 24 = μ1 24 := by rw [← hr1]; exact comes_o (by decide)
          refine v_pop C rfl dX10_submitText_110 ?_
          refine v_iinc (v := y + (1 : Int32)) (lv' := [(1, .int (y + (1 : Int32))), (0, .ref (E.1 24)), (2, .int x)]) C 1 rfl rfl (Nat.le_of_ble_eq_true rfl) rfl dX10_submitText_111 ?_
          refine v_iinc (v := x + (1 : Int32)) (lv' := [(2, .int (x + (1 : Int32))), (1, .int (y + (1 : Int32))), (0, .ref (E.1 24))]) C 2 rfl rfl (Nat.le_of_ble_eq_true rfl) rfl dX10_submitText_114 ?_
          refine v_goto (tgt := 35) C (by decide) dX10_submitText_117 ?_
          refine v_lv [2, 1, 0] rfl ?_
          exact ih (y + (1 : Int32)) (x + (1 : Int32)) r1.2 (by have q := gt_of_nle e6 ej (by omega) (by omega) h1; refine ⟨⟨j + 1, i, by rw [ej]; exact nI_1 j, by omega, hi, by omega, ?_⟩, ?_⟩ <;> first | exact e6 | exact hM1 | (rw [hc24]; exact e6) | exact hc25) (by rw [hL, L_X10_submitText_35]; simp only [if_neg h1, if_pos h2, hr1])
  show V zp l ze rm_X10_submitText zs zm za zb zt zc 3 G zA 0 0 Q 0 [(0, .ref (E.1 24))] [] (Wd G E σ μ Y)
  refine v_aload_n C 0 rfl dX10_submitText_0 ?_
  refine v_iconst (v := (0 : Int32)) C (by decide) dX10_submitText_1 ?_
  refine v_put C fp_RX10_39 24 g_24 rfl rfl (Nat.le_of_ble_eq_true rfl) (p_24_3 _) dX10_submitText_2 ?_
  refine v_aload_n C 0 rfl dX10_submitText_5 ?_
  refine v_aload_n C 0 rfl dX10_submitText_6 ?_
  refine v_cV1 (rest := [.ref (E.1 24)]) C mv_RX10_137 (m_X10_faultOf l G E σ (s2 μ 24 1 (0 : Int32)) Y hT) 24 g_24 rfl rfl rfl rfl (Nat.le_of_ble_eq_true rfl) ⟨Nat.le_of_ble_eq_true rfl, Nat.le_of_ble_eq_true rfl⟩ ⟨rfl, rfl⟩ ⟨Nat.zero_le _, Nat.zero_le _⟩ dX10_submitText_7 ?_
  generalize hr2 : F_X10_faultOf (s2 μ 24 1 (0 : Int32)) = r2
  have hfo := faultOf_ok (μ := s2 μ 24 1 0) hT
  rw [hr2] at hfo
  refine v_put C fp_RX10_19 24 g_24 rfl rfl (Nat.le_of_ble_eq_true rfl) (p_24_8 _) dX10_submitText_10 ?_
  refine v_aload_n C 0 rfl dX10_submitText_13 ?_
  refine v_iconst (v := (0 : Int32)) C (by decide) dX10_submitText_14 ?_
  refine v_put C fp_RX10_112 24 g_24 rfl rfl (Nat.le_of_ble_eq_true rfl) (p_24_5 _) dX10_submitText_15 ?_
  refine v_aload_n C 0 rfl dX10_submitText_18 ?_
  refine v_get (v := .int r2.1) C fl_RX10_19 24 g_24 rfl dX10_submitText_19 ?_
  refine v_if_lt (tgt := 31) C (by decide) dX10_submitText_22 (fun h3 => ?_) (fun h3 => ?_)
  · refine v_iconst (v := (0 : Int32)) C (by decide) dX10_submitText_31 ?_
    refine v_istore_n (lv' := [(1, .int (0 : Int32)), (0, .ref (E.1 24))]) C (Nat.le_of_ble_eq_true rfl) rfl dX10_submitText_32 ?_
    refine v_iconst (v := (0 : Int32)) C (by decide) dX10_submitText_33 ?_
    refine v_istore_n (lv' := [(2, .int (0 : Int32)), (1, .int (0 : Int32)), (0, .ref (E.1 24))]) C (Nat.le_of_ble_eq_true rfl) rfl dX10_submitText_34 ?_
    refine v_lv [2, 1, 0] rfl ?_
    exact loop_35 15 (0 : Int32) (0 : Int32) (s2 (s2 r2.2 24 5 r2.1) 24 2 (0 : Int32)) (by obtain ⟨fr, i, hi, ei⟩ := hfo; exact ⟨⟨0, i, rfl, by omega, hi, by omega, ei⟩, Eq.mpr (congrArg MOKg (fr.1 25 (by decide) (by decide))) hM⟩) (by rw [F_X10_submitText]; simp only [hr2, if_pos h3])
  · refine v_aload_n C 0 rfl dX10_submitText_25 ?_
    refine v_iconst (v := (1 : Int32)) C (by decide) dX10_submitText_26 ?_
    refine v_cV1 (rest := []) C mv_RX10_78 (m_X10_fails l G E σ (s2 (s2 r2.2 24 5 r2.1) 24 2 (0 : Int32)) Y (1 : Int32)) 24 g_24 rfl rfl rfl rfl (Nat.le_of_ble_eq_true rfl) ⟨Nat.le_of_ble_eq_true rfl, Nat.le_of_ble_eq_true rfl⟩ ⟨rfl, rfl⟩ ⟨Nat.zero_le _, Nat.zero_le _⟩ dX10_submitText_27 ?_
    generalize hr3 : F_X10_fails (s2 (s2 r2.2 24 5 r2.1) 24 2 (0 : Int32)) (1 : Int32) = r3
    have e1 : F_X10_submitText μ = (r3.1, r3.2) := by rw [F_X10_submitText]; simp only [hr2, if_neg h3, hr3]
    exact v_Q hQ (v_iret C () trivial (by rw [e1]) (by rw [e1]) (Nat.zero_le _) (Nat.zero_le _) dX10_submitText_30)
