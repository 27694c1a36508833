/-- what of floats is wanted: no quotient of ints is a NaN; shown at the end -/
def FNN : Prop := (∀ a b : Int32, ¬ b = 0 → vf_n64 (FP.ddiv (FP.i2d a) (FP.i2d b))) ∧ (∀ a b : Int32, ¬ b = 0 → vf_n32 (FP.fdiv (FP.i2f a) (FP.i2f b))) ∧ (∀ x : UInt32, vf_n32 x → vf_n64 (FP.f2d x)) ∧ ∀ x : UInt64, vf_n64 x → FP.dcmp x x = some .eq
def F_X10_utilization (μ : Sg) : UInt64 × Sg := (if (μ 25 8) = 0 then (FP.dconst0, (s2 μ 24 1 (1 : Int32))) else (FP.ddiv (FP.i2d (((μ 25 13) + (μ 25 14)) + (μ 25 15))) (FP.i2d (μ 25 8)), (s2 μ 24 1 (0 : Int32))))
abbrev rm_X10_utilization : Room := { frames := 0, cells := 0, slots := 0, locals := 0 }
set_option maxRecDepth 100000 in
set_option maxHeartbeats 4000000 in
theorem m_X10_utilization (l : Launch) (G : GG) (E : EE) (σ μ : Sg) (Y : va_W) (hF : FNN) : KK l G yX10_utilization cX10_utilization 1 (some .double) rm_X10_utilization [.ref (E.1 24)] (Wd G E σ μ Y) (some (.double (F_X10_utilization μ).1)) (Wd G E σ (F_X10_utilization μ).2 Y) := by
  refine KE.of (by decide) (Nat.le_of_ble_eq_true rfl) ?_
  intro zp ze zs zm za zb zt zc zA C _
  generalize hQ : MQ zb _ za zs _ _ zA = Q
  show V zp l ze rm_X10_utilization zs zm za zb zt zc 1 G zA 0 0 Q 0 [(0, .ref (E.1 24))] [] (Wd G E σ μ Y)
  refine v_aload_n C 0 rfl dX10_utilization_0 ?_
  refine v_aload_n C 0 rfl dX10_utilization_1 ?_
  refine v_get (v := .ref (E.1 25)) C fl_RX10_7 24 g_24 rfl dX10_utilization_2 ?_
  refine v_bipush (v := (8 : Int32)) C (by decide) dX10_utilization_5 ?_
  refine v_iald (v := μ 25 8) C 25 g_25 vi_8_1700 (rdl tn_8 rfl) dX10_utilization_7 ?_
  refine v_if_ne (tgt := 15) C (by decide) dX10_utilization_8 (fun h1 => ?_) (fun h1 => ?_)
  · refine v_iconst (v := (0 : Int32)) C (by decide) dX10_utilization_15 ?_
    refine v_put C fp_RX10_39 24 g_24 rfl rfl (Nat.le_of_ble_eq_true rfl) (p_24_3 _) dX10_utilization_16 ?_
    refine v_aload_n C 0 rfl dX10_utilization_19 ?_
    refine v_get (v := .int (0 : Int32)) C fl_RX10_39 24 g_24 rfl dX10_utilization_20 ?_
    refine v_if_le (tgt := 30) C (by decide) dX10_utilization_23 (fun h2 => ?_) (fun h2 => ?_)
    · refine v_aload_n C 0 rfl dX10_utilization_30 ?_
      refine v_get (v := .ref (E.1 25)) C fl_RX10_7 24 g_24 rfl dX10_utilization_31 ?_
      refine v_bipush (v := (13 : Int32)) C (by decide) dX10_utilization_34 ?_
      refine v_iald (v := μ 25 13) C 25 g_25 vi_13_1700 (rdl tn_13 rfl) dX10_utilization_36 ?_
      refine v_aload_n C 0 rfl dX10_utilization_37 ?_
      refine v_get (v := .ref (E.1 25)) C fl_RX10_7 24 g_24 rfl dX10_utilization_38 ?_
      refine v_bipush (v := (14 : Int32)) C (by decide) dX10_utilization_41 ?_
      refine v_iald (v := μ 25 14) C 25 g_25 vi_14_1700 (rdl tn_14 rfl) dX10_utilization_43 ?_
      refine v_iadd C dX10_utilization_44 ?_
      refine v_aload_n C 0 rfl dX10_utilization_45 ?_
      refine v_get (v := .ref (E.1 25)) C fl_RX10_7 24 g_24 rfl dX10_utilization_46 ?_
      refine v_bipush (v := (15 : Int32)) C (by decide) dX10_utilization_49 ?_
      refine v_iald (v := μ 25 15) C 25 g_25 vi_15_1700 (rdl tn_15 rfl) dX10_utilization_51 ?_
      refine v_iadd C dX10_utilization_52 ?_
      refine v_i2d C dX10_utilization_53 ?_
      refine v_aload_n C 0 rfl dX10_utilization_54 ?_
      refine v_get (v := .ref (E.1 25)) C fl_RX10_7 24 g_24 rfl dX10_utilization_55 ?_
      refine v_bipush (v := (8 : Int32)) C (by decide) dX10_utilization_58 ?_
      refine v_iald (v := μ 25 8) C 25 g_25 vi_8_1700 (rdl tn_8 rfl) dX10_utilization_60 ?_
      refine v_i2d C dX10_utilization_61 ?_
      refine v_ddiv C (hF.1 _ _ (by assumption)) dX10_utilization_62 ?_
      have e1 : F_X10_utilization μ = (FP.ddiv (FP.i2d (((μ 25 13) + (μ 25 14)) + (μ 25 15))) (FP.i2d (μ 25 8)), (s2 μ 24 1 (0 : Int32))) := by rw [F_X10_utilization, if_neg h1]
      exact v_Q hQ (v_dret C () trivial (by rw [e1]) (by rw [e1]) (Nat.zero_le _) (Nat.zero_le _) dX10_utilization_63)
    · exact absurd (by decide) h2
  · refine v_iconst (v := (1 : Int32)) C (by decide) dX10_utilization_11 ?_
    refine v_goto (tgt := 16) C (by decide) dX10_utilization_12 ?_
    refine v_put C fp_RX10_39 24 g_24 rfl rfl (Nat.le_of_ble_eq_true rfl) (p_24_3 _) dX10_utilization_16 ?_
    refine v_aload_n C 0 rfl dX10_utilization_19 ?_
    refine v_get (v := .int (1 : Int32)) C fl_RX10_39 24 g_24 rfl dX10_utilization_20 ?_
    refine v_if_le (tgt := 30) C (by decide) dX10_utilization_23 (fun h3 => ?_) (fun h3 => ?_)
    · exact absurd h3 (by decide)
    · refine v_dconst0 C dX10_utilization_26 ?_
      refine v_goto (tgt := 63) C (by decide) dX10_utilization_27 ?_
      have e1 : F_X10_utilization μ = (FP.dconst0, (s2 μ 24 1 (1 : Int32))) := by rw [F_X10_utilization, if_pos h1]
      exact v_Q hQ (v_dret C () trivial (by rw [e1]) (by rw [e1]) (Nat.zero_le _) (Nat.zero_le _) dX10_utilization_63)
def L_X10_averageResponse_6 (μ : Sg) : Nat → Int32 → Int32 → Int32 → UInt64 × Sg
  | 0, _, _, _ => (0, μ)
  | n + 1, n1, y, x => (if (μ 25 12) ≤ x then (if n1 = 0 then (if n1 = 0 then (FP.dconst0, (s2 μ 24 1 (1 : Int32))) else (FP.ddiv (FP.i2d y) (FP.i2d n1), (s2 μ 24 1 (1 : Int32)))) else (if n1 = 0 then (FP.dconst0, (s2 μ 24 1 (0 : Int32))) else (FP.ddiv (FP.i2d y) (FP.i2d n1), (s2 μ 24 1 (0 : Int32))))) else (if (μ 25 ((350 : Int32) + x).toNatClampNeg) = (1 : Int32) then L_X10_averageResponse_6 μ n (n1 + (1 : Int32)) (y + ((μ 25 ((430 : Int32) + x).toNatClampNeg) - (μ 25 ((190 : Int32) + x).toNatClampNeg))) (x + (1 : Int32)) else L_X10_averageResponse_6 μ n n1 y (x + (1 : Int32))))
def F_X10_averageResponse (μ : Sg) : UInt64 × Sg := L_X10_averageResponse_6 μ 81 (0 : Int32) (0 : Int32) (0 : Int32)
abbrev rm_X10_averageResponse : Room := { frames := 0, cells := 0, slots := 0, locals := 0 }
set_option maxRecDepth 100000 in
set_option maxHeartbeats 4000000 in
theorem m_X10_averageResponse (l : Launch) (G : GG) (E : EE) (σ μ : Sg) (Y : va_W) (hM : MOKg (μ 25)) (hF : FNN) : KK l G yX10_averageResponse cX10_averageResponse 4 (some .double) rm_X10_averageResponse [.ref (E.1 24)] (Wd G E σ μ Y) (some (.double (F_X10_averageResponse μ).1)) (Wd G E σ (F_X10_averageResponse μ).2 Y) := by
  refine KE.of (by decide) (Nat.le_of_ble_eq_true rfl) ?_
  intro zp ze zs zm za zb zt zc zA C _
  generalize hQ : MQ zb _ za zs _ _ zA = Q
  have loop_6 : ∀ (n : Nat) (n1 : Int32) (y : Int32) (x : Int32), (∃ j : Nat, x = nI j ∧ j ≤ 80 ∧ j + n = 81) → F_X10_averageResponse μ = L_X10_averageResponse_6 μ n n1 y x → V zp l ze rm_X10_averageResponse zs zm za zb zt zc 4 G zA 0 0 Q 6 [(0, .ref (E.1 24)), (1, .int n1), (2, .int y), (3, .int x)] [] (Wd G E σ μ Y) := by
    intro n
    induction n with
    | zero =>
      intro n1 y x hI hL
      exact False.elim (by obtain ⟨j, _, h4, hn⟩ := hI; omega)
    | succ n ih =>
      intro n1 y x hI hL
      obtain ⟨j, ej, h4, hn⟩ := hI
      obtain ⟨mm, hm, em⟩ := hM.2.1
      refine v_iload_n C 3 rfl dX10_averageResponse_6 ?_
      refine v_aload_n C 0 rfl dX10_averageResponse_7 ?_
      refine v_get (v := .ref (E.1 25)) C fl_RX10_7 24 g_24 rfl dX10_averageResponse_8 ?_
      refine v_bipush (v := (12 : Int32)) C (by decide) dX10_averageResponse_11 ?_
      refine v_iald (v := μ 25 12) C 25 g_25 vi_12_1700 (rdl tn_12 rfl) dX10_averageResponse_13 ?_
      refine v_icmp_ge (tgt := 64) C (by decide) dX10_averageResponse_14 (fun h1 => ?_) (fun h1 => ?_)
      · refine v_aload_n C 0 rfl dX10_averageResponse_64 ?_
        refine v_iload_n C 1 rfl dX10_averageResponse_65 ?_
        refine v_if_ne (tgt := 73) C (by decide) dX10_averageResponse_66 (fun h2 => ?_) (fun h2 => ?_)
        · refine v_iconst (v := (0 : Int32)) C (by decide) dX10_averageResponse_73 ?_
          refine v_put C fp_RX10_39 24 g_24 rfl rfl (Nat.le_of_ble_eq_true rfl) (p_24_3 _) dX10_averageResponse_74 ?_
          refine v_iload_n C 1 rfl dX10_averageResponse_77 ?_
          refine v_if_ne (tgt := 85) C (by decide) dX10_averageResponse_78 (fun h3 => ?_) (fun h3 => ?_)
          · refine v_iload_n C 2 rfl dX10_averageResponse_85 ?_
            refine v_i2d C dX10_averageResponse_86 ?_
            refine v_iload_n C 1 rfl dX10_averageResponse_87 ?_
            refine v_i2d C dX10_averageResponse_88 ?_
            refine v_ddiv C (hF.1 _ _ (by assumption)) dX10_averageResponse_89 ?_
            have e1 : F_X10_averageResponse μ = (FP.ddiv (FP.i2d y) (FP.i2d n1), (s2 μ 24 1 (0 : Int32))) := by rw [hL, L_X10_averageResponse_6, if_pos h1, if_neg h2, if_neg h3]
            exact v_Q hQ (v_dret C () trivial (by rw [e1]) (by rw [e1]) (Nat.zero_le _) (Nat.zero_le _) dX10_averageResponse_90)
          · refine v_dconst0 C dX10_averageResponse_81 ?_
            refine v_goto (tgt := 90) C (by decide) dX10_averageResponse_82 ?_
            have e1 : F_X10_averageResponse μ = (FP.dconst0, (s2 μ 24 1 (0 : Int32))) := by rw [hL, L_X10_averageResponse_6, if_pos h1, if_neg h2, if_pos h3]
            exact v_Q hQ (v_dret C () trivial (by rw [e1]) (by rw [e1]) (Nat.zero_le _) (Nat.zero_le _) dX10_averageResponse_90)
        · refine v_iconst (v := (1 : Int32)) C (by decide) dX10_averageResponse_69 ?_
          refine v_goto (tgt := 74) C (by decide) dX10_averageResponse_70 ?_
          refine v_put C fp_RX10_39 24 g_24 rfl rfl (Nat.le_of_ble_eq_true rfl) (p_24_3 _) dX10_averageResponse_74 ?_
          refine v_iload_n C 1 rfl dX10_averageResponse_77 ?_
          refine v_if_ne (tgt := 85) C (by decide) dX10_averageResponse_78 (fun h4 => ?_) (fun h4 => ?_)
          · refine v_iload_n C 2 rfl dX10_averageResponse_85 ?_
            refine v_i2d C dX10_averageResponse_86 ?_
            refine v_iload_n C 1 rfl dX10_averageResponse_87 ?_
            refine v_i2d C dX10_averageResponse_88 ?_
            refine v_ddiv C (hF.1 _ _ (by assumption)) dX10_averageResponse_89 ?_
            have e1 : F_X10_averageResponse μ = (FP.ddiv (FP.i2d y) (FP.i2d n1), (s2 μ 24 1 (1 : Int32))) := by rw [hL, L_X10_averageResponse_6, if_pos h1, if_pos h2, if_neg h4]
            exact v_Q hQ (v_dret C () trivial (by rw [e1]) (by rw [e1]) (Nat.zero_le _) (Nat.zero_le _) dX10_averageResponse_90)
          · refine v_dconst0 C dX10_averageResponse_81 ?_
            refine v_goto (tgt := 90) C (by decide) dX10_averageResponse_82 ?_
            have e1 : F_X10_averageResponse μ = (FP.dconst0, (s2 μ 24 1 (1 : Int32))) := by rw [hL, L_X10_averageResponse_6, if_pos h1, if_pos h2, if_pos h4]
            exact v_Q hQ (v_dret C () trivial (by rw [e1]) (by rw [e1]) (Nat.zero_le _) (Nat.zero_le _) dX10_averageResponse_90)
      · refine v_aload_n C 0 rfl dX10_averageResponse_17 ?_
        refine v_get (v := .ref (E.1 25)) C fl_RX10_7 24 g_24 rfl dX10_averageResponse_18 ?_
        refine v_sipush (v := (350 : Int32)) C (by decide) dX10_averageResponse_21 ?_
        refine v_iload_n C 3 rfl dX10_averageResponse_24 ?_
        refine v_iadd C dX10_averageResponse_25 ?_
        refine v_iald (v := μ 25 ((350 : Int32) + x).toNatClampNeg) C 25 g_25 (by have q := gt_of_nle em ej (by omega) (by omega) h1; exact vi_add 350 ej (by omega) (by decide)) rfl dX10_averageResponse_26 ?_
        refine v_iconst (v := (1 : Int32)) C (by decide) dX10_averageResponse_27 ?_
        refine v_icmp_ne (tgt := 58) C (by decide) dX10_averageResponse_28 (fun h5 => ?_) (fun h5 => ?_)
        · refine v_iinc (v := x + (1 : Int32)) (lv' := [(3, .int (x + (1 : Int32))), (0, .ref (E.1 24)), (1, .int n1), (2, .int y)]) C 3 rfl rfl (Nat.le_of_ble_eq_true rfl) rfl dX10_averageResponse_58 ?_
          refine v_goto (tgt := 6) C (by decide) dX10_averageResponse_61 ?_
          refine v_lv [1, 2, 3, 0] rfl ?_
          exact ih n1 y (x + (1 : Int32)) (by have q := gt_of_nle em ej (by omega) (by omega) h1; exact ⟨j + 1, by rw [ej]; exact nI_1 j, by omega, by omega⟩) (by rw [hL, L_X10_averageResponse_6, if_neg h1, if_neg h5])
        · refine v_iinc (v := n1 + (1 : Int32)) (lv' := [(1, .int (n1 + (1 : Int32))), (0, .ref (E.1 24)), (2, .int y), (3, .int x)]) C 1 rfl rfl (Nat.le_of_ble_eq_true rfl) rfl dX10_averageResponse_31 ?_
          refine v_iload_n C 2 rfl dX10_averageResponse_34 ?_
          refine v_aload_n C 1 rfl dX10_averageResponse_35 ?_
          refine v_get (v := .ref (E.1 25)) C fl_RX10_7 24 g_24 rfl dX10_averageResponse_36 ?_
          refine v_sipush (v := (430 : Int32)) C (by decide) dX10_averageResponse_39 ?_
          refine v_iload_n C 3 rfl dX10_averageResponse_42 ?_
          refine v_iadd C dX10_averageResponse_43 ?_
          refine v_iald (v := μ 25 ((430 : Int32) + x).toNatClampNeg) C 25 g_25 (by have q := gt_of_nle em ej (by omega) (by omega) h1; exact vi_add 430 ej (by omega) (by decide)) rfl dX10_averageResponse_44 ?_
          refine v_aload_n C 1 rfl dX10_averageResponse_45 ?_
          refine v_get (v := .ref (E.1 25)) C fl_RX10_7 24 g_24 rfl dX10_averageResponse_46 ?_
          refine v_sipush (v := (190 : Int32)) C (by decide) dX10_averageResponse_49 ?_
          refine v_iload_n C 3 rfl dX10_averageResponse_52 ?_
          refine v_iadd C dX10_averageResponse_53 ?_
          refine v_iald (v := μ 25 ((190 : Int32) + x).toNatClampNeg) C 25 g_25 (by have q := gt_of_nle em ej (by omega) (by omega) h1; exact vi_add 190 ej (by omega) (by decide)) rfl dX10_averageResponse_54 ?_
          refine v_isub C dX10_averageResponse_55 ?_
          refine v_iadd C dX10_averageResponse_56 ?_
          refine v_istore_n (lv' := [(2, .int (y + ((μ 25 ((430 : Int32) + x).toNatClampNeg) - (μ 25 ((190 : Int32) + x).toNatClampNeg)))), (1, .int (n1 + (1 : Int32))), (0, .ref (E.1 24)), (3, .int x)]) C (Nat.le_of_ble_eq_true rfl) rfl dX10_averageResponse_57 ?_
          refine v_iinc (v := x + (1 : Int32)) (lv' := [(3, .int (x + (1 : Int32))), (2, .int (y + ((μ 25 ((430 : Int32) + x).toNatClampNeg) - (μ 25 ((190 : Int32) + x).toNatClampNeg)))), (1, .int (n1 + (1 : Int32))), (0, .ref (E.1 24))]) C 3 rfl rfl (Nat.le_of_ble_eq_true rfl) rfl dX10_averageResponse_58 ?_
          refine v_goto (tgt := 6) C (by decide) dX10_averageResponse_61 ?_
          refine v_lv [3, 2, 1, 0] rfl ?_
          exact ih (n1 + (1 : Int32)) (y + ((μ 25 ((430 : Int32) + x).toNatClampNeg) - (μ 25 ((190 : Int32) + x).toNatClampNeg))) (x + (1 : Int32)) (by have q := gt_of_nle em ej (by omega) (by omega) h1; exact ⟨j + 1, by rw [ej]; exact nI_1 j, by omega, by omega⟩) (by rw [hL, L_X10_averageResponse_6, if_neg h1, if_pos h5])
  show V zp l ze rm_X10_averageResponse zs zm za zb zt zc 4 G zA 0 0 Q 0 [(0, .ref (E.1 24))] [] (Wd G E σ μ Y)
  refine v_iconst (v := (0 : Int32)) C (by decide) dX10_averageResponse_0 ?_
  refine v_istore_n (lv' := [(1, .int (0 : Int32)), (0, .ref (E.1 24))]) C (Nat.le_of_ble_eq_true rfl) rfl dX10_averageResponse_1 ?_
  refine v_iconst (v := (0 : Int32)) C (by decide) dX10_averageResponse_2 ?_
  refine v_istore_n (lv' := [(2, .int (0 : Int32)), (1, .int (0 : Int32)), (0, .ref (E.1 24))]) C (Nat.le_of_ble_eq_true rfl) rfl dX10_averageResponse_3 ?_
  refine v_iconst (v := (0 : Int32)) C (by decide) dX10_averageResponse_4 ?_
  refine v_istore_n (lv' := [(3, .int (0 : Int32)), (2, .int (0 : Int32)), (1, .int (0 : Int32)), (0, .ref (E.1 24))]) C (Nat.le_of_ble_eq_true rfl) rfl dX10_averageResponse_5 ?_
  refine v_lv [3, 2, 1, 0] rfl ?_
  exact loop_6 81 (0 : Int32) (0 : Int32) (0 : Int32) (⟨0, rfl, by omega, by omega⟩) (by rw [F_X10_averageResponse])
def L_X10_lateShare_6 (μ : Sg) : Nat → Int32 → Int32 → Int32 → UInt32 × Sg
  | 0, _, _, _ => (0, μ)
  | n + 1, n1, y, x => (if (μ 25 12) ≤ x then (if n1 = 0 then (if n1 = 0 then (FP.fconst0, (s2 μ 24 1 (1 : Int32))) else (FP.fdiv (FP.i2f y) (FP.i2f n1), (s2 μ 24 1 (1 : Int32)))) else (if n1 = 0 then (FP.fconst0, (s2 μ 24 1 (0 : Int32))) else (FP.fdiv (FP.i2f y) (FP.i2f n1), (s2 μ 24 1 (0 : Int32))))) else (if (μ 25 ((350 : Int32) + x).toNatClampNeg) = (1 : Int32) then (if (μ 25 ((270 : Int32) + x).toNatClampNeg) < 0 then L_X10_lateShare_6 μ n n1 y (x + (1 : Int32)) else (if (F_X10_isBehind μ x) = 0 then L_X10_lateShare_6 μ n (n1 + (1 : Int32)) (y + (0 : Int32)) (x + (1 : Int32)) else L_X10_lateShare_6 μ n (n1 + (1 : Int32)) (y + (1 : Int32)) (x + (1 : Int32)))) else L_X10_lateShare_6 μ n n1 y (x + (1 : Int32))))
def F_X10_lateShare (μ : Sg) : UInt32 × Sg := L_X10_lateShare_6 μ 81 (0 : Int32) (0 : Int32) (0 : Int32)
abbrev rm_X10_lateShare : Room := { frames := 1, cells := 0, slots := 0, locals := 21 }
set_option maxRecDepth 100000 in
set_option maxHeartbeats 4000000 in
theorem m_X10_lateShare (l : Launch) (G : GG) (E : EE) (σ μ : Sg) (Y : va_W) (hM : MOKg (μ 25)) (hF : FNN) : KK l G yX10_lateShare cX10_lateShare 4 (some .float) rm_X10_lateShare [.ref (E.1 24)] (Wd G E σ μ Y) (some (.float (F_X10_lateShare μ).1)) (Wd G E σ (F_X10_lateShare μ).2 Y) := by
  refine KE.of (by decide) (Nat.le_of_ble_eq_true rfl) ?_
  intro zp ze zs zm za zb zt zc zA C _
  generalize hQ : MQ zb _ za zs _ _ zA = Q
  have loop_6 : ∀ (n : Nat) (n1 : Int32) (y : Int32) (x : Int32), (∃ j : Nat, x = nI j ∧ j ≤ 80 ∧ j + n = 81) → F_X10_lateShare μ = L_X10_lateShare_6 μ n n1 y x → V zp l ze rm_X10_lateShare zs zm za zb zt zc 4 G zA 0 0 Q 6 [(0, .ref (E.1 24)), (1, .int n1), (2, .int y), (3, .int x)] [] (Wd G E σ μ Y) := by
    intro n
    induction n with
    | zero =>
      intro n1 y x hI hL
      exact False.elim (by obtain ⟨j, _, h4, hn⟩ := hI; omega)
    | succ n ih =>
      intro n1 y x hI hL
      obtain ⟨j, ej, h4, hn⟩ := hI
      obtain ⟨mm, hm, em⟩ := hM.2.1
      refine v_iload_n C 3 rfl dX10_lateShare_6 ?_
      refine v_aload_n C 0 rfl dX10_lateShare_7 ?_
      refine v_get (v := .ref (E.1 25)) C fl_RX10_7 24 g_24 rfl dX10_lateShare_8 ?_
      refine v_bipush (v := (12 : Int32)) C (by decide) dX10_lateShare_11 ?_
      refine v_iald (v := μ 25 12) C 25 g_25 vi_12_1700 (rdl tn_12 rfl) dX10_lateShare_13 ?_
      refine v_icmp_ge (tgt := 69) C (by decide) dX10_lateShare_14 (fun h1 => ?_) (fun h1 => ?_)
      · refine v_aload_n C 0 rfl dX10_lateShare_69 ?_
        refine v_iload_n C 1 rfl dX10_lateShare_70 ?_
        refine v_if_ne (tgt := 78) C (by decide) dX10_lateShare_71 (fun h2 => ?_) (fun h2 => ?_)
        · refine v_iconst (v := (0 : Int32)) C (by decide) dX10_lateShare_78 ?_
          refine v_put C fp_RX10_39 24 g_24 rfl rfl (Nat.le_of_ble_eq_true rfl) (p_24_3 _) dX10_lateShare_79 ?_
          refine v_iload_n C 1 rfl dX10_lateShare_82 ?_
          refine v_if_ne (tgt := 90) C (by decide) dX10_lateShare_83 (fun h3 => ?_) (fun h3 => ?_)
          · refine v_iload_n C 2 rfl dX10_lateShare_90 ?_
            refine v_i2f C dX10_lateShare_91 ?_
            refine v_iload_n C 1 rfl dX10_lateShare_92 ?_
            refine v_i2f C dX10_lateShare_93 ?_
            refine v_fdiv C (hF.2.1 _ _ (by assumption)) dX10_lateShare_94 ?_
            have e1 : F_X10_lateShare μ = (FP.fdiv (FP.i2f y) (FP.i2f n1), (s2 μ 24 1 (0 : Int32))) := by rw [hL, L_X10_lateShare_6, if_pos h1, if_neg h2, if_neg h3]
            exact v_Q hQ (v_fret C () trivial (by rw [e1]) (by rw [e1]) (Nat.zero_le _) (Nat.zero_le _) dX10_lateShare_95)
          · refine v_fconst0 C dX10_lateShare_86 ?_
            refine v_goto (tgt := 95) C (by decide) dX10_lateShare_87 ?_
            have e1 : F_X10_lateShare μ = (FP.fconst0, (s2 μ 24 1 (0 : Int32))) := by rw [hL, L_X10_lateShare_6, if_pos h1, if_neg h2, if_pos h3]
            exact v_Q hQ (v_fret C () trivial (by rw [e1]) (by rw [e1]) (Nat.zero_le _) (Nat.zero_le _) dX10_lateShare_95)
        · refine v_iconst (v := (1 : Int32)) C (by decide) dX10_lateShare_74 ?_
          refine v_goto (tgt := 79) C (by decide) dX10_lateShare_75 ?_
          refine v_put C fp_RX10_39 24 g_24 rfl rfl (Nat.le_of_ble_eq_true rfl) (p_24_3 _) dX10_lateShare_79 ?_
          refine v_iload_n C 1 rfl dX10_lateShare_82 ?_
          refine v_if_ne (tgt := 90) C (by decide) dX10_lateShare_83 (fun h4 => ?_) (fun h4 => ?_)
          · refine v_iload_n C 2 rfl dX10_lateShare_90 ?_
            refine v_i2f C dX10_lateShare_91 ?_
            refine v_iload_n C 1 rfl dX10_lateShare_92 ?_
            refine v_i2f C dX10_lateShare_93 ?_
            refine v_fdiv C (hF.2.1 _ _ (by assumption)) dX10_lateShare_94 ?_
            have e1 : F_X10_lateShare μ = (FP.fdiv (FP.i2f y) (FP.i2f n1), (s2 μ 24 1 (1 : Int32))) := by rw [hL, L_X10_lateShare_6, if_pos h1, if_pos h2, if_neg h4]
            exact v_Q hQ (v_fret C () trivial (by rw [e1]) (by rw [e1]) (Nat.zero_le _) (Nat.zero_le _) dX10_lateShare_95)
          · refine v_fconst0 C dX10_lateShare_86 ?_
            refine v_goto (tgt := 95) C (by decide) dX10_lateShare_87 ?_
            have e1 : F_X10_lateShare μ = (FP.fconst0, (s2 μ 24 1 (1 : Int32))) := by rw [hL, L_X10_lateShare_6, if_pos h1, if_pos h2, if_pos h4]
            exact v_Q hQ (v_fret C () trivial (by rw [e1]) (by rw [e1]) (Nat.zero_le _) (Nat.zero_le _) dX10_lateShare_95)
      · refine v_aload_n C 0 rfl dX10_lateShare_17 ?_
        refine v_get (v := .ref (E.1 25)) C fl_RX10_7 24 g_24 rfl dX10_lateShare_18 ?_
        refine v_sipush (v := (350 : Int32)) C (by decide) dX10_lateShare_21 ?_
        refine v_iload_n C 3 rfl dX10_lateShare_24 ?_
        refine v_iadd C dX10_lateShare_25 ?_
        refine v_iald (v := μ 25 ((350 : Int32) + x).toNatClampNeg) C 25 g_25 (by have q := gt_of_nle em ej (by omega) (by omega) h1; exact vi_add 350 ej (by omega) (by decide)) rfl dX10_lateShare_26 ?_
        refine v_iconst (v := (1 : Int32)) C (by decide) dX10_lateShare_27 ?_
        refine v_icmp_ne (tgt := 63) C (by decide) dX10_lateShare_28 (fun h5 => ?_) (fun h5 => ?_)
        · refine v_iinc (v := x + (1 : Int32)) (lv' := [(3, .int (x + (1 : Int32))), (0, .ref (E.1 24)), (1, .int n1), (2, .int y)]) C 3 rfl rfl (Nat.le_of_ble_eq_true rfl) rfl dX10_lateShare_63 ?_
          refine v_goto (tgt := 6) C (by decide) dX10_lateShare_66 ?_
          refine v_lv [1, 2, 3, 0] rfl ?_
          exact ih n1 y (x + (1 : Int32)) (by have q := gt_of_nle em ej (by omega) (by omega) h1; exact ⟨j + 1, by rw [ej]; exact nI_1 j, by omega, by omega⟩) (by rw [hL, L_X10_lateShare_6, if_neg h1, if_neg h5])
        · refine v_aload_n C 0 rfl dX10_lateShare_31 ?_
          refine v_get (v := .ref (E.1 25)) C fl_RX10_7 24 g_24 rfl dX10_lateShare_32 ?_
          refine v_sipush (v := (270 : Int32)) C (by decide) dX10_lateShare_35 ?_
          refine v_iload_n C 3 rfl dX10_lateShare_38 ?_
          refine v_iadd C dX10_lateShare_39 ?_
          refine v_iald (v := μ 25 ((270 : Int32) + x).toNatClampNeg) C 25 g_25 (by have q := gt_of_nle em ej (by omega) (by omega) h1; exact vi_add 270 ej (by omega) (by decide)) rfl dX10_lateShare_40 ?_
          refine v_if_lt (tgt := 63) C (by decide) dX10_lateShare_41 (fun h6 => ?_) (fun h6 => ?_)
          · refine v_iinc (v := x + (1 : Int32)) (lv' := [(3, .int (x + (1 : Int32))), (0, .ref (E.1 24)), (1, .int n1), (2, .int y)]) C 3 rfl rfl (Nat.le_of_ble_eq_true rfl) rfl dX10_lateShare_63 ?_
            refine v_goto (tgt := 6) C (by decide) dX10_lateShare_66 ?_
            refine v_lv [1, 2, 3, 0] rfl ?_
            exact ih n1 y (x + (1 : Int32)) (by have q := gt_of_nle em ej (by omega) (by omega) h1; exact ⟨j + 1, by rw [ej]; exact nI_1 j, by omega, by omega⟩) (by rw [hL, L_X10_lateShare_6, if_neg h1, if_pos h5, if_pos h6])
          · refine v_iinc (v := n1 + (1 : Int32)) (lv' := [(1, .int (n1 + (1 : Int32))), (0, .ref (E.1 24)), (2, .int y), (3, .int x)]) C 1 rfl rfl (Nat.le_of_ble_eq_true rfl) rfl dX10_lateShare_44 ?_
            refine v_iload_n C 2 rfl dX10_lateShare_47 ?_
            refine v_aload_n C 1 rfl dX10_lateShare_48 ?_
            refine v_iload_n C 3 rfl dX10_lateShare_49 ?_
            refine v_cV1 (rest := [.int y]) C mv_RX10_192 (m_X10_isBehind l G E σ μ Y x (by have q := gt_of_nle em ej (by omega) (by omega) h1; exact ⟨j, by omega, ej⟩)) 24 g_24 rfl rfl rfl rfl (Nat.le_of_ble_eq_true rfl) ⟨Nat.le_of_ble_eq_true rfl, Nat.le_of_ble_eq_true rfl⟩ ⟨rfl, rfl⟩ ⟨Nat.zero_le _, Nat.zero_le _⟩ dX10_lateShare_50 ?_
            refine v_if_eq (tgt := 60) C (by decide) dX10_lateShare_53 (fun h7 => ?_) (fun h7 => ?_)
            · refine v_iconst (v := (0 : Int32)) C (by decide) dX10_lateShare_60 ?_
              refine v_iadd C dX10_lateShare_61 ?_
              refine v_istore_n (lv' := [(2, .int (y + (0 : Int32))), (1, .int (n1 + (1 : Int32))), (0, .ref (E.1 24)), (3, .int x)]) C (Nat.le_of_ble_eq_true rfl) rfl dX10_lateShare_62 ?_
              refine v_iinc (v := x + (1 : Int32)) (lv' := [(3, .int (x + (1 : Int32))), (2, .int (y + (0 : Int32))), (1, .int (n1 + (1 : Int32))), (0, .ref (E.1 24))]) C 3 rfl rfl (Nat.le_of_ble_eq_true rfl) rfl dX10_lateShare_63 ?_
              refine v_goto (tgt := 6) C (by decide) dX10_lateShare_66 ?_
              refine v_lv [3, 2, 1, 0] rfl ?_
              exact ih (n1 + (1 : Int32)) (y + (0 : Int32)) (x + (1 : Int32)) (by have q := gt_of_nle em ej (by omega) (by omega) h1; exact ⟨j + 1, by rw [ej]; exact nI_1 j, by omega, by omega⟩) (by rw [hL, L_X10_lateShare_6, if_neg h1, if_pos h5, if_neg h6, if_pos h7])
            · refine v_iconst (v := (1 : Int32)) C (by decide) dX10_lateShare_56 ?_
              refine v_goto (tgt := 61) C (by decide) dX10_lateShare_57 ?_
              refine v_iadd C dX10_lateShare_61 ?_
              refine v_istore_n (lv' := [(2, .int (y + (1 : Int32))), (1, .int (n1 + (1 : Int32))), (0, .ref (E.1 24)), (3, .int x)]) C (Nat.le_of_ble_eq_true rfl) rfl dX10_lateShare_62 ?_
              refine v_iinc (v := x + (1 : Int32)) (lv' := [(3, .int (x + (1 : Int32))), (2, .int (y + (1 : Int32))), (1, .int (n1 + (1 : Int32))), (0, .ref (E.1 24))]) C 3 rfl rfl (Nat.le_of_ble_eq_true rfl) rfl dX10_lateShare_63 ?_
              refine v_goto (tgt := 6) C (by decide) dX10_lateShare_66 ?_
              refine v_lv [3, 2, 1, 0] rfl ?_
              exact ih (n1 + (1 : Int32)) (y + (1 : Int32)) (x + (1 : Int32)) (by have q := gt_of_nle em ej (by omega) (by omega) h1; exact ⟨j + 1, by rw [ej]; exact nI_1 j, by omega, by omega⟩) (by rw [hL, L_X10_lateShare_6, if_neg h1, if_pos h5, if_neg h6, if_neg h7])
  show V zp l ze rm_X10_lateShare zs zm za zb zt zc 4 G zA 0 0 Q 0 [(0, .ref (E.1 24))] [] (Wd G E σ μ Y)
  refine v_iconst (v := (0 : Int32)) C (by decide) dX10_lateShare_0 ?_
  refine v_istore_n (lv' := [(1, .int (0 : Int32)), (0, .ref (E.1 24))]) C (Nat.le_of_ble_eq_true rfl) rfl dX10_lateShare_1 ?_
  refine v_iconst (v := (0 : Int32)) C (by decide) dX10_lateShare_2 ?_
  refine v_istore_n (lv' := [(2, .int (0 : Int32)), (1, .int (0 : Int32)), (0, .ref (E.1 24))]) C (Nat.le_of_ble_eq_true rfl) rfl dX10_lateShare_3 ?_
  refine v_iconst (v := (0 : Int32)) C (by decide) dX10_lateShare_4 ?_
  refine v_istore_n (lv' := [(3, .int (0 : Int32)), (2, .int (0 : Int32)), (1, .int (0 : Int32)), (0, .ref (E.1 24))]) C (Nat.le_of_ble_eq_true rfl) rfl dX10_lateShare_5 ?_
  refine v_lv [3, 2, 1, 0] rfl ?_
  exact loop_6 81 (0 : Int32) (0 : Int32) (0 : Int32) (⟨0, rfl, by omega, by omega⟩) (by rw [F_X10_lateShare])
def F_X9_utilization (σ : Sg) : UInt64 := (if (σ 2 4) = 0 then 0 else FP.ddiv (FP.i2d (((σ 2 6) + (σ 2 7)) + (σ 2 8))) (FP.i2d (σ 2 4)))
def X_X9_utilization (σ : Sg) : Nat := (if (σ 2 4) = 0 then 6 else 0)
abbrev rm_X9_utilization : Room := { frames := 6, cells := 1, slots := 6, locals := 120 }
set_option maxRecDepth 100000 in
set_option maxHeartbeats 4000000 in
theorem m_X9_utilization (l : Launch) (G : GG) (E : EE) (σ μ : Sg) (Y : va_W) (htr : l.stackTraces = false) (hF : FNN) : KX (S := Unit) l G yX9_utilization cX9_utilization 2 (some .double) rm_X9_utilization [.ref (E.1 0)] (Wd G E σ μ Y) (fun _ => (some (.double (F_X9_utilization σ)))) (fun _ => (Wd G E σ μ Y)) (fun _ => X_X9_utilization σ = 0) (Wd G E σ μ Y) (fun Ex => Ex = exn (X_X9_utilization σ) ∧ ¬ X_X9_utilization σ = 0) := by
  refine KX.of (by decide) (Nat.le_of_ble_eq_true rfl) ?_
  intro zp ze zs zm za zb zt zc zA C htab
  let Q := vx_MQ zb (QcW (S := Unit) G zA (fun _ => (some (.double (F_X9_utilization σ)))) (fun _ => (Wd G E σ μ Y)) (fun _ => X_X9_utilization σ = 0)) (XcW G zA (Wd G E σ μ Y) (fun Ex => Ex = exn (X_X9_utilization σ) ∧ ¬ X_X9_utilization σ = 0)) za zs rm_X9_utilization.cells rm_X9_utilization.slots zA
  show V zp l ze rm_X9_utilization zs zm za zb zt zc 2 G zA 0 0 Q 0 [(0, .ref (E.1 0))] [] (Wd G E σ μ Y)
  refine v_aload_n C 0 rfl dX9_utilization_0 ?_
  refine v_get (v := .ref (E.1 1)) C fl_RX9_10 0 g_0 rfl dX9_utilization_1 ?_
  refine v_get (v := .ref (E.1 2)) C fl_RX9_41 1 g_1 rfl dX9_utilization_4 ?_
  refine v_get (v := .int (σ 2 4)) C fl_RX9_146 2 g_2 rfl dX9_utilization_7 ?_
  refine v_if_ne (tgt := 24) C (by decide) dX9_utilization_10 (fun h1 => ?_) (fun h1 => ?_)
  · refine v_aload_n C 0 rfl dX9_utilization_24 ?_
    refine v_get (v := .ref (E.1 1)) C fl_RX9_10 0 g_0 rfl dX9_utilization_25 ?_
    refine v_get (v := .ref (E.1 2)) C fl_RX9_41 1 g_1 rfl dX9_utilization_28 ?_
    refine v_get (v := .int (σ 2 6)) C fl_RX9_290 2 g_2 rfl dX9_utilization_31 ?_
    refine v_aload_n C 0 rfl dX9_utilization_34 ?_
    refine v_get (v := .ref (E.1 1)) C fl_RX9_10 0 g_0 rfl dX9_utilization_35 ?_
    refine v_get (v := .ref (E.1 2)) C fl_RX9_41 1 g_1 rfl dX9_utilization_38 ?_
    refine v_get (v := .int (σ 2 7)) C fl_RX9_293 2 g_2 rfl dX9_utilization_41 ?_
    refine v_iadd C dX9_utilization_44 ?_
    refine v_aload_n C 0 rfl dX9_utilization_45 ?_
    refine v_get (v := .ref (E.1 1)) C fl_RX9_10 0 g_0 rfl dX9_utilization_46 ?_
    refine v_get (v := .ref (E.1 2)) C fl_RX9_41 1 g_1 rfl dX9_utilization_49 ?_
    refine v_get (v := .int (σ 2 8)) C fl_RX9_296 2 g_2 rfl dX9_utilization_52 ?_
    refine v_iadd C dX9_utilization_55 ?_
    refine v_istore_n (lv' := [(1, .int (((σ 2 6) + (σ 2 7)) + (σ 2 8))), (0, .ref (E.1 0))]) C (Nat.le_of_ble_eq_true rfl) rfl dX9_utilization_56 ?_
    refine v_iload_n C 0 rfl dX9_utilization_57 ?_
    refine v_i2d C dX9_utilization_58 ?_
    refine v_aload_n C 1 rfl dX9_utilization_59 ?_
    refine v_get (v := .ref (E.1 1)) C fl_RX9_10 0 g_0 rfl dX9_utilization_60 ?_
    refine v_get (v := .ref (E.1 2)) C fl_RX9_41 1 g_1 rfl dX9_utilization_63 ?_
    refine v_get (v := .int (σ 2 4)) C fl_RX9_146 2 g_2 rfl dX9_utilization_66 ?_
    refine v_i2d C dX9_utilization_69 ?_
    refine v_ddiv C (hF.1 _ _ (by assumption)) dX9_utilization_70 ?_
    have e1 : F_X9_utilization σ = FP.ddiv (FP.i2d (((σ 2 6) + (σ 2 7)) + (σ 2 8))) (FP.i2d (σ 2 4)) := by rw [F_X9_utilization, if_neg h1]
    have e2 : X_X9_utilization σ = 0 := by rw [X_X9_utilization, if_neg h1]
    exact v_X (v_dret C () e2 (by rw [e1]) rfl (Nat.le_of_ble_eq_true rfl) (Nat.le_of_ble_eq_true rfl) dX9_utilization_71)
  · have e1 : F_X9_utilization σ = 0 := by rw [F_X9_utilization, if_pos h1]
    have e2 : X_X9_utilization σ = 6 := by rw [X_X9_utilization, if_pos h1]
    exact v_throwSW C htab htr tx_6 (List.mem_of_getElem? (i := 25) rfl) (by show _ = _ ∧ _; rw [e2]; exact ⟨rfl, by decide⟩) (by first | with_reducible rfl | rw [e1]) dX9_utilization_13 dX9_utilization_16 dX9_utilization_17 dX9_utilization_20 dX9_utilization_23 ⟨Nat.le_of_ble_eq_true rfl, Nat.le_of_ble_eq_true rfl, Nat.le_of_ble_eq_true rfl, Nat.le_of_ble_eq_true rfl⟩ ⟨Nat.le_of_ble_eq_true rfl, Nat.le_of_ble_eq_true rfl⟩
def F_X9_averageResponse (σ : Sg) : UInt64 := (if (F_X6_countFinished σ) = 0 then 0 else FP.ddiv (FP.i2d (F_X6_sumOfResponses σ)) (FP.i2d (F_X6_countFinished σ)))
def X_X9_averageResponse (σ : Sg) : Nat := (if (F_X6_countFinished σ) = 0 then 6 else 0)
abbrev rm_X9_averageResponse : Room := { frames := 6, cells := 1, slots := 6, locals := 120 }
set_option maxRecDepth 100000 in
set_option maxHeartbeats 4000000 in
theorem m_X9_averageResponse (l : Launch) (G : GG) (E : EE) (σ μ : Sg) (Y : va_W) (htr : l.stackTraces = false) (hK : CNT E σ) (hF : FNN) : KX (S := Unit) l G yX9_averageResponse cX9_averageResponse 2 (some .double) rm_X9_averageResponse [.ref (E.1 0)] (Wd G E σ μ Y) (fun _ => (some (.double (F_X9_averageResponse σ)))) (fun _ => (Wd G E σ μ Y)) (fun _ => X_X9_averageResponse σ = 0) (Wd G E σ μ Y) (fun Ex => Ex = exn (X_X9_averageResponse σ) ∧ ¬ X_X9_averageResponse σ = 0) := by
  refine KX.of (by decide) (Nat.le_of_ble_eq_true rfl) ?_
  intro zp ze zs zm za zb zt zc zA C htab
  let Q := vx_MQ zb (QcW (S := Unit) G zA (fun _ => (some (.double (F_X9_averageResponse σ)))) (fun _ => (Wd G E σ μ Y)) (fun _ => X_X9_averageResponse σ = 0)) (XcW G zA (Wd G E σ μ Y) (fun Ex => Ex = exn (X_X9_averageResponse σ) ∧ ¬ X_X9_averageResponse σ = 0)) za zs rm_X9_averageResponse.cells rm_X9_averageResponse.slots zA
  show V zp l ze rm_X9_averageResponse zs zm za zb zt zc 2 G zA 0 0 Q 0 [(0, .ref (E.1 0))] [] (Wd G E σ μ Y)
  refine v_aload_n C 0 rfl dX9_averageResponse_0 ?_
  refine v_get (v := .ref (E.1 1)) C fl_RX9_10 0 g_0 rfl dX9_averageResponse_1 ?_
  refine v_get (v := .ref (E.1 5)) C fl_RX9_219 1 g_1 rfl dX9_averageResponse_4 ?_
  refine v_cV1 (rest := []) C mv_RX9_309 (m_X6_countFinished l G E σ μ Y hK) 5 g_5 rfl rfl rfl rfl (Nat.le_of_ble_eq_true rfl) ⟨Nat.le_of_ble_eq_true rfl, Nat.le_of_ble_eq_true rfl⟩ ⟨rfl, rfl⟩ ⟨Nat.le_of_ble_eq_true rfl, Nat.le_of_ble_eq_true rfl⟩ dX9_averageResponse_7 ?_
  refine v_istore_n (lv' := [(1, .int (F_X6_countFinished σ)), (0, .ref (E.1 0))]) C (Nat.le_of_ble_eq_true rfl) rfl dX9_averageResponse_10 ?_
  refine v_iload_n C 0 rfl dX9_averageResponse_11 ?_
  refine v_if_ne (tgt := 26) C (by decide) dX9_averageResponse_12 (fun h1 => ?_) (fun h1 => ?_)
  · refine v_aload_n C 1 rfl dX9_averageResponse_26 ?_
    refine v_get (v := .ref (E.1 1)) C fl_RX9_10 0 g_0 rfl dX9_averageResponse_27 ?_
    refine v_get (v := .ref (E.1 5)) C fl_RX9_219 1 g_1 rfl dX9_averageResponse_30 ?_
    refine v_cV1 (rest := []) C mv_RX9_315 (m_X6_sumOfResponses l G E σ μ Y hK) 5 g_5 rfl rfl rfl rfl (Nat.le_of_ble_eq_true rfl) ⟨Nat.le_of_ble_eq_true rfl, Nat.le_of_ble_eq_true rfl⟩ ⟨rfl, rfl⟩ ⟨Nat.le_of_ble_eq_true rfl, Nat.le_of_ble_eq_true rfl⟩ dX9_averageResponse_33 ?_
    refine v_i2d C dX9_averageResponse_36 ?_
    refine v_iload_n C 0 rfl dX9_averageResponse_37 ?_
    refine v_i2d C dX9_averageResponse_38 ?_
    refine v_ddiv C (hF.1 _ _ (by assumption)) dX9_averageResponse_39 ?_
    have e1 : F_X9_averageResponse σ = FP.ddiv (FP.i2d (F_X6_sumOfResponses σ)) (FP.i2d (F_X6_countFinished σ)) := by rw [F_X9_averageResponse, if_neg h1]
    have e2 : X_X9_averageResponse σ = 0 := by rw [X_X9_averageResponse, if_neg h1]
    exact v_X (v_dret C () e2 (by rw [e1]) rfl (Nat.le_of_ble_eq_true rfl) (Nat.le_of_ble_eq_true rfl) dX9_averageResponse_40)
  · have e1 : F_X9_averageResponse σ = 0 := by rw [F_X9_averageResponse, if_pos h1]
    have e2 : X_X9_averageResponse σ = 6 := by rw [X_X9_averageResponse, if_pos h1]
    exact v_throwSW C htab htr tx_6 (List.mem_of_getElem? (i := 26) rfl) (by show _ = _ ∧ _; rw [e2]; exact ⟨rfl, by decide⟩) (by first | with_reducible rfl | rw [e1]) dX9_averageResponse_15 dX9_averageResponse_18 dX9_averageResponse_19 dX9_averageResponse_22 dX9_averageResponse_25 ⟨Nat.le_of_ble_eq_true rfl, Nat.le_of_ble_eq_true rfl, Nat.le_of_ble_eq_true rfl, Nat.le_of_ble_eq_true rfl⟩ ⟨Nat.le_of_ble_eq_true rfl, Nat.le_of_ble_eq_true rfl⟩
def F_X9_lateShare (σ : Sg) : UInt32 := (if (F_X6_countFinishedWithDeadline σ) = 0 then 0 else FP.fdiv (FP.i2f (F_X6_countLate σ)) (FP.i2f (F_X6_countFinishedWithDeadline σ)))
def X_X9_lateShare (σ : Sg) : Nat := (if (F_X6_countFinishedWithDeadline σ) = 0 then 6 else 0)
abbrev rm_X9_lateShare : Room := { frames := 6, cells := 1, slots := 6, locals := 120 }
set_option maxRecDepth 100000 in
set_option maxHeartbeats 4000000 in
theorem m_X9_lateShare (l : Launch) (G : GG) (E : EE) (σ μ : Sg) (Y : va_W) (htr : l.stackTraces = false) (hK : CNT E σ) (hF : FNN) : KX (S := Unit) l G yX9_lateShare cX9_lateShare 2 (some .float) rm_X9_lateShare [.ref (E.1 0)] (Wd G E σ μ Y) (fun _ => (some (.float (F_X9_lateShare σ)))) (fun _ => (Wd G E σ μ Y)) (fun _ => X_X9_lateShare σ = 0) (Wd G E σ μ Y) (fun Ex => Ex = exn (X_X9_lateShare σ) ∧ ¬ X_X9_lateShare σ = 0) := by
  refine KX.of (by decide) (Nat.le_of_ble_eq_true rfl) ?_
  intro zp ze zs zm za zb zt zc zA C htab
  let Q := vx_MQ zb (QcW (S := Unit) G zA (fun _ => (some (.float (F_X9_lateShare σ)))) (fun _ => (Wd G E σ μ Y)) (fun _ => X_X9_lateShare σ = 0)) (XcW G zA (Wd G E σ μ Y) (fun Ex => Ex = exn (X_X9_lateShare σ) ∧ ¬ X_X9_lateShare σ = 0)) za zs rm_X9_lateShare.cells rm_X9_lateShare.slots zA
  show V zp l ze rm_X9_lateShare zs zm za zb zt zc 2 G zA 0 0 Q 0 [(0, .ref (E.1 0))] [] (Wd G E σ μ Y)
  refine v_aload_n C 0 rfl dX9_lateShare_0 ?_
  refine v_get (v := .ref (E.1 1)) C fl_RX9_10 0 g_0 rfl dX9_lateShare_1 ?_
  refine v_get (v := .ref (E.1 5)) C fl_RX9_219 1 g_1 rfl dX9_lateShare_4 ?_
  refine v_cV1 (rest := []) C mv_RX9_318 (m_X6_countFinishedWithDeadline l G E σ μ Y hK) 5 g_5 rfl rfl rfl rfl (Nat.le_of_ble_eq_true rfl) ⟨Nat.le_of_ble_eq_true rfl, Nat.le_of_ble_eq_true rfl⟩ ⟨rfl, rfl⟩ ⟨Nat.le_of_ble_eq_true rfl, Nat.le_of_ble_eq_true rfl⟩ dX9_lateShare_7 ?_
  refine v_istore_n (lv' := [(1, .int (F_X6_countFinishedWithDeadline σ)), (0, .ref (E.1 0))]) C (Nat.le_of_ble_eq_true rfl) rfl dX9_lateShare_10 ?_
  refine v_iload_n C 0 rfl dX9_lateShare_11 ?_
  refine v_if_ne (tgt := 26) C (by decide) dX9_lateShare_12 (fun h1 => ?_) (fun h1 => ?_)
  · refine v_aload_n C 1 rfl dX9_lateShare_26 ?_
    refine v_get (v := .ref (E.1 1)) C fl_RX9_10 0 g_0 rfl dX9_lateShare_27 ?_
    refine v_get (v := .ref (E.1 5)) C fl_RX9_219 1 g_1 rfl dX9_lateShare_30 ?_
    refine v_cV1 (rest := []) C mv_RX9_323 (m_X6_countLate l G E σ μ Y hK) 5 g_5 rfl rfl rfl rfl (Nat.le_of_ble_eq_true rfl) ⟨Nat.le_of_ble_eq_true rfl, Nat.le_of_ble_eq_true rfl⟩ ⟨rfl, rfl⟩ ⟨Nat.le_of_ble_eq_true rfl, Nat.le_of_ble_eq_true rfl⟩ dX9_lateShare_33 ?_
    refine v_i2f C dX9_lateShare_36 ?_
    refine v_iload_n C 0 rfl dX9_lateShare_37 ?_
    refine v_i2f C dX9_lateShare_38 ?_
    refine v_fdiv C (hF.2.1 _ _ (by assumption)) dX9_lateShare_39 ?_
    have e1 : F_X9_lateShare σ = FP.fdiv (FP.i2f (F_X6_countLate σ)) (FP.i2f (F_X6_countFinishedWithDeadline σ)) := by rw [F_X9_lateShare, if_neg h1]
    have e2 : X_X9_lateShare σ = 0 := by rw [X_X9_lateShare, if_neg h1]
    exact v_X (v_fret C () e2 (by rw [e1]) rfl (Nat.le_of_ble_eq_true rfl) (Nat.le_of_ble_eq_true rfl) dX9_lateShare_40)
  · have e1 : F_X9_lateShare σ = 0 := by rw [F_X9_lateShare, if_pos h1]
    have e2 : X_X9_lateShare σ = 6 := by rw [X_X9_lateShare, if_pos h1]
    exact v_throwSW C htab htr tx_6 (List.mem_of_getElem? (i := 27) rfl) (by show _ = _ ∧ _; rw [e2]; exact ⟨rfl, by decide⟩) (by first | with_reducible rfl | rw [e1]) dX9_lateShare_15 dX9_lateShare_18 dX9_lateShare_19 dX9_lateShare_22 dX9_lateShare_25 ⟨Nat.le_of_ble_eq_true rfl, Nat.le_of_ble_eq_true rfl, Nat.le_of_ble_eq_true rfl, Nat.le_of_ble_eq_true rfl⟩ ⟨Nat.le_of_ble_eq_true rfl, Nat.le_of_ble_eq_true rfl⟩
