/-! the text of the reference -/
def TOK (t : Nat → Int32) : Prop := (∃ L : Nat, L ≤ 40 ∧ t 2 = nI L) ∧ ∃ q : Nat, q ≤ 40 ∧ t 3 = nI q
def F_X10_here (μ : Sg) : Int32 := (if (μ 24 2) ≤ (μ 24 3) then (-1 : Int32) else μ 27 (μ 24 3).toNatClampNeg)
abbrev rm_X10_here : Room := { frames := 0, cells := 0, slots := 0, locals := 0 }
set_option maxRecDepth 100000 in
set_option maxHeartbeats 4000000 in
theorem m_X10_here (l : Launch) (G : GG) (E : EE) (σ μ : Sg) (Y : va_W) (hT : TOK (μ 24)) : KK l G yX10_here cX10_here 1 (some .int) rm_X10_here [.ref (E.1 24)] (Wd G E σ μ Y) (some (.int (F_X10_here μ))) (Wd G E σ μ Y) := by
  refine KE.of (by decide) (Nat.le_of_ble_eq_true rfl) ?_
  intro zp ze zs zm za zb zt zc zA C _
  generalize hQ : MQ zb _ za zs _ _ zA = Q
  show V zp l ze rm_X10_here zs zm za zb zt zc 1 G zA 0 0 Q 0 [(0, .ref (E.1 24))] [] (Wd G E σ μ Y)
  refine v_aload_n C 0 rfl dX10_here_0 ?_
  refine v_get (v := .int (μ 24 3)) C fl_RX10_115 24 g_24 rfl dX10_here_1 ?_
  refine v_aload_n C 0 rfl dX10_here_4 ?_
  refine v_get (v := .int (μ 24 2)) C fl_RX10_112 24 g_24 rfl dX10_here_5 ?_
  refine v_icmp_ge (tgt := 23) C (by decide) dX10_here_8 (fun h1 => ?_) (fun h1 => ?_)
  · refine v_iconst (v := (-1 : Int32)) C (by decide) dX10_here_23 ?_
    have e1 : F_X10_here μ = (-1 : Int32) := by rw [F_X10_here, if_pos h1]
    exact v_Q hQ (v_iret C () trivial (by rw [e1]) rfl (Nat.zero_le _) (Nat.zero_le _) dX10_here_24)
  · refine v_aload_n C 0 rfl dX10_here_11 ?_
    refine v_get (v := .ref (E.1 27)) C fl_RX10_16 24 g_24 rfl dX10_here_12 ?_
    refine v_aload_n C 0 rfl dX10_here_15 ?_
    refine v_get (v := .int (μ 24 3)) C fl_RX10_115 24 g_24 rfl dX10_here_16 ?_
    refine v_iald (v := μ 27 (μ 24 3).toNatClampNeg) C 27 g_27 (by obtain ⟨⟨L, hL, eL⟩, q, hq, eq⟩ := hT; have := gt_of_nle eL eq (by omega) (by omega) h1; exact vi_x eq (by omega) (by decide)) rfl dX10_here_19 ?_
    refine v_goto (tgt := 24) C (by decide) dX10_here_20 ?_
    have e1 : F_X10_here μ = μ 27 (μ 24 3).toNatClampNeg := by rw [F_X10_here, if_neg h1]
    exact v_Q hQ (v_iret C () trivial (by rw [e1]) rfl (Nat.zero_le _) (Nat.zero_le _) dX10_here_24)
def F_X10_skips (μ : Sg) (ch : Int32) : Int32 × Sg := (if (F_X10_here μ) = ch then ((1 : Int32), (s2 μ 24 3 ((μ 24 3) + (1 : Int32)))) else ((0 : Int32), μ))
theorem z01_X10_skips (μ : Sg) (ch : Int32) : (F_X10_skips μ ch).1 = 0 ∨ (F_X10_skips μ ch).1 = 1 := by
  unfold F_X10_skips; (repeat' split) <;> first | exact Or.inl rfl | exact Or.inr rfl
abbrev rm_X10_skips : Room := { frames := 1, cells := 0, slots := 0, locals := 20 }
set_option maxRecDepth 100000 in
set_option maxHeartbeats 4000000 in
theorem m_X10_skips (l : Launch) (G : GG) (E : EE) (σ μ : Sg) (Y : va_W) (ch : Int32) (hT : TOK (μ 24)) : KK l G yX10_skips cX10_skips 2 (some .boolean) rm_X10_skips [.ref (E.1 24), .int ch] (Wd G E σ μ Y) (some (.int (F_X10_skips μ ch).1)) (Wd G E σ (F_X10_skips μ ch).2 Y) := by
  refine KE.of (by decide) (Nat.le_of_ble_eq_true rfl) ?_
  intro zp ze zs zm za zb zt zc zA C _
  generalize hQ : MQ zb _ za zs _ _ zA = Q
  show V zp l ze rm_X10_skips zs zm za zb zt zc 2 G zA 0 0 Q 0 [(0, .ref (E.1 24)), (1, .int ch)] [] (Wd G E σ μ Y)
  refine v_aload_n C 0 rfl dX10_skips_0 ?_
  refine v_cV1 (rest := []) C mv_RX10_118 (m_X10_here l G E σ μ Y hT) 24 g_24 rfl rfl rfl rfl (Nat.le_of_ble_eq_true rfl) ⟨Nat.le_of_ble_eq_true rfl, Nat.le_of_ble_eq_true rfl⟩ ⟨rfl, rfl⟩ ⟨Nat.zero_le _, Nat.zero_le _⟩ dX10_skips_1 ?_
  refine v_iload_n C 1 rfl dX10_skips_4 ?_
  refine v_icmp_eq (tgt := 10) C (by decide) dX10_skips_5 (fun h1 => ?_) (fun h1 => ?_)
  · refine v_aload_n C 0 rfl dX10_skips_10 ?_
    refine v_dup C rfl dX10_skips_11 ?_
    refine v_get (v := .int (μ 24 3)) C fl_RX10_115 24 g_24 rfl dX10_skips_12 ?_
    refine v_iconst (v := (1 : Int32)) C (by decide) dX10_skips_15 ?_
    refine v_iadd C dX10_skips_16 ?_
    refine v_put C fp_RX10_115 24 g_24 rfl rfl (Nat.le_of_ble_eq_true rfl) (p_24_6 _) dX10_skips_17 ?_
    refine v_iconst (v := (1 : Int32)) C (by decide) dX10_skips_20 ?_
    have e1 : F_X10_skips μ ch = ((1 : Int32), (s2 μ 24 3 ((μ 24 3) + (1 : Int32)))) := by rw [F_X10_skips, if_pos h1]
    exact v_Q hQ (v_zret C rfl () trivial (by rw [e1]) (by rw [e1]) (Nat.zero_le _) (Nat.zero_le _) dX10_skips_21)
  · refine v_iconst (v := (0 : Int32)) C (by decide) dX10_skips_8 ?_
    have e1 : F_X10_skips μ ch = ((0 : Int32), μ) := by rw [F_X10_skips, if_neg h1]
    exact v_Q hQ (v_zret C rfl () trivial (by rw [e1]) (by rw [e1]) (Nat.zero_le _) (Nat.zero_le _) dX10_skips_9)
theorem here_in {μ : Sg} (hT : TOK (μ 24)) (h : ¬ F_X10_here μ = -1) : ∃ q L : Nat, L ≤ 40 ∧ μ 24 2 = nI L ∧ μ 24 3 = nI q ∧ q < L ∧ F_X10_here μ = μ 27 q := by
  obtain ⟨⟨L, hL, eL⟩, q, hq, eq⟩ := hT
  unfold F_X10_here at h ⊢
  by_cases h1 : μ 24 2 ≤ μ 24 3
  · rw [if_pos h1] at h; exact absurd rfl h
  · have := gt_of_nle eL eq (by omega) (by omega) h1
    refine ⟨q, L, hL, eL, eq, this, ?_⟩
    rw [if_neg h1, eq, nI_clamp (by omega)]
theorem TOK.adv {μ : Sg} {a : Int32} (hT : TOK (μ 24)) (h : ¬ F_X10_here μ = -1) : TOK (s2 (s2 μ 24 4 a) 24 3 ((μ 24 3) + (1 : Int32)) 24) := by
  obtain ⟨q, L, hL, eL, eq, hlt, -⟩ := here_in hT h
  refine ⟨⟨L, hL, ?_⟩, q + 1, by omega, ?_⟩
  · exact eL
  · rw [s2_e, eq]; exact nI_1 q
theorem in_ne {v : Int32} (h : ¬ F_X10_in v 48 57 = 0) : ¬ v = -1 := by
  intro e
  rw [e] at h
  exact h (by decide)
/-- skips: not the character, nothing; else one further -/
theorem skips_no {μ : Sg} {ch : Int32} (h : (F_X10_skips μ ch).1 = 0) : (F_X10_skips μ ch).2 = μ ∧ ¬ F_X10_here μ = ch := by
  unfold F_X10_skips at h ⊢
  by_cases q : F_X10_here μ = ch
  · rw [if_pos q] at h; exact absurd (show (1 : Int32) = 0 from h) (by decide)
  · rw [if_neg q]; exact ⟨rfl, q⟩
theorem skips_yes {μ : Sg} {ch : Int32} (h : ¬ (F_X10_skips μ ch).1 = 0) : (F_X10_skips μ ch).2 = s2 μ 24 3 ((μ 24 3) + (1 : Int32)) ∧ F_X10_here μ = ch := by
  unfold F_X10_skips at h ⊢
  by_cases q : F_X10_here μ = ch
  · rw [if_pos q]; exact ⟨rfl, q⟩
  · rw [if_neg q] at h; exact absurd rfl h
theorem TOK.adv1 {μ : Sg} (hT : TOK (μ 24)) (h : ¬ F_X10_here μ = -1) : TOK (s2 μ 24 3 ((μ 24 3) + (1 : Int32)) 24) := by
  obtain ⟨q, L, hL, eL, eq, hlt, -⟩ := here_in hT h
  exact ⟨⟨L, hL, eL⟩, q + 1, by omega, by rw [s2_e, eq]; exact nI_1 q⟩
theorem TOK.skips {μ : Sg} {ch : Int32} (hT : TOK (μ 24)) (hc : ¬ ch = -1) : TOK ((F_X10_skips μ ch).2 24) := by
  by_cases h : (F_X10_skips μ ch).1 = 0
  · rw [(skips_no h).1]; exact hT
  · obtain ⟨a, b⟩ := skips_yes h
    rw [a]; exact hT.adv1 (by rw [b]; exact hc)
theorem skips_fr {μ : Sg} {ch : Int32} : (∀ c, c ≠ 24 → (F_X10_skips μ ch).2 c = μ c) ∧ (F_X10_skips μ ch).2 24 6 = μ 24 6 ∧ (F_X10_skips μ ch).2 24 2 = μ 24 2 := by
  by_cases h : (F_X10_skips μ ch).1 = 0
  · rw [(skips_no h).1]; exact ⟨fun _ _ => rfl, rfl, rfl⟩
  · rw [(skips_yes h).1]; exact ⟨fun c hc => s2_o hc, rfl, rfl⟩
def L_X10_digits_7 (μ : Sg) (mo : Int32) : Nat → Int32 → Sg → Int32 × Sg
  | 0, _, _ => (0, μ)
  | n + 1, x, μ1 => (if mo ≤ x then (if x ≤ 0 then ((0 : Int32), μ1) else ((1 : Int32), μ1)) else (if (F_X10_in (F_X10_here μ1) (48 : Int32) (57 : Int32)) = 0 then (if x ≤ 0 then ((0 : Int32), μ1) else ((1 : Int32), μ1)) else L_X10_digits_7 μ mo n (x + (1 : Int32)) (s2 (s2 μ1 24 4 ((((10 : Int32) * (μ1 24 4)) + (F_X10_here μ1)) - (48 : Int32))) 24 3 ((μ1 24 3) + (1 : Int32)))))
def F_X10_digits (μ : Sg) (mo : Int32) : Int32 × Sg := L_X10_digits_7 μ mo 5 (0 : Int32) (s2 μ 24 4 (0 : Int32))
theorem z01_X10_digits (μ : Sg) (mo : Int32) : (F_X10_digits μ mo).1 = 0 ∨ (F_X10_digits μ mo).1 = 1 := by
  have h : ∀ (n : Nat) (x : Int32) (μ1 : Sg), (L_X10_digits_7 μ mo n x μ1).1 = 0 ∨ (L_X10_digits_7 μ mo n x μ1).1 = 1 := by
    intro n
    induction n with
    | zero => intro x μ1; exact Or.inl rfl
    | succ n ih => intro x μ1; rw [L_X10_digits_7]; (repeat' split) <;> first | exact Or.inl rfl | exact Or.inr rfl | exact ih _ _
  exact h _ _ _
abbrev rm_X10_digits : Room := { frames := 1, cells := 0, slots := 0, locals := 22 }
set_option maxRecDepth 100000 in
set_option maxHeartbeats 4000000 in
theorem m_X10_digits (l : Launch) (G : GG) (E : EE) (σ μ : Sg) (Y : va_W) (mo : Int32) (hT : TOK (μ 24)) (hm : ∃ m : Nat, m ≤ 4 ∧ mo = nI m) : KK l G yX10_digits cX10_digits 3 (some .boolean) rm_X10_digits [.ref (E.1 24), .int mo] (Wd G E σ μ Y) (some (.int (F_X10_digits μ mo).1)) (Wd G E σ (F_X10_digits μ mo).2 Y) := by
  refine KE.of (by decide) (Nat.le_of_ble_eq_true rfl) ?_
  intro zp ze zs zm za zb zt zc zA C _
  generalize hQ : MQ zb _ za zs _ _ zA = Q
  have loop_7 : ∀ (n : Nat) (x : Int32) (μ1 : Sg), ((∃ j : Nat, x = nI j ∧ j ≤ 4 ∧ j + n = 5) ∧ TOK (μ1 24)) → F_X10_digits μ mo = L_X10_digits_7 μ mo n x μ1 → V zp l ze rm_X10_digits zs zm za zb zt zc 3 G zA 0 0 Q 7 [(0, .ref (E.1 24)), (1, .int mo), (2, .int x)] [] (Wd G E σ μ1 Y) := by
    intro n
    induction n with
    | zero =>
      intro x μ1 hI hL
      exact False.elim (by obtain ⟨⟨j, _, h4, hn⟩, _⟩ := hI; omega)
    | succ n ih =>
      intro x μ1 hI hL
      obtain ⟨⟨j, ej, h4, hn⟩, hT1⟩ := hI
      obtain ⟨m4, hm4, em4⟩ := hm
      refine v_iload_n C 2 rfl dX10_digits_7 ?_
      refine v_iload_n C 1 rfl dX10_digits_8 ?_
      refine v_icmp_ge (tgt := 61) C (by decide) dX10_digits_9 (fun h1 => ?_) (fun h1 => ?_)
      · refine v_iload_n C 2 rfl dX10_digits_61 ?_
        refine v_if_le (tgt := 69) C (by decide) dX10_digits_62 (fun h2 => ?_) (fun h2 => ?_)
        · refine v_iconst (v := (0 : Int32)) C (by decide) dX10_digits_69 ?_
          have e1 : F_X10_digits μ mo = ((0 : Int32), μ1) := by rw [hL, L_X10_digits_7, if_pos h1, if_pos h2]
          exact v_Q hQ (v_zret C rfl () trivial (by rw [e1]) (by rw [e1]) (Nat.zero_le _) (Nat.zero_le _) dX10_digits_70)
        · refine v_iconst (v := (1 : Int32)) C (by decide) dX10_digits_65 ?_
          refine v_goto (tgt := 70) C (by decide) dX10_digits_66 ?_
          have e1 : F_X10_digits μ mo = ((1 : Int32), μ1) := by rw [hL, L_X10_digits_7, if_pos h1, if_neg h2]
          exact v_Q hQ (v_zret C rfl () trivial (by rw [e1]) (by rw [e1]) (Nat.zero_le _) (Nat.zero_le _) dX10_digits_70)
      · refine v_aload_n C 0 rfl dX10_digits_12 ?_
        refine v_cV1 (rest := []) C mv_RX10_118 (m_X10_here l G E σ μ1 Y hT1) 24 g_24 rfl rfl rfl rfl (Nat.le_of_ble_eq_true rfl) ⟨Nat.le_of_ble_eq_true rfl, Nat.le_of_ble_eq_true rfl⟩ ⟨rfl, rfl⟩ ⟨Nat.zero_le _, Nat.zero_le _⟩ dX10_digits_13 ?_
        refine v_bipush (v := (48 : Int32)) C (by decide) dX10_digits_16 ?_
        refine v_bipush (v := (57 : Int32)) C (by decide) dX10_digits_18 ?_
        refine v_cS1 (rest := []) C ms_RX10_42 (m_X10_in l G E σ μ1 Y (F_X10_here μ1) (48 : Int32) (57 : Int32)) rfl rfl (Nat.le_of_ble_eq_true rfl) ⟨Nat.le_of_ble_eq_true rfl, Nat.le_of_ble_eq_true rfl⟩ ⟨rfl, rfl⟩ ⟨Nat.zero_le _, Nat.zero_le _⟩ dX10_digits_20 ?_
        refine v_if_eq (tgt := 61) C (by decide) dX10_digits_23 (fun h3 => ?_) (fun h3 => ?_)
        · refine v_iload_n C 2 rfl dX10_digits_61 ?_
          refine v_if_le (tgt := 69) C (by decide) dX10_digits_62 (fun h4 => ?_) (fun h4 => ?_)
          · refine v_iconst (v := (0 : Int32)) C (by decide) dX10_digits_69 ?_
            have e1 : F_X10_digits μ mo = ((0 : Int32), μ1) := by rw [hL, L_X10_digits_7, if_neg h1, if_pos h3, if_pos h4]
            exact v_Q hQ (v_zret C rfl () trivial (by rw [e1]) (by rw [e1]) (Nat.zero_le _) (Nat.zero_le _) dX10_digits_70)
          · refine v_iconst (v := (1 : Int32)) C (by decide) dX10_digits_65 ?_
            refine v_goto (tgt := 70) C (by decide) dX10_digits_66 ?_
            have e1 : F_X10_digits μ mo = ((1 : Int32), μ1) := by rw [hL, L_X10_digits_7, if_neg h1, if_pos h3, if_neg h4]
            exact v_Q hQ (v_zret C rfl () trivial (by rw [e1]) (by rw [e1]) (Nat.zero_le _) (Nat.zero_le _) dX10_digits_70)
        · refine v_aload_n C 0 rfl dX10_digits_26 ?_
          refine v_bipush (v := (10 : Int32)) C (by decide) dX10_digits_27 ?_
          refine v_aload_n C 0 rfl dX10_digits_29 ?_
          refine v_get (v := .int (μ1 24 4)) C fl_RX10_121 24 g_24 rfl dX10_digits_30 ?_
          refine v_imul C dX10_digits_33 ?_
          refine v_aload_n C 0 rfl dX10_digits_34 ?_
          refine v_cV1 (rest := [.int ((10 : Int32) * (μ1 24 4)), .ref (E.1 24)]) C mv_RX10_118 (m_X10_here l G E σ μ1 Y hT1) 24 g_24 rfl rfl rfl rfl (Nat.le_of_ble_eq_true rfl) ⟨Nat.le_of_ble_eq_true rfl, Nat.le_of_ble_eq_true rfl⟩ ⟨rfl, rfl⟩ ⟨Nat.zero_le _, Nat.zero_le _⟩ dX10_digits_35 ?_
          refine v_iadd C dX10_digits_38 ?_
          refine v_bipush (v := (48 : Int32)) C (by decide) dX10_digits_39 ?_
          refine v_isub C dX10_digits_41 ?_
          refine v_put C fp_RX10_121 24 g_24 rfl rfl (Nat.le_of_ble_eq_true rfl) (p_24_7 _) dX10_digits_42 ?_
          refine v_aload_n C 0 rfl dX10_digits_45 ?_
          refine v_dup C rfl dX10_digits_46 ?_
          refine v_get (v := .int (μ1 24 3)) C fl_RX10_115 24 g_24 rfl dX10_digits_47 ?_
          refine v_iconst (v := (1 : Int32)) C (by decide) dX10_digits_50 ?_
          refine v_iadd C dX10_digits_51 ?_
          refine v_put C fp_RX10_115 24 g_24 rfl rfl (Nat.le_of_ble_eq_true rfl) (p_24_6 _) dX10_digits_52 ?_
          refine v_iinc (v := x + (1 : Int32)) (lv' := [(2, .int (x + (1 : Int32))), (0, .ref (E.1 24)), (1, .int mo)]) C 2 rfl rfl (Nat.le_of_ble_eq_true rfl) rfl dX10_digits_55 ?_
          refine v_goto (tgt := 7) C (by decide) dX10_digits_58 ?_
          refine v_lv [1, 2, 0] rfl ?_
          exact ih (x + (1 : Int32)) (s2 (s2 μ1 24 4 ((((10 : Int32) * (μ1 24 4)) + (F_X10_here μ1)) - (48 : Int32))) 24 3 ((μ1 24 3) + (1 : Int32))) (by have q := gt_of_nle em4 ej (by omega) (by omega) h1; exact ⟨⟨j + 1, by rw [ej]; exact nI_1 j, by omega, by omega⟩, hT1.adv (in_ne h3)⟩) (by rw [hL, L_X10_digits_7, if_neg h1, if_neg h3])
  show V zp l ze rm_X10_digits zs zm za zb zt zc 3 G zA 0 0 Q 0 [(0, .ref (E.1 24)), (1, .int mo)] [] (Wd G E σ μ Y)
  refine v_aload_n C 0 rfl dX10_digits_0 ?_
  refine v_iconst (v := (0 : Int32)) C (by decide) dX10_digits_1 ?_
  refine v_put C fp_RX10_121 24 g_24 rfl rfl (Nat.le_of_ble_eq_true rfl) (p_24_7 _) dX10_digits_2 ?_
  refine v_iconst (v := (0 : Int32)) C (by decide) dX10_digits_5 ?_
  refine v_istore_n (lv' := [(2, .int (0 : Int32)), (0, .ref (E.1 24)), (1, .int mo)]) C (Nat.le_of_ble_eq_true rfl) rfl dX10_digits_6 ?_
  refine v_lv [1, 2, 0] rfl ?_
  exact loop_7 5 (0 : Int32) (s2 μ 24 4 (0 : Int32)) (⟨⟨0, rfl, by omega, by omega⟩, hT⟩) (by rw [F_X10_digits])
theorem L_digits_fr {μ : Sg} {mo : Int32} : ∀ (n : Nat) (x : Int32) (μ1 : Sg), (∀ c, c ≠ 24 → μ1 c = μ c) → μ1 24 6 = μ 24 6 → μ1 24 2 = μ 24 2 → TOK (μ1 24) → TOK (μ 24) → ((∀ c, c ≠ 24 → (L_X10_digits_7 μ mo n x μ1).2 c = μ c) ∧ (L_X10_digits_7 μ mo n x μ1).2 24 6 = μ 24 6 ∧ (L_X10_digits_7 μ mo n x μ1).2 24 2 = μ 24 2) ∧ TOK ((L_X10_digits_7 μ mo n x μ1).2 24) := by
  intro n
  induction n with
  | zero => intro x μ1 h1 h2 h3 h4 h5; exact ⟨⟨fun _ _ => rfl, rfl, rfl⟩, h5⟩
  | succ n ih =>
    intro x μ1 h1 h2 h3 h4 h5
    rw [L_X10_digits_7]
    split
    · split <;> exact ⟨⟨h1, h2, h3⟩, h4⟩
    · split
      · split <;> exact ⟨⟨h1, h2, h3⟩, h4⟩
      · rename_i h
        exact ih _ _ (fun c hc => (s2_o hc).trans ((s2_o hc).trans (h1 c hc))) h2 h3 (h4.adv (in_ne h)) h5
theorem digits_fr {μ : Sg} {mo : Int32} (hT : TOK (μ 24)) : ((∀ c, c ≠ 24 → (F_X10_digits μ mo).2 c = μ c) ∧ (F_X10_digits μ mo).2 24 6 = μ 24 6 ∧ (F_X10_digits μ mo).2 24 2 = μ 24 2) ∧ TOK ((F_X10_digits μ mo).2 24) := by
  unfold F_X10_digits
  exact L_digits_fr (μ := μ) (mo := mo) 5 0 (s2 μ 24 4 0) (fun c hc => s2_o hc) rfl rfl hT hT
