theorem upd_upd {f : Nat → Int32} {j : Nat} {a b : Int32} : upd (upd f j a) j b = upd f j b := by
  funext i
  unfold upd
  split <;> rfl
theorem begin_zr {E : EE} {σ : Sg} {j : Nat} {b ar de : Int32} : F_X4_begin (zr E σ j) j b ar de = F_X4_begin σ j b ar de := by
  unfold F_X4_begin zr
  split
  · rfl
  · funext c
    by_cases h0 : c = 40
    · subst h0; simp [z5, s2, upd_upd]
    by_cases h1 : c = 41
    · subst h1; simp [z5, s2, upd_upd]
    by_cases h2 : c = 42
    · subst h2; simp [z5, s2, upd_upd]
    by_cases h3 : c = 43
    · subst h3; simp [z5, s2, upd_upd]
    by_cases h4 : c = 44
    · subst h4; simp [z5, s2, upd_upd]
    simp [z5, s2, h0, h1, h2, h3, h4]
def F_X6_add (σ : Sg) (cn : Nat) (b ar de : Int32) : Sg := s2 (s2 (F_X4_begin σ cn b ar de) 5 0 (σ 5 0 + 1)) 5 1 (σ 5 1 + 1)
abbrev rm_X6_add : Room := { frames := 4, cells := 1, slots := 6, locals := 130 }
set_option maxRecDepth 100000 in
set_option maxHeartbeats 1000000 in
theorem m_X6_add (l : Launch) (G : GG) (E : EE) (σ μ : Sg) (Y : va_W) (cn : Nat) (b ar de : Int32) (hc : σ 5 0 = nI cn) (hj : cn < 80) (hjK : cn ≤ E.2.2.1) : KE (S := Nat → Nat) l G yX6_add cX6_add 5 (some (.object "DiskArmSimulator$Request")) rm_X6_add [.ref (E.1 5), .int b, .int ar, .int de] (Wd G E σ μ Y) (fun u => some (.ref (u cn))) (fun u => Wd G (EK E u (max E.2.2.1 (cn + 1))) (F_X6_add σ cn b ar de) μ Y) (fun u => ∀ i, i < E.2.2.1 → u i = E.2.1 i) := by
  refine KE.of (S := Nat → Nat) (by decide) (Nat.le_of_ble_eq_true rfl) ?_
  intro zp ze zs zm za zb zt zc zA C _
  generalize hQ : MQ zb _ za zs _ _ zA = Q
  show V zp l ze rm_X6_add zs zm za zb zt zc 5 G zA 0 0 Q 0 [(0, .ref (E.1 5)), (1, .int b), (2, .int ar), (3, .int de)] [] (Wd G E σ μ Y)
  refine v_aload_n C 0 rfl dX6_add_0 ?_
  refine v_aload_n C 0 rfl dX6_add_1 ?_
  refine v_get (v := .int (nI cn)) C fl_RX6_17 5 g_5 (by rw [← hc]; rfl) dX6_add_2 ?_
  refine v_callV (rest := []) C mv_RX6_21 (m_X6_rowAt l G E σ μ Y cn hj hjK) 5 g_5 rfl rfl rfl rfl (Nat.le_of_ble_eq_true rfl) ⟨(Nat.le_of_ble_eq_true rfl), (Nat.le_of_ble_eq_true rfl)⟩ ⟨(Nat.le_of_ble_eq_true rfl), (Nat.le_of_ble_eq_true rfl)⟩ dX6_add_5 (fun u hu => ?_)
  have hlt : cn < (EK E u (max E.2.2.1 (cn + 1))).2.2.1 := Nat.lt_of_lt_of_le (Nat.lt_succ_self _) (Nat.le_max_right _ _)
  refine v_astore (lv' := [(4, .ref (u cn)), (0, .ref (E.1 5)), (1, .int b), (2, .int ar), (3, .int de)]) C (Nat.le_of_ble_eq_true rfl) rfl dX6_add_8 ?_
  refine v_aload C 0 rfl dX6_add_10 ?_
  refine v_ifnull C dX6_add_12 ?_
  refine v_aload C 0 rfl dX6_add_15 ?_
  refine v_iload_n C 2 rfl dX6_add_17 ?_
  refine v_iload_n C 3 rfl dX6_add_18 ?_
  refine v_iload_n C 4 rfl dX6_add_19 ?_
  refine v_cV0 (rest := []) C mv_RX6_45 (m_X4_begin l G (EK E u (max E.2.2.1 (cn + 1))) (zr E σ cn) μ Y cn b ar de hlt) (35 + cn) (g_row hlt) rfl rfl rfl rfl (Nat.le_of_ble_eq_true rfl) ⟨(Nat.le_of_ble_eq_true rfl), (Nat.le_of_ble_eq_true rfl)⟩ ⟨rfl, rfl⟩ ⟨(Nat.le_of_ble_eq_true rfl), (Nat.le_of_ble_eq_true rfl)⟩ dX6_add_20 ?_
  rw [begin_zr]
  refine v_aload_n C 1 rfl dX6_add_23 ?_
  refine v_dup C rfl dX6_add_24 ?_
  refine v_get (v := .int (σ 5 0)) C fl_RX6_17 5 g_5 rfl dX6_add_25 ?_
  refine v_iconst (v := (1 : Int32)) C (by decide) dX6_add_28 ?_
  refine v_iadd C dX6_add_29 ?_
  refine v_put C fp_RX6_17 5 g_5 rfl rfl (Nat.le_of_ble_eq_true rfl) (p_5_0 _) dX6_add_30 ?_
  refine v_aload_n C 1 rfl dX6_add_33 ?_
  refine v_dup C rfl dX6_add_34 ?_
  refine v_get (v := .int (σ 5 1)) C fl_RX6_29 5 g_5 rfl dX6_add_35 ?_
  refine v_iconst (v := (1 : Int32)) C (by decide) dX6_add_38 ?_
  refine v_iadd C dX6_add_39 ?_
  refine v_put C fp_RX6_29 5 g_5 rfl rfl (Nat.le_of_ble_eq_true rfl) (p_5_1 _) dX6_add_40 ?_
  refine v_aload C 0 rfl dX6_add_43 ?_
  exact v_Q hQ (v_aret C (Or.inr ⟨_, rfl⟩) u hu rfl rfl (Nat.le_of_ble_eq_true rfl) (Nat.le_of_ble_eq_true rfl) dX6_add_45)
def F_X8_accept (σ : Sg) (cn : Nat) (ki : Int32) (bk : Int32) (al : Int32) : Int32 × Sg := (if al = 0 then (if (F_X0_finishesAtOnce (F_X6_add σ cn bk (σ 2 4) (-1 : Int32)) ki bk) = 0 then (nI cn, (F_X6_add σ cn bk (σ 2 4) (-1 : Int32))) else (if ki = (1 : Int32) then (nI cn, (F_X0_makeDirty (F_X6_finishPending (F_X6_add σ cn bk (σ 2 4) (-1 : Int32)) cn (σ 2 4)) bk)) else (nI cn, (F_X6_finishPending (F_X6_add σ cn bk (σ 2 4) (-1 : Int32)) cn (σ 2 4))))) else (if (F_X0_finishesAtOnce (F_X6_add σ cn bk (σ 2 4) ((σ 2 4) + al)) ki bk) = 0 then (nI cn, (F_X6_add σ cn bk (σ 2 4) ((σ 2 4) + al))) else (if ki = (1 : Int32) then (nI cn, (F_X0_makeDirty (F_X6_finishPending (F_X6_add σ cn bk (σ 2 4) ((σ 2 4) + al)) cn (σ 2 4)) bk)) else (nI cn, (F_X6_finishPending (F_X6_add σ cn bk (σ 2 4) ((σ 2 4) + al)) cn (σ 2 4))))))
abbrev rm_X8_accept : Room := { frames := 5, cells := 1, slots := 6, locals := 154 }
set_option maxRecDepth 100000 in
set_option maxHeartbeats 4000000 in
theorem m_X8_accept (l : Launch) (G : GG) (E : EE) (σ μ : Sg) (Y : va_W) (cn : Nat) (ki : Int32) (bk : Int32) (al : Int32) (hc : σ 5 0 = nI cn) (hj : cn < 80) (hjK : cn ≤ E.2.2.1) : KE (S := Nat → Nat) l G yX8_accept cX8_accept 6 (some .int) rm_X8_accept [.ref (E.1 1), .int ki, .int bk, .int al] (Wd G E σ μ Y) (fun _ => (some (.int (F_X8_accept σ cn ki bk al).1))) (fun u => Wd G (EK E u (max E.2.2.1 (cn + 1))) (F_X8_accept σ cn ki bk al).2 μ Y) (fun u => ∀ i, i < E.2.2.1 → u i = E.2.1 i) := by
  refine KE.of (by decide) (Nat.le_of_ble_eq_true rfl) ?_
  intro zp ze zs zm za zb zt zc zA C _
  generalize hQ : MQ zb _ za zs _ _ zA = Q
  show V zp l ze rm_X8_accept zs zm za zb zt zc 6 G zA 0 0 Q 0 [(0, .ref (E.1 1)), (1, .int ki), (2, .int bk), (3, .int al)] [] (Wd G E σ μ Y)
  refine v_aload_n C 0 rfl dX8_accept_0 ?_
  refine v_get (v := .ref (E.1 2)) C fl_RX8_12 1 g_1 rfl dX8_accept_1 ?_
  refine v_get (v := .int (σ 2 4)) C fl_RX8_68 2 g_2 rfl dX8_accept_4 ?_
  refine v_istore (lv' := [(4, .int (σ 2 4)), (0, .ref (E.1 1)), (1, .int ki), (2, .int bk), (3, .int al)]) C (Nat.le_of_ble_eq_true rfl) rfl dX8_accept_7 ?_
  refine v_aload_n C 1 rfl dX8_accept_9 ?_
  refine v_get (v := .ref (E.1 5)) C fl_RX8_21 1 g_1 rfl dX8_accept_10 ?_
  refine v_iload_n C 3 rfl dX8_accept_13 ?_
  refine v_iload C 0 rfl dX8_accept_14 ?_
  refine v_iload_n C 4 rfl dX8_accept_16 ?_
  refine v_if_ne (tgt := 24) C (by decide) dX8_accept_17 (fun h1 => ?_) (fun h1 => ?_)
  · refine v_iload C 0 rfl dX8_accept_24 ?_
    refine v_iload_n C 4 rfl dX8_accept_26 ?_
    refine v_iadd C dX8_accept_27 ?_
    refine v_callV (rest := []) C mv_RX8_71 (m_X6_add l G E σ μ Y cn bk (σ 2 4) ((σ 2 4) + al) hc hj hjK) 5 g_5 rfl rfl rfl rfl (Nat.le_of_ble_eq_true rfl) ⟨Nat.le_of_ble_eq_true rfl, Nat.le_of_ble_eq_true rfl⟩ ⟨Nat.le_of_ble_eq_true rfl, Nat.le_of_ble_eq_true rfl⟩ dX8_accept_28 (fun u hu => ?_)
    have hlt : cn < (max E.2.2.1 (cn + 1)) := Nat.lt_of_lt_of_le (Nat.lt_succ_self _) (Nat.le_max_right _ _)
    refine v_astore (lv' := [(5, .ref (u cn)), (4, .int (σ 2 4)), (0, .ref (E.1 1)), (1, .int ki), (2, .int bk), (3, .int al)]) C (Nat.le_of_ble_eq_true rfl) rfl dX8_accept_31 ?_
    refine v_aload C 0 rfl dX8_accept_33 ?_
    refine v_ifnonnull (tgt := 40) C (by decide) dX8_accept_35 ?_
    refine v_aload_n C 2 rfl dX8_accept_40 ?_
    refine v_get (v := .ref (E.1 8)) C fl_RX8_35 1 g_1 rfl dX8_accept_41 ?_
    refine v_iload_n C 3 rfl dX8_accept_44 ?_
    refine v_iload_n C 4 rfl dX8_accept_45 ?_
    refine v_cV1 (rest := []) C mv_RX8_75 (m_X0_finishesAtOnce l G (EK E u (max E.2.2.1 (cn + 1))) (F_X6_add σ cn bk (σ 2 4) ((σ 2 4) + al)) μ Y ki bk) 8 g_8 rfl rfl rfl rfl (Nat.le_of_ble_eq_true rfl) ⟨Nat.le_of_ble_eq_true rfl, Nat.le_of_ble_eq_true rfl⟩ ⟨rfl, rfl⟩ ⟨Nat.le_of_ble_eq_true rfl, Nat.le_of_ble_eq_true rfl⟩ dX8_accept_46 ?_
    refine v_if_eq (tgt := 76) C (by decide) dX8_accept_49 (fun h2 => ?_) (fun h2 => ?_)
    · refine v_aload C 0 rfl dX8_accept_76 ?_
      refine v_get (v := .int (nI cn)) C fl_RX8_87 (35 + cn) (g_row (by assumption)) rfl dX8_accept_78 ?_
      have e1 : F_X8_accept σ cn ki bk al = (nI cn, (F_X6_add σ cn bk (σ 2 4) ((σ 2 4) + al))) := by rw [F_X8_accept, if_neg h1, if_pos h2]
      exact v_Q hQ (v_iret C u hu (by rw [e1]) (by rw [e1]) (Nat.le_of_ble_eq_true rfl) (Nat.le_of_ble_eq_true rfl) dX8_accept_81)
    · refine v_aload_n C 2 rfl dX8_accept_52 ?_
      refine v_get (v := .ref (E.1 5)) C fl_RX8_21 1 g_1 rfl dX8_accept_53 ?_
      refine v_aload C 0 rfl dX8_accept_56 ?_
      refine v_iload C 1 rfl dX8_accept_58 ?_
      refine v_cV0 (rest := []) C mv_RX8_79 (m_X6_finishPending l G (EK E u (max E.2.2.1 (cn + 1))) (F_X6_add σ cn bk (σ 2 4) ((σ 2 4) + al)) μ Y cn (σ 2 4) (by assumption)) 5 g_5 rfl rfl rfl rfl (Nat.le_of_ble_eq_true rfl) ⟨Nat.le_of_ble_eq_true rfl, Nat.le_of_ble_eq_true rfl⟩ ⟨rfl, rfl⟩ ⟨Nat.le_of_ble_eq_true rfl, Nat.le_of_ble_eq_true rfl⟩ dX8_accept_60 ?_
      refine v_iload_n C 3 rfl dX8_accept_63 ?_
      refine v_iconst (v := (1 : Int32)) C (by decide) dX8_accept_64 ?_
      refine v_icmp_ne (tgt := 76) C (by decide) dX8_accept_65 (fun h3 => ?_) (fun h3 => ?_)
      · refine v_aload C 0 rfl dX8_accept_76 ?_
        refine v_get (v := .int (nI cn)) C fl_RX8_87 (35 + cn) (g_row (by assumption)) rfl dX8_accept_78 ?_
        have e1 : F_X8_accept σ cn ki bk al = (nI cn, (F_X6_finishPending (F_X6_add σ cn bk (σ 2 4) ((σ 2 4) + al)) cn (σ 2 4))) := by rw [F_X8_accept, if_neg h1, if_neg h2, if_neg h3]
        exact v_Q hQ (v_iret C u hu (by rw [e1]) (by rw [e1]) (Nat.le_of_ble_eq_true rfl) (Nat.le_of_ble_eq_true rfl) dX8_accept_81)
      · refine v_aload_n C 2 rfl dX8_accept_68 ?_
        refine v_get (v := .ref (E.1 8)) C fl_RX8_35 1 g_1 rfl dX8_accept_69 ?_
        refine v_iload_n C 4 rfl dX8_accept_72 ?_
        refine v_cV0 (rest := []) C mv_RX8_83 (m_X0_makeDirty l G (EK E u (max E.2.2.1 (cn + 1))) (F_X6_finishPending (F_X6_add σ cn bk (σ 2 4) ((σ 2 4) + al)) cn (σ 2 4)) μ Y bk) 8 g_8 rfl rfl rfl rfl (Nat.le_of_ble_eq_true rfl) ⟨Nat.le_of_ble_eq_true rfl, Nat.le_of_ble_eq_true rfl⟩ ⟨rfl, rfl⟩ ⟨Nat.le_of_ble_eq_true rfl, Nat.le_of_ble_eq_true rfl⟩ dX8_accept_73 ?_
        refine v_aload C 0 rfl dX8_accept_76 ?_
        refine v_get (v := .int (nI cn)) C fl_RX8_87 (35 + cn) (g_row (by assumption)) rfl dX8_accept_78 ?_
        have e1 : F_X8_accept σ cn ki bk al = (nI cn, (F_X0_makeDirty (F_X6_finishPending (F_X6_add σ cn bk (σ 2 4) ((σ 2 4) + al)) cn (σ 2 4)) bk)) := by rw [F_X8_accept, if_neg h1, if_neg h2, if_pos h3]
        exact v_Q hQ (v_iret C u hu (by rw [e1]) (by rw [e1]) (Nat.le_of_ble_eq_true rfl) (Nat.le_of_ble_eq_true rfl) dX8_accept_81)
  · refine v_iconst (v := (-1 : Int32)) C (by decide) dX8_accept_20 ?_
    refine v_goto (tgt := 28) C (by decide) dX8_accept_21 ?_
    refine v_callV (rest := []) C mv_RX8_71 (m_X6_add l G E σ μ Y cn bk (σ 2 4) (-1 : Int32) hc hj hjK) 5 g_5 rfl rfl rfl rfl (Nat.le_of_ble_eq_true rfl) ⟨Nat.le_of_ble_eq_true rfl, Nat.le_of_ble_eq_true rfl⟩ ⟨Nat.le_of_ble_eq_true rfl, Nat.le_of_ble_eq_true rfl⟩ dX8_accept_28 (fun u hu => ?_)
    have hlt : cn < (max E.2.2.1 (cn + 1)) := Nat.lt_of_lt_of_le (Nat.lt_succ_self _) (Nat.le_max_right _ _)
    refine v_astore (lv' := [(5, .ref (u cn)), (4, .int (σ 2 4)), (0, .ref (E.1 1)), (1, .int ki), (2, .int bk), (3, .int al)]) C (Nat.le_of_ble_eq_true rfl) rfl dX8_accept_31 ?_
    refine v_aload C 0 rfl dX8_accept_33 ?_
    refine v_ifnonnull (tgt := 40) C (by decide) dX8_accept_35 ?_
    refine v_aload_n C 2 rfl dX8_accept_40 ?_
    refine v_get (v := .ref (E.1 8)) C fl_RX8_35 1 g_1 rfl dX8_accept_41 ?_
    refine v_iload_n C 3 rfl dX8_accept_44 ?_
    refine v_iload_n C 4 rfl dX8_accept_45 ?_
    refine v_cV1 (rest := []) C mv_RX8_75 (m_X0_finishesAtOnce l G (EK E u (max E.2.2.1 (cn + 1))) (F_X6_add σ cn bk (σ 2 4) (-1 : Int32)) μ Y ki bk) 8 g_8 rfl rfl rfl rfl (Nat.le_of_ble_eq_true rfl) ⟨Nat.le_of_ble_eq_true rfl, Nat.le_of_ble_eq_true rfl⟩ ⟨rfl, rfl⟩ ⟨Nat.le_of_ble_eq_true rfl, Nat.le_of_ble_eq_true rfl⟩ dX8_accept_46 ?_
    refine v_if_eq (tgt := 76) C (by decide) dX8_accept_49 (fun h4 => ?_) (fun h4 => ?_)
    · refine v_aload C 0 rfl dX8_accept_76 ?_
      refine v_get (v := .int (nI cn)) C fl_RX8_87 (35 + cn) (g_row (by assumption)) rfl dX8_accept_78 ?_
      have e1 : F_X8_accept σ cn ki bk al = (nI cn, (F_X6_add σ cn bk (σ 2 4) (-1 : Int32))) := by rw [F_X8_accept, if_pos h1, if_pos h4]
      exact v_Q hQ (v_iret C u hu (by rw [e1]) (by rw [e1]) (Nat.le_of_ble_eq_true rfl) (Nat.le_of_ble_eq_true rfl) dX8_accept_81)
    · refine v_aload_n C 2 rfl dX8_accept_52 ?_
      refine v_get (v := .ref (E.1 5)) C fl_RX8_21 1 g_1 rfl dX8_accept_53 ?_
      refine v_aload C 0 rfl dX8_accept_56 ?_
      refine v_iload C 1 rfl dX8_accept_58 ?_
      refine v_cV0 (rest := []) C mv_RX8_79 (m_X6_finishPending l G (EK E u (max E.2.2.1 (cn + 1))) (F_X6_add σ cn bk (σ 2 4) (-1 : Int32)) μ Y cn (σ 2 4) (by assumption)) 5 g_5 rfl rfl rfl rfl (Nat.le_of_ble_eq_true rfl) ⟨Nat.le_of_ble_eq_true rfl, Nat.le_of_ble_eq_true rfl⟩ ⟨rfl, rfl⟩ ⟨Nat.le_of_ble_eq_true rfl, Nat.le_of_ble_eq_true rfl⟩ dX8_accept_60 ?_
      refine v_iload_n C 3 rfl dX8_accept_63 ?_
      refine v_iconst (v := (1 : Int32)) C (by decide) dX8_accept_64 ?_
      refine v_icmp_ne (tgt := 76) C (by decide) dX8_accept_65 (fun h5 => ?_) (fun h5 => ?_)
      · refine v_aload C 0 rfl dX8_accept_76 ?_
        refine v_get (v := .int (nI cn)) C fl_RX8_87 (35 + cn) (g_row (by assumption)) rfl dX8_accept_78 ?_
        have e1 : F_X8_accept σ cn ki bk al = (nI cn, (F_X6_finishPending (F_X6_add σ cn bk (σ 2 4) (-1 : Int32)) cn (σ 2 4))) := by rw [F_X8_accept, if_pos h1, if_neg h4, if_neg h5]
        exact v_Q hQ (v_iret C u hu (by rw [e1]) (by rw [e1]) (Nat.le_of_ble_eq_true rfl) (Nat.le_of_ble_eq_true rfl) dX8_accept_81)
      · refine v_aload_n C 2 rfl dX8_accept_68 ?_
        refine v_get (v := .ref (E.1 8)) C fl_RX8_35 1 g_1 rfl dX8_accept_69 ?_
        refine v_iload_n C 4 rfl dX8_accept_72 ?_
        refine v_cV0 (rest := []) C mv_RX8_83 (m_X0_makeDirty l G (EK E u (max E.2.2.1 (cn + 1))) (F_X6_finishPending (F_X6_add σ cn bk (σ 2 4) (-1 : Int32)) cn (σ 2 4)) μ Y bk) 8 g_8 rfl rfl rfl rfl (Nat.le_of_ble_eq_true rfl) ⟨Nat.le_of_ble_eq_true rfl, Nat.le_of_ble_eq_true rfl⟩ ⟨rfl, rfl⟩ ⟨Nat.le_of_ble_eq_true rfl, Nat.le_of_ble_eq_true rfl⟩ dX8_accept_73 ?_
        refine v_aload C 0 rfl dX8_accept_76 ?_
        refine v_get (v := .int (nI cn)) C fl_RX8_87 (35 + cn) (g_row (by assumption)) rfl dX8_accept_78 ?_
        have e1 : F_X8_accept σ cn ki bk al = (nI cn, (F_X0_makeDirty (F_X6_finishPending (F_X6_add σ cn bk (σ 2 4) (-1 : Int32)) cn (σ 2 4)) bk)) := by rw [F_X8_accept, if_pos h1, if_neg h4, if_pos h5]
        exact v_Q hQ (v_iret C u hu (by rw [e1]) (by rw [e1]) (Nat.le_of_ble_eq_true rfl) (Nat.le_of_ble_eq_true rfl) dX8_accept_81)
