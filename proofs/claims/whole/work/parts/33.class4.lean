/-! a component set whole -/
def sC (σ : Sg) (i : Nat) (f : Nat → Int32) : Sg := fun j => if j = i then f else σ j
theorem sC_n {σ : Sg} {i j : Nat} {f : Nat → Int32} (h : j ≠ i) : sC σ i f j = σ j := by simp [sC, h]
theorem sC_e {σ : Sg} {i : Nat} {f : Nat → Int32} : sC σ i f i = f := by simp [sC]
abbrev rm_X9_copyNumbers : Room := { frames := 1, cells := 0, slots := 0, locals := 60 }
def F_X9_copyNumbers_17_18 (σ : Sg) : Sg := sC σ 18 (va_cpy (σ 17) (σ 18) 0 0 6)
set_option maxRecDepth 100000 in
theorem m_X9_copyNumbers_17_18 (l : Launch) (G : GG) (E : EE) (σ μ : Sg) (Y : va_W) : KK l G yX9_copyNumbers cX9_copyNumbers 2 none rm_X9_copyNumbers [.ref (E.1 17), .ref (E.1 18)] (Wd G E σ μ Y) none (Wd G E (F_X9_copyNumbers_17_18 σ) μ Y) := by
  refine KE.of (by decide) (Nat.le_of_ble_eq_true rfl) ?_
  intro zp ze zs zm za zb zt zc zA C _
  generalize hQ : MQ zb _ za zs _ _ zA = Q
  show V zp l ze rm_X9_copyNumbers zs zm za zb zt zc 2 G zA 0 0 Q 0 [(0, .ref (E.1 17)), (1, .ref (E.1 18))] [] (Wd G E σ μ Y)
  refine v_aload_n C 0 rfl dX9_copyNumbers_0 ?_
  refine v_iconst (v := (0 : Int32)) C (by decide) dX9_copyNumbers_1 ?_
  refine v_aload_n C 1 rfl dX9_copyNumbers_2 ?_
  refine v_iconst (v := (0 : Int32)) C (by decide) dX9_copyNumbers_3 ?_
  refine v_aload_n C 0 rfl dX9_copyNumbers_4 ?_
  refine v_alen (v := (6 : Int32)) C 17 0 g_17 rfl rfl dX9_copyNumbers_5 ?_
  refine v_aload_n C 1 rfl dX9_copyNumbers_6 ?_
  refine v_alen (v := (6 : Int32)) C 18 0 g_18 rfl rfl dX9_copyNumbers_7 ?_
  refine v_mmin C w_363 (Nat.le_of_ble_eq_true rfl) (Nat.le_of_ble_eq_true rfl) (Nat.zero_le _) (Nat.zero_le _) dX9_copyNumbers_8 ?_
  refine v_copyi (ws' := Wd G E (F_X9_copyNumbers_17_18 σ) μ Y) (n := (if (6 : Int32) < 6 then (6 : Int32) else 6)) C w_366 17 18 g_17 g_18 (by decide) (by decide) (by decide) (Nat.le_of_ble_eq_true rfl) (Nat.le_of_ble_eq_true rfl) (by rw [show ((if (6 : Int32) < 6 then (6 : Int32) else 6)).toNatClampNeg = 6 by decide]; rfl) dX9_copyNumbers_11 ?_
  exact v_Q hQ (v_vret C () trivial rfl rfl (Nat.zero_le _) (Nat.zero_le _) dX9_copyNumbers_14)
theorem sz_in {σ : Sg} {y : Int32} (hs : ∃ z : Nat, z ≤ 6 ∧ σ 10 0 = nI z) (hy : y = nI 6) (h : ¬ y ≤ σ 10 0) : vp_in (σ 10 0) 6 := by
  obtain ⟨z, hz, ez⟩ := hs
  exact vi_x ez (gt_of_nle hy ez (by omega) (by omega) h) (by decide)
theorem sz_up {σ : Sg} {y : Int32} (hs : ∃ z : Nat, z ≤ 6 ∧ σ 10 0 = nI z) (hy : y = nI 6) (h : ¬ y ≤ σ 10 0) : ∃ z : Nat, z ≤ 6 ∧ σ 10 0 + 1 = nI z := by
  obtain ⟨z, hz, ez⟩ := hs
  have := gt_of_nle hy ez (by omega) (by omega) h
  exact ⟨z + 1, by omega, by rw [ez]; exact nI_1 z⟩
def L_X3_gather_8 (σ : Sg) (on : Int32) (he : Int32) : Nat → Int32 → Sg → Sg
  | 0, _, _ => σ
  | n + 1, x, σ1 => (if (σ1 5 0) ≤ x then σ1 else (if (6 : Int32) ≤ (σ1 10 0) then σ1 else (Option.elim (F_X6_findPending σ1 x) (L_X3_gather_8 σ on he n (x + (1 : Int32)) σ1) (fun i3 => (if (F_X4_hasDeadline σ1 i3) = 0 then (if on = 0 then (if he = 0 then L_X3_gather_8 σ on he n (x + (1 : Int32)) (s2 (s2 (s2 (s2 (s2 (s2 (s2 σ1 11 (σ1 10 0).toNatClampNeg x) 12 (σ1 10 0).toNatClampNeg (F_X2_cylinderOfPlace (F_X1_placeOfBlock σ1 (σ1 40 i3)))) 13 (σ1 10 0).toNatClampNeg (F_X1_angleOfPlace (s2 (s2 σ1 11 (σ1 10 0).toNatClampNeg x) 12 (σ1 10 0).toNatClampNeg (F_X2_cylinderOfPlace (F_X1_placeOfBlock σ1 (σ1 40 i3)))) (F_X1_placeOfBlock σ1 (σ1 40 i3)))) 14 (σ1 10 0).toNatClampNeg (F_X2_sectorTicksAt (F_X1_placeOfBlock σ1 (σ1 40 i3)))) 15 (σ1 10 0).toNatClampNeg (1000000000 : Int32)) 16 (σ1 10 0).toNatClampNeg (0 : Int32)) 10 0 ((σ1 10 0) + (1 : Int32))) else (if (F_X4_hasDeadline (s2 (s2 (s2 (s2 σ1 11 (σ1 10 0).toNatClampNeg x) 12 (σ1 10 0).toNatClampNeg (F_X2_cylinderOfPlace (F_X1_placeOfBlock σ1 (σ1 40 i3)))) 13 (σ1 10 0).toNatClampNeg (F_X1_angleOfPlace (s2 (s2 σ1 11 (σ1 10 0).toNatClampNeg x) 12 (σ1 10 0).toNatClampNeg (F_X2_cylinderOfPlace (F_X1_placeOfBlock σ1 (σ1 40 i3)))) (F_X1_placeOfBlock σ1 (σ1 40 i3)))) 14 (σ1 10 0).toNatClampNeg (F_X2_sectorTicksAt (F_X1_placeOfBlock σ1 (σ1 40 i3)))) i3) = 0 then L_X3_gather_8 σ on he n (x + (1 : Int32)) (s2 (s2 (s2 (s2 (s2 (s2 (s2 σ1 11 (σ1 10 0).toNatClampNeg x) 12 (σ1 10 0).toNatClampNeg (F_X2_cylinderOfPlace (F_X1_placeOfBlock σ1 (σ1 40 i3)))) 13 (σ1 10 0).toNatClampNeg (F_X1_angleOfPlace (s2 (s2 σ1 11 (σ1 10 0).toNatClampNeg x) 12 (σ1 10 0).toNatClampNeg (F_X2_cylinderOfPlace (F_X1_placeOfBlock σ1 (σ1 40 i3)))) (F_X1_placeOfBlock σ1 (σ1 40 i3)))) 14 (σ1 10 0).toNatClampNeg (F_X2_sectorTicksAt (F_X1_placeOfBlock σ1 (σ1 40 i3)))) 15 (σ1 10 0).toNatClampNeg (1000000000 : Int32)) 16 (σ1 10 0).toNatClampNeg (0 : Int32)) 10 0 ((σ1 10 0) + (1 : Int32))) else L_X3_gather_8 σ on he n (x + (1 : Int32)) (s2 (s2 (s2 (s2 (s2 (s2 (s2 σ1 11 (σ1 10 0).toNatClampNeg x) 12 (σ1 10 0).toNatClampNeg (F_X2_cylinderOfPlace (F_X1_placeOfBlock σ1 (σ1 40 i3)))) 13 (σ1 10 0).toNatClampNeg (F_X1_angleOfPlace (s2 (s2 σ1 11 (σ1 10 0).toNatClampNeg x) 12 (σ1 10 0).toNatClampNeg (F_X2_cylinderOfPlace (F_X1_placeOfBlock σ1 (σ1 40 i3)))) (F_X1_placeOfBlock σ1 (σ1 40 i3)))) 14 (σ1 10 0).toNatClampNeg (F_X2_sectorTicksAt (F_X1_placeOfBlock σ1 (σ1 40 i3)))) 15 (σ1 10 0).toNatClampNeg (σ1 42 i3)) 16 (σ1 10 0).toNatClampNeg (0 : Int32)) 10 0 ((σ1 10 0) + (1 : Int32))))) else L_X3_gather_8 σ on he n (x + (1 : Int32)) σ1) else (if he = 0 then L_X3_gather_8 σ on he n (x + (1 : Int32)) (s2 (s2 (s2 (s2 (s2 (s2 (s2 σ1 11 (σ1 10 0).toNatClampNeg x) 12 (σ1 10 0).toNatClampNeg (F_X2_cylinderOfPlace (F_X1_placeOfBlock σ1 (σ1 40 i3)))) 13 (σ1 10 0).toNatClampNeg (F_X1_angleOfPlace (s2 (s2 σ1 11 (σ1 10 0).toNatClampNeg x) 12 (σ1 10 0).toNatClampNeg (F_X2_cylinderOfPlace (F_X1_placeOfBlock σ1 (σ1 40 i3)))) (F_X1_placeOfBlock σ1 (σ1 40 i3)))) 14 (σ1 10 0).toNatClampNeg (F_X2_sectorTicksAt (F_X1_placeOfBlock σ1 (σ1 40 i3)))) 15 (σ1 10 0).toNatClampNeg (1000000000 : Int32)) 16 (σ1 10 0).toNatClampNeg (0 : Int32)) 10 0 ((σ1 10 0) + (1 : Int32))) else (if (F_X4_hasDeadline (s2 (s2 (s2 (s2 σ1 11 (σ1 10 0).toNatClampNeg x) 12 (σ1 10 0).toNatClampNeg (F_X2_cylinderOfPlace (F_X1_placeOfBlock σ1 (σ1 40 i3)))) 13 (σ1 10 0).toNatClampNeg (F_X1_angleOfPlace (s2 (s2 σ1 11 (σ1 10 0).toNatClampNeg x) 12 (σ1 10 0).toNatClampNeg (F_X2_cylinderOfPlace (F_X1_placeOfBlock σ1 (σ1 40 i3)))) (F_X1_placeOfBlock σ1 (σ1 40 i3)))) 14 (σ1 10 0).toNatClampNeg (F_X2_sectorTicksAt (F_X1_placeOfBlock σ1 (σ1 40 i3)))) i3) = 0 then L_X3_gather_8 σ on he n (x + (1 : Int32)) (s2 (s2 (s2 (s2 (s2 (s2 (s2 σ1 11 (σ1 10 0).toNatClampNeg x) 12 (σ1 10 0).toNatClampNeg (F_X2_cylinderOfPlace (F_X1_placeOfBlock σ1 (σ1 40 i3)))) 13 (σ1 10 0).toNatClampNeg (F_X1_angleOfPlace (s2 (s2 σ1 11 (σ1 10 0).toNatClampNeg x) 12 (σ1 10 0).toNatClampNeg (F_X2_cylinderOfPlace (F_X1_placeOfBlock σ1 (σ1 40 i3)))) (F_X1_placeOfBlock σ1 (σ1 40 i3)))) 14 (σ1 10 0).toNatClampNeg (F_X2_sectorTicksAt (F_X1_placeOfBlock σ1 (σ1 40 i3)))) 15 (σ1 10 0).toNatClampNeg (1000000000 : Int32)) 16 (σ1 10 0).toNatClampNeg (0 : Int32)) 10 0 ((σ1 10 0) + (1 : Int32))) else L_X3_gather_8 σ on he n (x + (1 : Int32)) (s2 (s2 (s2 (s2 (s2 (s2 (s2 σ1 11 (σ1 10 0).toNatClampNeg x) 12 (σ1 10 0).toNatClampNeg (F_X2_cylinderOfPlace (F_X1_placeOfBlock σ1 (σ1 40 i3)))) 13 (σ1 10 0).toNatClampNeg (F_X1_angleOfPlace (s2 (s2 σ1 11 (σ1 10 0).toNatClampNeg x) 12 (σ1 10 0).toNatClampNeg (F_X2_cylinderOfPlace (F_X1_placeOfBlock σ1 (σ1 40 i3)))) (F_X1_placeOfBlock σ1 (σ1 40 i3)))) 14 (σ1 10 0).toNatClampNeg (F_X2_sectorTicksAt (F_X1_placeOfBlock σ1 (σ1 40 i3)))) 15 (σ1 10 0).toNatClampNeg (σ1 42 i3)) 16 (σ1 10 0).toNatClampNeg (0 : Int32)) 10 0 ((σ1 10 0) + (1 : Int32))))))))))
def F_X3_gather (σ : Sg) (on : Int32) (he : Int32) : Sg := L_X3_gather_8 σ on he 81 (0 : Int32) (s2 σ 10 0 (0 : Int32))
abbrev rm_X3_gather : Room := { frames := 3, cells := 0, slots := 0, locals := 65 }
set_option maxRecDepth 100000 in
set_option maxHeartbeats 4000000 in
theorem m_X3_gather (l : Launch) (G : GG) (E : EE) (σ μ : Sg) (Y : va_W) (on : Int32) (he : Int32) (hK : CNT E σ) : KK l G yX3_gather cX3_gather 8 none rm_X3_gather [.ref (E.1 10), .ref (E.1 5), .ref (E.1 2), .int on, .int he] (Wd G E σ μ Y) none (Wd G E (F_X3_gather σ on he) μ Y) := by
  refine KE.of (by decide) (Nat.le_of_ble_eq_true rfl) ?_
  intro zp ze zs zm za zb zt zc zA C _
  generalize hQ : MQ zb _ za zs _ _ zA = Q
  have loop_8 : ∀ (n : Nat) (x : Int32) (σ1 : Sg), (CNT E σ1 ∧ (∃ z : Nat, z ≤ 6 ∧ σ1 10 0 = nI z) ∧ ∃ j : Nat, x = nI j ∧ j ≤ 80 ∧ j + n = 81) → F_X3_gather σ on he = L_X3_gather_8 σ on he n x σ1 → V zp l ze rm_X3_gather zs zm za zb zt zc 8 G zA 0 0 Q 8 [(0, .ref (E.1 10)), (1, .ref (E.1 5)), (2, .ref (E.1 2)), (3, .int on), (4, .int he), (5, .int x)] [] (Wd G E σ1 μ Y) := by
    intro n
    induction n with
    | zero =>
      intro x σ1 hI hL
      exact False.elim (by obtain ⟨_, _, j, _, h8, h⟩ := hI; omega)
    | succ n ih =>
      intro x σ1 hI hL
      obtain ⟨hK1, hz, hJ⟩ := hI
      refine v_iload C 5 rfl dX3_gather_8 ?_
      refine v_aload_n C 1 rfl dX3_gather_10 ?_
      refine v_get (v := .int (σ1 5 0)) C fl_RX3_41 5 g_5 rfl dX3_gather_11 ?_
      refine v_icmp_ge (tgt := 174) C (by decide) dX3_gather_14 (fun h1 => ?_) (fun h1 => ?_)
      · have e1 : F_X3_gather σ on he = σ1 := by rw [hL, L_X3_gather_8, if_pos h1]
        exact v_Q hQ (v_vret C () trivial rfl (by rw [e1]) (Nat.zero_le _) (Nat.zero_le _) dX3_gather_174)
      · refine v_aload_n C 0 rfl dX3_gather_17 ?_
        refine v_get (v := .int (σ1 10 0)) C fl_RX3_37 10 g_10 rfl dX3_gather_18 ?_
        refine v_bipush (v := (6 : Int32)) C (by decide) dX3_gather_21 ?_
        refine v_icmp_ge (tgt := 174) C (by decide) dX3_gather_23 (fun h2 => ?_) (fun h2 => ?_)
        · have e1 : F_X3_gather σ on he = σ1 := by rw [hL, L_X3_gather_8, if_neg h1, if_pos h2]
          exact v_Q hQ (v_vret C () trivial rfl (by rw [e1]) (Nat.zero_le _) (Nat.zero_le _) dX3_gather_174)
        · refine v_aload_n C 1 rfl dX3_gather_26 ?_
          refine v_iload C 5 rfl dX3_gather_27 ?_
          refine v_cVo (rest := []) C mv_RX3_46 (m_X6_findPending l G E σ1 μ Y x hK1) 5 g_5 rfl rfl rfl rfl (Nat.le_of_ble_eq_true rfl) ⟨Nat.le_of_ble_eq_true rfl, Nat.le_of_ble_eq_true rfl⟩ ⟨rfl, rfl⟩ ⟨Nat.zero_le _, Nat.zero_le _⟩ dX3_gather_29 (fun h3 => ?_) (fun i3 h3 => ?_)
          · refine v_astoreN (lv' := [(6, .null), (0, .ref (E.1 10)), (1, .ref (E.1 5)), (2, .ref (E.1 2)), (3, .int on), (4, .int he), (5, .int x)]) C (Nat.le_of_ble_eq_true rfl) rfl dX3_gather_32 ?_
            refine v_aloadN C 0 rfl dX3_gather_34 ?_
            refine v_ifnullN (tgt := 168) C (by decide) dX3_gather_36 ?_
            refine v_iinc (v := x + (1 : Int32)) (lv' := [(5, .int (x + (1 : Int32))), (6, .null), (0, .ref (E.1 10)), (1, .ref (E.1 5)), (2, .ref (E.1 2)), (3, .int on), (4, .int he)]) C 6 rfl rfl (Nat.le_of_ble_eq_true rfl) rfl dX3_gather_168 ?_
            refine v_goto (tgt := 8) C (by decide) dX3_gather_171 ?_
            refine v_lv [2, 3, 4, 5, 6, 0] rfl ?_
            exact ih (x + (1 : Int32)) σ1 (⟨hK1.same rfl, (by first | exact hz | exact sz_up hz rfl h2), cnt_step hK1 hJ h1⟩) (by rw [hL, L_X3_gather_8, if_neg h1, if_neg h2, oel_none h3])
          · have hl0 := (findPending_some hK1 h3).1
            refine v_astore (lv' := [(6, .ref (E.2.1 i3)), (0, .ref (E.1 10)), (1, .ref (E.1 5)), (2, .ref (E.1 2)), (3, .int on), (4, .int he), (5, .int x)]) C (Nat.le_of_ble_eq_true rfl) rfl dX3_gather_32 ?_
            refine v_aload C 0 rfl dX3_gather_34 ?_
            refine v_ifnull C dX3_gather_36 ?_
            refine v_aload C 0 rfl dX3_gather_39 ?_
            refine v_cV1 (rest := []) C mv_RX3_50 (m_X4_hasDeadline l G E σ1 μ Y i3 (by assumption)) (35 + i3) (g_row (by assumption)) rfl rfl rfl rfl (Nat.le_of_ble_eq_true rfl) ⟨Nat.le_of_ble_eq_true rfl, Nat.le_of_ble_eq_true rfl⟩ ⟨rfl, rfl⟩ ⟨Nat.zero_le _, Nat.zero_le _⟩ dX3_gather_41 ?_
            refine v_if_ne (tgt := 51) C (by decide) dX3_gather_44 (fun h4 => ?_) (fun h4 => ?_)
            · refine v_aload_n C 3 rfl dX3_gather_51 ?_
              refine v_aload C 0 rfl dX3_gather_52 ?_
              refine v_get (v := .int (σ1 40 i3)) C fl_RX3_56 (35 + i3) (g_row (by assumption)) rfl dX3_gather_54 ?_
              refine v_cV1 (rest := []) C mv_RX3_59 (m_X1_placeOfBlock l G E σ1 μ Y (σ1 40 i3)) 2 g_2 rfl rfl rfl rfl (Nat.le_of_ble_eq_true rfl) ⟨Nat.le_of_ble_eq_true rfl, Nat.le_of_ble_eq_true rfl⟩ ⟨rfl, rfl⟩ ⟨Nat.zero_le _, Nat.zero_le _⟩ dX3_gather_57 ?_
              refine v_istore (lv' := [(7, .int (F_X1_placeOfBlock σ1 (σ1 40 i3))), (6, .ref (E.2.1 i3)), (0, .ref (E.1 10)), (1, .ref (E.1 5)), (2, .ref (E.1 2)), (3, .int on), (4, .int he), (5, .int x)]) C (Nat.le_of_ble_eq_true rfl) rfl dX3_gather_60 ?_
              refine v_aload_n C 2 rfl dX3_gather_62 ?_
              refine v_get (v := .ref (E.1 11)) C fl_RX3_9 10 g_10 rfl dX3_gather_63 ?_
              refine v_aload_n C 2 rfl dX3_gather_66 ?_
              refine v_get (v := .int (σ1 10 0)) C fl_RX3_37 10 g_10 rfl dX3_gather_67 ?_
              refine v_iload C 7 rfl dX3_gather_70 ?_
              refine v_iast (ws' := Wd G E (s2 σ1 11 (σ1 10 0).toNatClampNeg x) μ Y) C 11 g_11 (sz_in hz rfl h2) (p_11 _ _) dX3_gather_72 ?_
              refine v_aload_n C 2 rfl dX3_gather_73 ?_
              refine v_get (v := .ref (E.1 12)) C fl_RX3_15 10 g_10 rfl dX3_gather_74 ?_
              refine v_aload_n C 2 rfl dX3_gather_77 ?_
              refine v_get (v := .int (σ1 10 0)) C fl_RX3_37 10 g_10 rfl dX3_gather_78 ?_
              refine v_iload C 0 rfl dX3_gather_81 ?_
              refine v_cS1 (rest := [.int (σ1 10 0), .ref (E.1 12)]) C ms_RX3_65 (m_X2_cylinderOfPlace l G E (s2 σ1 11 (σ1 10 0).toNatClampNeg x) μ Y (F_X1_placeOfBlock σ1 (σ1 40 i3))) rfl rfl (Nat.le_of_ble_eq_true rfl) ⟨Nat.le_of_ble_eq_true rfl, Nat.le_of_ble_eq_true rfl⟩ ⟨rfl, rfl⟩ ⟨Nat.zero_le _, Nat.zero_le _⟩ dX3_gather_83 ?_
              refine v_iast (ws' := Wd G E (s2 (s2 σ1 11 (σ1 10 0).toNatClampNeg x) 12 (σ1 10 0).toNatClampNeg (F_X2_cylinderOfPlace (F_X1_placeOfBlock σ1 (σ1 40 i3)))) μ Y) C 12 g_12 (sz_in hz rfl h2) (p_12 _ _) dX3_gather_86 ?_
              refine v_aload_n C 2 rfl dX3_gather_87 ?_
              refine v_get (v := .ref (E.1 13)) C fl_RX3_18 10 g_10 rfl dX3_gather_88 ?_
              refine v_aload_n C 2 rfl dX3_gather_91 ?_
              refine v_get (v := .int (σ1 10 0)) C fl_RX3_37 10 g_10 rfl dX3_gather_92 ?_
              refine v_aload_n C 4 rfl dX3_gather_95 ?_
              refine v_iload C 0 rfl dX3_gather_96 ?_
              refine v_cV1 (rest := [.int (σ1 10 0), .ref (E.1 13)]) C mv_RX3_70 (m_X1_angleOfPlace l G E (s2 (s2 σ1 11 (σ1 10 0).toNatClampNeg x) 12 (σ1 10 0).toNatClampNeg (F_X2_cylinderOfPlace (F_X1_placeOfBlock σ1 (σ1 40 i3)))) μ Y (F_X1_placeOfBlock σ1 (σ1 40 i3))) 2 g_2 rfl rfl rfl rfl (Nat.le_of_ble_eq_true rfl) ⟨Nat.le_of_ble_eq_true rfl, Nat.le_of_ble_eq_true rfl⟩ ⟨rfl, rfl⟩ ⟨Nat.zero_le _, Nat.zero_le _⟩ dX3_gather_98 ?_
              refine v_iast (ws' := Wd G E (s2 (s2 (s2 σ1 11 (σ1 10 0).toNatClampNeg x) 12 (σ1 10 0).toNatClampNeg (F_X2_cylinderOfPlace (F_X1_placeOfBlock σ1 (σ1 40 i3)))) 13 (σ1 10 0).toNatClampNeg (F_X1_angleOfPlace (s2 (s2 σ1 11 (σ1 10 0).toNatClampNeg x) 12 (σ1 10 0).toNatClampNeg (F_X2_cylinderOfPlace (F_X1_placeOfBlock σ1 (σ1 40 i3)))) (F_X1_placeOfBlock σ1 (σ1 40 i3)))) μ Y) C 13 g_13 (sz_in hz rfl h2) (p_13 _ _) dX3_gather_101 ?_
              refine v_aload_n C 2 rfl dX3_gather_102 ?_
              refine v_get (v := .ref (E.1 14)) C fl_RX3_21 10 g_10 rfl dX3_gather_103 ?_
              refine v_aload_n C 2 rfl dX3_gather_106 ?_
              refine v_get (v := .int (σ1 10 0)) C fl_RX3_37 10 g_10 rfl dX3_gather_107 ?_
              refine v_iload C 0 rfl dX3_gather_110 ?_
              refine v_cS1 (rest := [.int (σ1 10 0), .ref (E.1 14)]) C ms_RX3_73 (m_X2_sectorTicksAt l G E (s2 (s2 (s2 σ1 11 (σ1 10 0).toNatClampNeg x) 12 (σ1 10 0).toNatClampNeg (F_X2_cylinderOfPlace (F_X1_placeOfBlock σ1 (σ1 40 i3)))) 13 (σ1 10 0).toNatClampNeg (F_X1_angleOfPlace (s2 (s2 σ1 11 (σ1 10 0).toNatClampNeg x) 12 (σ1 10 0).toNatClampNeg (F_X2_cylinderOfPlace (F_X1_placeOfBlock σ1 (σ1 40 i3)))) (F_X1_placeOfBlock σ1 (σ1 40 i3)))) μ Y (F_X1_placeOfBlock σ1 (σ1 40 i3))) rfl rfl (Nat.le_of_ble_eq_true rfl) ⟨Nat.le_of_ble_eq_true rfl, Nat.le_of_ble_eq_true rfl⟩ ⟨rfl, rfl⟩ ⟨Nat.zero_le _, Nat.zero_le _⟩ dX3_gather_112 ?_
              refine v_iast (ws' := Wd G E (s2 (s2 (s2 (s2 σ1 11 (σ1 10 0).toNatClampNeg x) 12 (σ1 10 0).toNatClampNeg (F_X2_cylinderOfPlace (F_X1_placeOfBlock σ1 (σ1 40 i3)))) 13 (σ1 10 0).toNatClampNeg (F_X1_angleOfPlace (s2 (s2 σ1 11 (σ1 10 0).toNatClampNeg x) 12 (σ1 10 0).toNatClampNeg (F_X2_cylinderOfPlace (F_X1_placeOfBlock σ1 (σ1 40 i3)))) (F_X1_placeOfBlock σ1 (σ1 40 i3)))) 14 (σ1 10 0).toNatClampNeg (F_X2_sectorTicksAt (F_X1_placeOfBlock σ1 (σ1 40 i3)))) μ Y) C 14 g_14 (sz_in hz rfl h2) (p_14 _ _) dX3_gather_115 ?_
              refine v_aload_n C 2 rfl dX3_gather_116 ?_
              refine v_get (v := .ref (E.1 15)) C fl_RX3_24 10 g_10 rfl dX3_gather_117 ?_
              refine v_aload_n C 2 rfl dX3_gather_120 ?_
              refine v_get (v := .int (σ1 10 0)) C fl_RX3_37 10 g_10 rfl dX3_gather_121 ?_
              refine v_iload C 6 rfl dX3_gather_124 ?_
              refine v_if_eq (tgt := 145) C (by decide) dX3_gather_126 (fun h5 => ?_) (fun h5 => ?_)
              · refine v_ldc (v := (1000000000 : Int32)) C w_891 dX3_gather_145 ?_
                refine v_iast (ws' := Wd G E (s2 (s2 (s2 (s2 (s2 σ1 11 (σ1 10 0).toNatClampNeg x) 12 (σ1 10 0).toNatClampNeg (F_X2_cylinderOfPlace (F_X1_placeOfBlock σ1 (σ1 40 i3)))) 13 (σ1 10 0).toNatClampNeg (F_X1_angleOfPlace (s2 (s2 σ1 11 (σ1 10 0).toNatClampNeg x) 12 (σ1 10 0).toNatClampNeg (F_X2_cylinderOfPlace (F_X1_placeOfBlock σ1 (σ1 40 i3)))) (F_X1_placeOfBlock σ1 (σ1 40 i3)))) 14 (σ1 10 0).toNatClampNeg (F_X2_sectorTicksAt (F_X1_placeOfBlock σ1 (σ1 40 i3)))) 15 (σ1 10 0).toNatClampNeg (1000000000 : Int32)) μ Y) C 15 g_15 (sz_in hz rfl h2) (p_15 _ _) dX3_gather_147 ?_
                refine v_aload_n C 2 rfl dX3_gather_148 ?_
                refine v_get (v := .ref (E.1 16)) C fl_RX3_27 10 g_10 rfl dX3_gather_149 ?_
                refine v_aload_n C 2 rfl dX3_gather_152 ?_
                refine v_get (v := .int (σ1 10 0)) C fl_RX3_37 10 g_10 rfl dX3_gather_153 ?_
                refine v_iconst (v := (0 : Int32)) C (by decide) dX3_gather_156 ?_
                refine v_zast (ws' := Wd G E (s2 (s2 (s2 (s2 (s2 (s2 σ1 11 (σ1 10 0).toNatClampNeg x) 12 (σ1 10 0).toNatClampNeg (F_X2_cylinderOfPlace (F_X1_placeOfBlock σ1 (σ1 40 i3)))) 13 (σ1 10 0).toNatClampNeg (F_X1_angleOfPlace (s2 (s2 σ1 11 (σ1 10 0).toNatClampNeg x) 12 (σ1 10 0).toNatClampNeg (F_X2_cylinderOfPlace (F_X1_placeOfBlock σ1 (σ1 40 i3)))) (F_X1_placeOfBlock σ1 (σ1 40 i3)))) 14 (σ1 10 0).toNatClampNeg (F_X2_sectorTicksAt (F_X1_placeOfBlock σ1 (σ1 40 i3)))) 15 (σ1 10 0).toNatClampNeg (1000000000 : Int32)) 16 (σ1 10 0).toNatClampNeg (0 : Int32)) μ Y) C 16 g_16 (sz_in hz rfl h2) rfl (p_16 _ _) dX3_gather_157 ?_
                refine v_aload_n C 2 rfl dX3_gather_158 ?_
                refine v_dup C rfl dX3_gather_159 ?_
                refine v_get (v := .int (σ1 10 0)) C fl_RX3_37 10 g_10 rfl dX3_gather_160 ?_
                refine v_iconst (v := (1 : Int32)) C (by decide) dX3_gather_163 ?_
                refine v_iadd C dX3_gather_164 ?_
                refine v_put C fp_RX3_37 10 g_10 rfl rfl (Nat.le_of_ble_eq_true rfl) (p_10_0 _) dX3_gather_165 ?_
                refine v_iinc (v := x + (1 : Int32)) (lv' := [(5, .int (x + (1 : Int32))), (7, .int (F_X1_placeOfBlock σ1 (σ1 40 i3))), (6, .ref (E.2.1 i3)), (0, .ref (E.1 10)), (1, .ref (E.1 5)), (2, .ref (E.1 2)), (3, .int on), (4, .int he)]) C 7 rfl rfl (Nat.le_of_ble_eq_true rfl) rfl dX3_gather_168 ?_
                refine v_goto (tgt := 8) C (by decide) dX3_gather_171 ?_
                refine v_lv [3, 4, 5, 6, 7, 0] rfl ?_
                exact ih (x + (1 : Int32)) (s2 (s2 (s2 (s2 (s2 (s2 (s2 σ1 11 (σ1 10 0).toNatClampNeg x) 12 (σ1 10 0).toNatClampNeg (F_X2_cylinderOfPlace (F_X1_placeOfBlock σ1 (σ1 40 i3)))) 13 (σ1 10 0).toNatClampNeg (F_X1_angleOfPlace (s2 (s2 σ1 11 (σ1 10 0).toNatClampNeg x) 12 (σ1 10 0).toNatClampNeg (F_X2_cylinderOfPlace (F_X1_placeOfBlock σ1 (σ1 40 i3)))) (F_X1_placeOfBlock σ1 (σ1 40 i3)))) 14 (σ1 10 0).toNatClampNeg (F_X2_sectorTicksAt (F_X1_placeOfBlock σ1 (σ1 40 i3)))) 15 (σ1 10 0).toNatClampNeg (1000000000 : Int32)) 16 (σ1 10 0).toNatClampNeg (0 : Int32)) 10 0 ((σ1 10 0) + (1 : Int32))) (⟨hK1.same rfl, (by first | exact hz | exact sz_up hz rfl h2), cnt_step hK1 hJ h1⟩) (by rw [hL, L_X3_gather_8, if_neg h1, if_neg h2, oel_some h3, if_neg h4, if_pos h5])
              · refine v_aload C 1 rfl dX3_gather_129 ?_
                refine v_cV1 (rest := [.int (σ1 10 0), .ref (E.1 15)]) C mv_RX3_50 (m_X4_hasDeadline l G E (s2 (s2 (s2 (s2 σ1 11 (σ1 10 0).toNatClampNeg x) 12 (σ1 10 0).toNatClampNeg (F_X2_cylinderOfPlace (F_X1_placeOfBlock σ1 (σ1 40 i3)))) 13 (σ1 10 0).toNatClampNeg (F_X1_angleOfPlace (s2 (s2 σ1 11 (σ1 10 0).toNatClampNeg x) 12 (σ1 10 0).toNatClampNeg (F_X2_cylinderOfPlace (F_X1_placeOfBlock σ1 (σ1 40 i3)))) (F_X1_placeOfBlock σ1 (σ1 40 i3)))) 14 (σ1 10 0).toNatClampNeg (F_X2_sectorTicksAt (F_X1_placeOfBlock σ1 (σ1 40 i3)))) μ Y i3 (by assumption)) (35 + i3) (g_row (by assumption)) rfl rfl rfl rfl (Nat.le_of_ble_eq_true rfl) ⟨Nat.le_of_ble_eq_true rfl, Nat.le_of_ble_eq_true rfl⟩ ⟨rfl, rfl⟩ ⟨Nat.zero_le _, Nat.zero_le _⟩ dX3_gather_131 ?_
                refine v_if_eq (tgt := 145) C (by decide) dX3_gather_134 (fun h6 => ?_) (fun h6 => ?_)
                · refine v_ldc (v := (1000000000 : Int32)) C w_891 dX3_gather_145 ?_
                  refine v_iast (ws' := Wd G E (s2 (s2 (s2 (s2 (s2 σ1 11 (σ1 10 0).toNatClampNeg x) 12 (σ1 10 0).toNatClampNeg (F_X2_cylinderOfPlace (F_X1_placeOfBlock σ1 (σ1 40 i3)))) 13 (σ1 10 0).toNatClampNeg (F_X1_angleOfPlace (s2 (s2 σ1 11 (σ1 10 0).toNatClampNeg x) 12 (σ1 10 0).toNatClampNeg (F_X2_cylinderOfPlace (F_X1_placeOfBlock σ1 (σ1 40 i3)))) (F_X1_placeOfBlock σ1 (σ1 40 i3)))) 14 (σ1 10 0).toNatClampNeg (F_X2_sectorTicksAt (F_X1_placeOfBlock σ1 (σ1 40 i3)))) 15 (σ1 10 0).toNatClampNeg (1000000000 : Int32)) μ Y) C 15 g_15 (sz_in hz rfl h2) (p_15 _ _) dX3_gather_147 ?_
                  refine v_aload_n C 2 rfl dX3_gather_148 ?_
                  refine v_get (v := .ref (E.1 16)) C fl_RX3_27 10 g_10 rfl dX3_gather_149 ?_
                  refine v_aload_n C 2 rfl dX3_gather_152 ?_
                  refine v_get (v := .int (σ1 10 0)) C fl_RX3_37 10 g_10 rfl dX3_gather_153 ?_
                  refine v_iconst (v := (0 : Int32)) C (by decide) dX3_gather_156 ?_
                  refine v_zast (ws' := Wd G E (s2 (s2 (s2 (s2 (s2 (s2 σ1 11 (σ1 10 0).toNatClampNeg x) 12 (σ1 10 0).toNatClampNeg (F_X2_cylinderOfPlace (F_X1_placeOfBlock σ1 (σ1 40 i3)))) 13 (σ1 10 0).toNatClampNeg (F_X1_angleOfPlace (s2 (s2 σ1 11 (σ1 10 0).toNatClampNeg x) 12 (σ1 10 0).toNatClampNeg (F_X2_cylinderOfPlace (F_X1_placeOfBlock σ1 (σ1 40 i3)))) (F_X1_placeOfBlock σ1 (σ1 40 i3)))) 14 (σ1 10 0).toNatClampNeg (F_X2_sectorTicksAt (F_X1_placeOfBlock σ1 (σ1 40 i3)))) 15 (σ1 10 0).toNatClampNeg (1000000000 : Int32)) 16 (σ1 10 0).toNatClampNeg (0 : Int32)) μ Y) C 16 g_16 (sz_in hz rfl h2) rfl (p_16 _ _) dX3_gather_157 ?_
                  refine v_aload_n C 2 rfl dX3_gather_158 ?_
                  refine v_dup C rfl dX3_gather_159 ?_
                  refine v_get (v := .int (σ1 10 0)) C fl_RX3_37 10 g_10 rfl dX3_gather_160 ?_
                  refine v_iconst (v := (1 : Int32)) C (by decide) dX3_gather_163 ?_
                  refine v_iadd C dX3_gather_164 ?_
                  refine v_put C fp_RX3_37 10 g_10 rfl rfl (Nat.le_of_ble_eq_true rfl) (p_10_0 _) dX3_gather_165 ?_
                  refine v_iinc (v := x + (1 : Int32)) (lv' := [(5, .int (x + (1 : Int32))), (7, .int (F_X1_placeOfBlock σ1 (σ1 40 i3))), (6, .ref (E.2.1 i3)), (0, .ref (E.1 10)), (1, .ref (E.1 5)), (2, .ref (E.1 2)), (3, .int on), (4, .int he)]) C 7 rfl rfl (Nat.le_of_ble_eq_true rfl) rfl dX3_gather_168 ?_
                  refine v_goto (tgt := 8) C (by decide) dX3_gather_171 ?_
                  refine v_lv [3, 4, 5, 6, 7, 0] rfl ?_
                  exact ih (x + (1 : Int32)) (s2 (s2 (s2 (s2 (s2 (s2 (s2 σ1 11 (σ1 10 0).toNatClampNeg x) 12 (σ1 10 0).toNatClampNeg (F_X2_cylinderOfPlace (F_X1_placeOfBlock σ1 (σ1 40 i3)))) 13 (σ1 10 0).toNatClampNeg (F_X1_angleOfPlace (s2 (s2 σ1 11 (σ1 10 0).toNatClampNeg x) 12 (σ1 10 0).toNatClampNeg (F_X2_cylinderOfPlace (F_X1_placeOfBlock σ1 (σ1 40 i3)))) (F_X1_placeOfBlock σ1 (σ1 40 i3)))) 14 (σ1 10 0).toNatClampNeg (F_X2_sectorTicksAt (F_X1_placeOfBlock σ1 (σ1 40 i3)))) 15 (σ1 10 0).toNatClampNeg (1000000000 : Int32)) 16 (σ1 10 0).toNatClampNeg (0 : Int32)) 10 0 ((σ1 10 0) + (1 : Int32))) (⟨hK1.same rfl, (by first | exact hz | exact sz_up hz rfl h2), cnt_step hK1 hJ h1⟩) (by rw [hL, L_X3_gather_8, if_neg h1, if_neg h2, oel_some h3, if_neg h4, if_neg h5, if_pos h6])
                · refine v_aload C 1 rfl dX3_gather_137 ?_
                  refine v_get (v := .int (σ1 42 i3)) C fl_RX3_76 (35 + i3) (g_row (by assumption)) rfl dX3_gather_139 ?_
                  refine v_goto (tgt := 147) C (by decide) dX3_gather_142 ?_
                  refine v_iast (ws' := Wd G E (s2 (s2 (s2 (s2 (s2 σ1 11 (σ1 10 0).toNatClampNeg x) 12 (σ1 10 0).toNatClampNeg (F_X2_cylinderOfPlace (F_X1_placeOfBlock σ1 (σ1 40 i3)))) 13 (σ1 10 0).toNatClampNeg (F_X1_angleOfPlace (s2 (s2 σ1 11 (σ1 10 0).toNatClampNeg x) 12 (σ1 10 0).toNatClampNeg (F_X2_cylinderOfPlace (F_X1_placeOfBlock σ1 (σ1 40 i3)))) (F_X1_placeOfBlock σ1 (σ1 40 i3)))) 14 (σ1 10 0).toNatClampNeg (F_X2_sectorTicksAt (F_X1_placeOfBlock σ1 (σ1 40 i3)))) 15 (σ1 10 0).toNatClampNeg (σ1 42 i3)) μ Y) C 15 g_15 (sz_in hz rfl h2) (p_15 _ _) dX3_gather_147 ?_
                  refine v_aload_n C 2 rfl dX3_gather_148 ?_
                  refine v_get (v := .ref (E.1 16)) C fl_RX3_27 10 g_10 rfl dX3_gather_149 ?_
                  refine v_aload_n C 2 rfl dX3_gather_152 ?_
                  refine v_get (v := .int (σ1 10 0)) C fl_RX3_37 10 g_10 rfl dX3_gather_153 ?_
                  refine v_iconst (v := (0 : Int32)) C (by decide) dX3_gather_156 ?_
                  refine v_zast (ws' := Wd G E (s2 (s2 (s2 (s2 (s2 (s2 σ1 11 (σ1 10 0).toNatClampNeg x) 12 (σ1 10 0).toNatClampNeg (F_X2_cylinderOfPlace (F_X1_placeOfBlock σ1 (σ1 40 i3)))) 13 (σ1 10 0).toNatClampNeg (F_X1_angleOfPlace (s2 (s2 σ1 11 (σ1 10 0).toNatClampNeg x) 12 (σ1 10 0).toNatClampNeg (F_X2_cylinderOfPlace (F_X1_placeOfBlock σ1 (σ1 40 i3)))) (F_X1_placeOfBlock σ1 (σ1 40 i3)))) 14 (σ1 10 0).toNatClampNeg (F_X2_sectorTicksAt (F_X1_placeOfBlock σ1 (σ1 40 i3)))) 15 (σ1 10 0).toNatClampNeg (σ1 42 i3)) 16 (σ1 10 0).toNatClampNeg (0 : Int32)) μ Y) C 16 g_16 (sz_in hz rfl h2) rfl (p_16 _ _) dX3_gather_157 ?_
                  refine v_aload_n C 2 rfl dX3_gather_158 ?_
                  refine v_dup C rfl dX3_gather_159 ?_
                  refine v_get (v := .int (σ1 10 0)) C fl_RX3_37 10 g_10 rfl dX3_gather_160 ?_
                  refine v_iconst (v := (1 : Int32)) C (by decide) dX3_gather_163 ?_
                  refine v_iadd C dX3_gather_164 ?_
                  refine v_put C fp_RX3_37 10 g_10 rfl rfl (Nat.le_of_ble_eq_true rfl) (p_10_0 _) dX3_gather_165 ?_
                  refine v_iinc (v := x + (1 : Int32)) (lv' := [(5, .int (x + (1 : Int32))), (7, .int (F_X1_placeOfBlock σ1 (σ1 40 i3))), (6, .ref (E.2.1 i3)), (0, .ref (E.1 10)), (1, .ref (E.1 5)), (2, .ref (E.1 2)), (3, .int on), (4, .int he)]) C 7 rfl rfl (Nat.le_of_ble_eq_true rfl) rfl dX3_gather_168 ?_
                  refine v_goto (tgt := 8) C (by decide) dX3_gather_171 ?_
                  refine v_lv [3, 4, 5, 6, 7, 0] rfl ?_
                  exact ih (x + (1 : Int32)) (s2 (s2 (s2 (s2 (s2 (s2 (s2 σ1 11 (σ1 10 0).toNatClampNeg x) 12 (σ1 10 0).toNatClampNeg (F_X2_cylinderOfPlace (F_X1_placeOfBlock σ1 (σ1 40 i3)))) 13 (σ1 10 0).toNatClampNeg (F_X1_angleOfPlace (s2 (s2 σ1 11 (σ1 10 0).toNatClampNeg x) 12 (σ1 10 0).toNatClampNeg (F_X2_cylinderOfPlace (F_X1_placeOfBlock σ1 (σ1 40 i3)))) (F_X1_placeOfBlock σ1 (σ1 40 i3)))) 14 (σ1 10 0).toNatClampNeg (F_X2_sectorTicksAt (F_X1_placeOfBlock σ1 (σ1 40 i3)))) 15 (σ1 10 0).toNatClampNeg (σ1 42 i3)) 16 (σ1 10 0).toNatClampNeg (0 : Int32)) 10 0 ((σ1 10 0) + (1 : Int32))) (⟨hK1.same rfl, (by first | exact hz | exact sz_up hz rfl h2), cnt_step hK1 hJ h1⟩) (by rw [hL, L_X3_gather_8, if_neg h1, if_neg h2, oel_some h3, if_neg h4, if_neg h5, if_neg h6])
            · refine v_iload_n C 4 rfl dX3_gather_47 ?_
              refine v_if_ne (tgt := 168) C (by decide) dX3_gather_48 (fun h7 => ?_) (fun h7 => ?_)
              · refine v_iinc (v := x + (1 : Int32)) (lv' := [(5, .int (x + (1 : Int32))), (6, .ref (E.2.1 i3)), (0, .ref (E.1 10)), (1, .ref (E.1 5)), (2, .ref (E.1 2)), (3, .int on), (4, .int he)]) C 6 rfl rfl (Nat.le_of_ble_eq_true rfl) rfl dX3_gather_168 ?_
                refine v_goto (tgt := 8) C (by decide) dX3_gather_171 ?_
                refine v_lv [2, 3, 4, 5, 6, 0] rfl ?_
                exact ih (x + (1 : Int32)) σ1 (⟨hK1.same rfl, (by first | exact hz | exact sz_up hz rfl h2), cnt_step hK1 hJ h1⟩) (by rw [hL, L_X3_gather_8, if_neg h1, if_neg h2, oel_some h3, if_pos h4, if_neg h7])
              · refine v_aload_n C 3 rfl dX3_gather_51 ?_
                refine v_aload C 0 rfl dX3_gather_52 ?_
                refine v_get (v := .int (σ1 40 i3)) C fl_RX3_56 (35 + i3) (g_row (by assumption)) rfl dX3_gather_54 ?_
                refine v_cV1 (rest := []) C mv_RX3_59 (m_X1_placeOfBlock l G E σ1 μ Y (σ1 40 i3)) 2 g_2 rfl rfl rfl rfl (Nat.le_of_ble_eq_true rfl) ⟨Nat.le_of_ble_eq_true rfl, Nat.le_of_ble_eq_true rfl⟩ ⟨rfl, rfl⟩ ⟨Nat.zero_le _, Nat.zero_le _⟩ dX3_gather_57 ?_
                refine v_istore (lv' := [(7, .int (F_X1_placeOfBlock σ1 (σ1 40 i3))), (6, .ref (E.2.1 i3)), (0, .ref (E.1 10)), (1, .ref (E.1 5)), (2, .ref (E.1 2)), (3, .int on), (4, .int he), (5, .int x)]) C (Nat.le_of_ble_eq_true rfl) rfl dX3_gather_60 ?_
                refine v_aload_n C 2 rfl dX3_gather_62 ?_
                refine v_get (v := .ref (E.1 11)) C fl_RX3_9 10 g_10 rfl dX3_gather_63 ?_
                refine v_aload_n C 2 rfl dX3_gather_66 ?_
                refine v_get (v := .int (σ1 10 0)) C fl_RX3_37 10 g_10 rfl dX3_gather_67 ?_
                refine v_iload C 7 rfl dX3_gather_70 ?_
                refine v_iast (ws' := Wd G E (s2 σ1 11 (σ1 10 0).toNatClampNeg x) μ Y) C 11 g_11 (sz_in hz rfl h2) (p_11 _ _) dX3_gather_72 ?_
                refine v_aload_n C 2 rfl dX3_gather_73 ?_
                refine v_get (v := .ref (E.1 12)) C fl_RX3_15 10 g_10 rfl dX3_gather_74 ?_
                refine v_aload_n C 2 rfl dX3_gather_77 ?_
                refine v_get (v := .int (σ1 10 0)) C fl_RX3_37 10 g_10 rfl dX3_gather_78 ?_
                refine v_iload C 0 rfl dX3_gather_81 ?_
                refine v_cS1 (rest := [.int (σ1 10 0), .ref (E.1 12)]) C ms_RX3_65 (m_X2_cylinderOfPlace l G E (s2 σ1 11 (σ1 10 0).toNatClampNeg x) μ Y (F_X1_placeOfBlock σ1 (σ1 40 i3))) rfl rfl (Nat.le_of_ble_eq_true rfl) ⟨Nat.le_of_ble_eq_true rfl, Nat.le_of_ble_eq_true rfl⟩ ⟨rfl, rfl⟩ ⟨Nat.zero_le _, Nat.zero_le _⟩ dX3_gather_83 ?_
                refine v_iast (ws' := Wd G E (s2 (s2 σ1 11 (σ1 10 0).toNatClampNeg x) 12 (σ1 10 0).toNatClampNeg (F_X2_cylinderOfPlace (F_X1_placeOfBlock σ1 (σ1 40 i3)))) μ Y) C 12 g_12 (sz_in hz rfl h2) (p_12 _ _) dX3_gather_86 ?_
                refine v_aload_n C 2 rfl dX3_gather_87 ?_
                refine v_get (v := .ref (E.1 13)) C fl_RX3_18 10 g_10 rfl dX3_gather_88 ?_
                refine v_aload_n C 2 rfl dX3_gather_91 ?_
                refine v_get (v := .int (σ1 10 0)) C fl_RX3_37 10 g_10 rfl dX3_gather_92 ?_
                refine v_aload_n C 4 rfl dX3_gather_95 ?_
                refine v_iload C 0 rfl dX3_gather_96 ?_
                refine v_cV1 (rest := [.int (σ1 10 0), .ref (E.1 13)]) C mv_RX3_70 (m_X1_angleOfPlace l G E (s2 (s2 σ1 11 (σ1 10 0).toNatClampNeg x) 12 (σ1 10 0).toNatClampNeg (F_X2_cylinderOfPlace (F_X1_placeOfBlock σ1 (σ1 40 i3)))) μ Y (F_X1_placeOfBlock σ1 (σ1 40 i3))) 2 g_2 rfl rfl rfl rfl (Nat.le_of_ble_eq_true rfl) ⟨Nat.le_of_ble_eq_true rfl, Nat.le_of_ble_eq_true rfl⟩ ⟨rfl, rfl⟩ ⟨Nat.zero_le _, Nat.zero_le _⟩ dX3_gather_98 ?_
                refine v_iast (ws' := Wd G E (s2 (s2 (s2 σ1 11 (σ1 10 0).toNatClampNeg x) 12 (σ1 10 0).toNatClampNeg (F_X2_cylinderOfPlace (F_X1_placeOfBlock σ1 (σ1 40 i3)))) 13 (σ1 10 0).toNatClampNeg (F_X1_angleOfPlace (s2 (s2 σ1 11 (σ1 10 0).toNatClampNeg x) 12 (σ1 10 0).toNatClampNeg (F_X2_cylinderOfPlace (F_X1_placeOfBlock σ1 (σ1 40 i3)))) (F_X1_placeOfBlock σ1 (σ1 40 i3)))) μ Y) C 13 g_13 (sz_in hz rfl h2) (p_13 _ _) dX3_gather_101 ?_
                refine v_aload_n C 2 rfl dX3_gather_102 ?_
                refine v_get (v := .ref (E.1 14)) C fl_RX3_21 10 g_10 rfl dX3_gather_103 ?_
                refine v_aload_n C 2 rfl dX3_gather_106 ?_
                refine v_get (v := .int (σ1 10 0)) C fl_RX3_37 10 g_10 rfl dX3_gather_107 ?_
                refine v_iload C 0 rfl dX3_gather_110 ?_
                refine v_cS1 (rest := [.int (σ1 10 0), .ref (E.1 14)]) C ms_RX3_73 (m_X2_sectorTicksAt l G E (s2 (s2 (s2 σ1 11 (σ1 10 0).toNatClampNeg x) 12 (σ1 10 0).toNatClampNeg (F_X2_cylinderOfPlace (F_X1_placeOfBlock σ1 (σ1 40 i3)))) 13 (σ1 10 0).toNatClampNeg (F_X1_angleOfPlace (s2 (s2 σ1 11 (σ1 10 0).toNatClampNeg x) 12 (σ1 10 0).toNatClampNeg (F_X2_cylinderOfPlace (F_X1_placeOfBlock σ1 (σ1 40 i3)))) (F_X1_placeOfBlock σ1 (σ1 40 i3)))) μ Y (F_X1_placeOfBlock σ1 (σ1 40 i3))) rfl rfl (Nat.le_of_ble_eq_true rfl) ⟨Nat.le_of_ble_eq_true rfl, Nat.le_of_ble_eq_true rfl⟩ ⟨rfl, rfl⟩ ⟨Nat.zero_le _, Nat.zero_le _⟩ dX3_gather_112 ?_
                refine v_iast (ws' := Wd G E (s2 (s2 (s2 (s2 σ1 11 (σ1 10 0).toNatClampNeg x) 12 (σ1 10 0).toNatClampNeg (F_X2_cylinderOfPlace (F_X1_placeOfBlock σ1 (σ1 40 i3)))) 13 (σ1 10 0).toNatClampNeg (F_X1_angleOfPlace (s2 (s2 σ1 11 (σ1 10 0).toNatClampNeg x) 12 (σ1 10 0).toNatClampNeg (F_X2_cylinderOfPlace (F_X1_placeOfBlock σ1 (σ1 40 i3)))) (F_X1_placeOfBlock σ1 (σ1 40 i3)))) 14 (σ1 10 0).toNatClampNeg (F_X2_sectorTicksAt (F_X1_placeOfBlock σ1 (σ1 40 i3)))) μ Y) C 14 g_14 (sz_in hz rfl h2) (p_14 _ _) dX3_gather_115 ?_
                refine v_aload_n C 2 rfl dX3_gather_116 ?_
                refine v_get (v := .ref (E.1 15)) C fl_RX3_24 10 g_10 rfl dX3_gather_117 ?_
                refine v_aload_n C 2 rfl dX3_gather_120 ?_
                refine v_get (v := .int (σ1 10 0)) C fl_RX3_37 10 g_10 rfl dX3_gather_121 ?_
                refine v_iload C 6 rfl dX3_gather_124 ?_
                refine v_if_eq (tgt := 145) C (by decide) dX3_gather_126 (fun h8 => ?_) (fun h8 => ?_)
                · refine v_ldc (v := (1000000000 : Int32)) C w_891 dX3_gather_145 ?_
                  refine v_iast (ws' := Wd G E (s2 (s2 (s2 (s2 (s2 σ1 11 (σ1 10 0).toNatClampNeg x) 12 (σ1 10 0).toNatClampNeg (F_X2_cylinderOfPlace (F_X1_placeOfBlock σ1 (σ1 40 i3)))) 13 (σ1 10 0).toNatClampNeg (F_X1_angleOfPlace (s2 (s2 σ1 11 (σ1 10 0).toNatClampNeg x) 12 (σ1 10 0).toNatClampNeg (F_X2_cylinderOfPlace (F_X1_placeOfBlock σ1 (σ1 40 i3)))) (F_X1_placeOfBlock σ1 (σ1 40 i3)))) 14 (σ1 10 0).toNatClampNeg (F_X2_sectorTicksAt (F_X1_placeOfBlock σ1 (σ1 40 i3)))) 15 (σ1 10 0).toNatClampNeg (1000000000 : Int32)) μ Y) C 15 g_15 (sz_in hz rfl h2) (p_15 _ _) dX3_gather_147 ?_
                  refine v_aload_n C 2 rfl dX3_gather_148 ?_
                  refine v_get (v := .ref (E.1 16)) C fl_RX3_27 10 g_10 rfl dX3_gather_149 ?_
                  refine v_aload_n C 2 rfl dX3_gather_152 ?_
                  refine v_get (v := .int (σ1 10 0)) C fl_RX3_37 10 g_10 rfl dX3_gather_153 ?_
                  refine v_iconst (v := (0 : Int32)) C (by decide) dX3_gather_156 ?_
                  refine v_zast (ws' := Wd G E (s2 (s2 (s2 (s2 (s2 (s2 σ1 11 (σ1 10 0).toNatClampNeg x) 12 (σ1 10 0).toNatClampNeg (F_X2_cylinderOfPlace (F_X1_placeOfBlock σ1 (σ1 40 i3)))) 13 (σ1 10 0).toNatClampNeg (F_X1_angleOfPlace (s2 (s2 σ1 11 (σ1 10 0).toNatClampNeg x) 12 (σ1 10 0).toNatClampNeg (F_X2_cylinderOfPlace (F_X1_placeOfBlock σ1 (σ1 40 i3)))) (F_X1_placeOfBlock σ1 (σ1 40 i3)))) 14 (σ1 10 0).toNatClampNeg (F_X2_sectorTicksAt (F_X1_placeOfBlock σ1 (σ1 40 i3)))) 15 (σ1 10 0).toNatClampNeg (1000000000 : Int32)) 16 (σ1 10 0).toNatClampNeg (0 : Int32)) μ Y) C 16 g_16 (sz_in hz rfl h2) rfl (p_16 _ _) dX3_gather_157 ?_
                  refine v_aload_n C 2 rfl dX3_gather_158 ?_
                  refine v_dup C rfl dX3_gather_159 ?_
                  refine v_get (v := .int (σ1 10 0)) C fl_RX3_37 10 g_10 rfl dX3_gather_160 ?_
                  refine v_iconst (v := (1 : Int32)) C (by decide) dX3_gather_163 ?_
                  refine v_iadd C dX3_gather_164 ?_
                  refine v_put C fp_RX3_37 10 g_10 rfl rfl (Nat.le_of_ble_eq_true rfl) (p_10_0 _) dX3_gather_165 ?_
                  refine v_iinc (v := x + (1 : Int32)) (lv' := [(5, .int (x + (1 : Int32))), (7, .int (F_X1_placeOfBlock σ1 (σ1 40 i3))), (6, .ref (E.2.1 i3)), (0, .ref (E.1 10)), (1, .ref (E.1 5)), (2, .ref (E.1 2)), (3, .int on), (4, .int he)]) C 7 rfl rfl (Nat.le_of_ble_eq_true rfl) rfl dX3_gather_168 ?_
                  refine v_goto (tgt := 8) C (by decide) dX3_gather_171 ?_
                  refine v_lv [3, 4, 5, 6, 7, 0] rfl ?_
                  exact ih (x + (1 : Int32)) (s2 (s2 (s2 (s2 (s2 (s2 (s2 σ1 11 (σ1 10 0).toNatClampNeg x) 12 (σ1 10 0).toNatClampNeg (F_X2_cylinderOfPlace (F_X1_placeOfBlock σ1 (σ1 40 i3)))) 13 (σ1 10 0).toNatClampNeg (F_X1_angleOfPlace (s2 (s2 σ1 11 (σ1 10 0).toNatClampNeg x) 12 (σ1 10 0).toNatClampNeg (F_X2_cylinderOfPlace (F_X1_placeOfBlock σ1 (σ1 40 i3)))) (F_X1_placeOfBlock σ1 (σ1 40 i3)))) 14 (σ1 10 0).toNatClampNeg (F_X2_sectorTicksAt (F_X1_placeOfBlock σ1 (σ1 40 i3)))) 15 (σ1 10 0).toNatClampNeg (1000000000 : Int32)) 16 (σ1 10 0).toNatClampNeg (0 : Int32)) 10 0 ((σ1 10 0) + (1 : Int32))) (⟨hK1.same rfl, (by first | exact hz | exact sz_up hz rfl h2), cnt_step hK1 hJ h1⟩) (by rw [hL, L_X3_gather_8, if_neg h1, if_neg h2, oel_some h3, if_pos h4, if_pos h7, if_pos h8])
                · refine v_aload C 1 rfl dX3_gather_129 ?_
                  refine v_cV1 (rest := [.int (σ1 10 0), .ref (E.1 15)]) C mv_RX3_50 (m_X4_hasDeadline l G E (s2 (s2 (s2 (s2 σ1 11 (σ1 10 0).toNatClampNeg x) 12 (σ1 10 0).toNatClampNeg (F_X2_cylinderOfPlace (F_X1_placeOfBlock σ1 (σ1 40 i3)))) 13 (σ1 10 0).toNatClampNeg (F_X1_angleOfPlace (s2 (s2 σ1 11 (σ1 10 0).toNatClampNeg x) 12 (σ1 10 0).toNatClampNeg (F_X2_cylinderOfPlace (F_X1_placeOfBlock σ1 (σ1 40 i3)))) (F_X1_placeOfBlock σ1 (σ1 40 i3)))) 14 (σ1 10 0).toNatClampNeg (F_X2_sectorTicksAt (F_X1_placeOfBlock σ1 (σ1 40 i3)))) μ Y i3 (by assumption)) (35 + i3) (g_row (by assumption)) rfl rfl rfl rfl (Nat.le_of_ble_eq_true rfl) ⟨Nat.le_of_ble_eq_true rfl, Nat.le_of_ble_eq_true rfl⟩ ⟨rfl, rfl⟩ ⟨Nat.zero_le _, Nat.zero_le _⟩ dX3_gather_131 ?_
                  refine v_if_eq (tgt := 145) C (by decide) dX3_gather_134 (fun h9 => ?_) (fun h9 => ?_)
                  · refine v_ldc (v := (1000000000 : Int32)) C w_891 dX3_gather_145 ?_
                    refine v_iast (ws' := Wd G E (s2 (s2 (s2 (s2 (s2 σ1 11 (σ1 10 0).toNatClampNeg x) 12 (σ1 10 0).toNatClampNeg (F_X2_cylinderOfPlace (F_X1_placeOfBlock σ1 (σ1 40 i3)))) 13 (σ1 10 0).toNatClampNeg (F_X1_angleOfPlace (s2 (s2 σ1 11 (σ1 10 0).toNatClampNeg x) 12 (σ1 10 0).toNatClampNeg (F_X2_cylinderOfPlace (F_X1_placeOfBlock σ1 (σ1 40 i3)))) (F_X1_placeOfBlock σ1 (σ1 40 i3)))) 14 (σ1 10 0).toNatClampNeg (F_X2_sectorTicksAt (F_X1_placeOfBlock σ1 (σ1 40 i3)))) 15 (σ1 10 0).toNatClampNeg (1000000000 : Int32)) μ Y) C 15 g_15 (sz_in hz rfl h2) (p_15 _ _) dX3_gather_147 ?_
                    refine v_aload_n C 2 rfl dX3_gather_148 ?_
                    refine v_get (v := .ref (E.1 16)) C fl_RX3_27 10 g_10 rfl dX3_gather_149 ?_
                    refine v_aload_n C 2 rfl dX3_gather_152 ?_
                    refine v_get (v := .int (σ1 10 0)) C fl_RX3_37 10 g_10 rfl dX3_gather_153 ?_
                    refine v_iconst (v := (0 : Int32)) C (by decide) dX3_gather_156 ?_
                    refine v_zast (ws' := Wd G E (s2 (s2 (s2 (s2 (s2 (s2 σ1 11 (σ1 10 0).toNatClampNeg x) 12 (σ1 10 0).toNatClampNeg (F_X2_cylinderOfPlace (F_X1_placeOfBlock σ1 (σ1 40 i3)))) 13 (σ1 10 0).toNatClampNeg (F_X1_angleOfPlace (s2 (s2 σ1 11 (σ1 10 0).toNatClampNeg x) 12 (σ1 10 0).toNatClampNeg (F_X2_cylinderOfPlace (F_X1_placeOfBlock σ1 (σ1 40 i3)))) (F_X1_placeOfBlock σ1 (σ1 40 i3)))) 14 (σ1 10 0).toNatClampNeg (F_X2_sectorTicksAt (F_X1_placeOfBlock σ1 (σ1 40 i3)))) 15 (σ1 10 0).toNatClampNeg (1000000000 : Int32)) 16 (σ1 10 0).toNatClampNeg (0 : Int32)) μ Y) C 16 g_16 (sz_in hz rfl h2) rfl (p_16 _ _) dX3_gather_157 ?_
                    refine v_aload_n C 2 rfl dX3_gather_158 ?_
                    refine v_dup C rfl dX3_gather_159 ?_
                    refine v_get (v := .int (σ1 10 0)) C fl_RX3_37 10 g_10 rfl dX3_gather_160 ?_
                    refine v_iconst (v := (1 : Int32)) C (by decide) dX3_gather_163 ?_
                    refine v_iadd C dX3_gather_164 ?_
                    refine v_put C fp_RX3_37 10 g_10 rfl rfl (Nat.le_of_ble_eq_true rfl) (p_10_0 _) dX3_gather_165 ?_
                    refine v_iinc (v := x + (1 : Int32)) (lv' := [(5, .int (x + (1 : Int32))), (7, .int (F_X1_placeOfBlock σ1 (σ1 40 i3))), (6, .ref (E.2.1 i3)), (0, .ref (E.1 10)), (1, .ref (E.1 5)), (2, .ref (E.1 2)), (3, .int on), (4, .int he)]) C 7 rfl rfl (Nat.le_of_ble_eq_true rfl) rfl dX3_gather_168 ?_
                    refine v_goto (tgt := 8) C (by decide) dX3_gather_171 ?_
                    refine v_lv [3, 4, 5, 6, 7, 0] rfl ?_
                    exact ih (x + (1 : Int32)) (s2 (s2 (s2 (s2 (s2 (s2 (s2 σ1 11 (σ1 10 0).toNatClampNeg x) 12 (σ1 10 0).toNatClampNeg (F_X2_cylinderOfPlace (F_X1_placeOfBlock σ1 (σ1 40 i3)))) 13 (σ1 10 0).toNatClampNeg (F_X1_angleOfPlace (s2 (s2 σ1 11 (σ1 10 0).toNatClampNeg x) 12 (σ1 10 0).toNatClampNeg (F_X2_cylinderOfPlace (F_X1_placeOfBlock σ1 (σ1 40 i3)))) (F_X1_placeOfBlock σ1 (σ1 40 i3)))) 14 (σ1 10 0).toNatClampNeg (F_X2_sectorTicksAt (F_X1_placeOfBlock σ1 (σ1 40 i3)))) 15 (σ1 10 0).toNatClampNeg (1000000000 : Int32)) 16 (σ1 10 0).toNatClampNeg (0 : Int32)) 10 0 ((σ1 10 0) + (1 : Int32))) (⟨hK1.same rfl, (by first | exact hz | exact sz_up hz rfl h2), cnt_step hK1 hJ h1⟩) (by rw [hL, L_X3_gather_8, if_neg h1, if_neg h2, oel_some h3, if_pos h4, if_pos h7, if_neg h8, if_pos h9])
                  · refine v_aload C 1 rfl dX3_gather_137 ?_
                    refine v_get (v := .int (σ1 42 i3)) C fl_RX3_76 (35 + i3) (g_row (by assumption)) rfl dX3_gather_139 ?_
                    refine v_goto (tgt := 147) C (by decide) dX3_gather_142 ?_
                    refine v_iast (ws' := Wd G E (s2 (s2 (s2 (s2 (s2 σ1 11 (σ1 10 0).toNatClampNeg x) 12 (σ1 10 0).toNatClampNeg (F_X2_cylinderOfPlace (F_X1_placeOfBlock σ1 (σ1 40 i3)))) 13 (σ1 10 0).toNatClampNeg (F_X1_angleOfPlace (s2 (s2 σ1 11 (σ1 10 0).toNatClampNeg x) 12 (σ1 10 0).toNatClampNeg (F_X2_cylinderOfPlace (F_X1_placeOfBlock σ1 (σ1 40 i3)))) (F_X1_placeOfBlock σ1 (σ1 40 i3)))) 14 (σ1 10 0).toNatClampNeg (F_X2_sectorTicksAt (F_X1_placeOfBlock σ1 (σ1 40 i3)))) 15 (σ1 10 0).toNatClampNeg (σ1 42 i3)) μ Y) C 15 g_15 (sz_in hz rfl h2) (p_15 _ _) dX3_gather_147 ?_
                    refine v_aload_n C 2 rfl dX3_gather_148 ?_
                    refine v_get (v := .ref (E.1 16)) C fl_RX3_27 10 g_10 rfl dX3_gather_149 ?_
                    refine v_aload_n C 2 rfl dX3_gather_152 ?_
                    refine v_get (v := .int (σ1 10 0)) C fl_RX3_37 10 g_10 rfl dX3_gather_153 ?_
                    refine v_iconst (v := (0 : Int32)) C (by decide) dX3_gather_156 ?_
                    refine v_zast (ws' := Wd G E (s2 (s2 (s2 (s2 (s2 (s2 σ1 11 (σ1 10 0).toNatClampNeg x) 12 (σ1 10 0).toNatClampNeg (F_X2_cylinderOfPlace (F_X1_placeOfBlock σ1 (σ1 40 i3)))) 13 (σ1 10 0).toNatClampNeg (F_X1_angleOfPlace (s2 (s2 σ1 11 (σ1 10 0).toNatClampNeg x) 12 (σ1 10 0).toNatClampNeg (F_X2_cylinderOfPlace (F_X1_placeOfBlock σ1 (σ1 40 i3)))) (F_X1_placeOfBlock σ1 (σ1 40 i3)))) 14 (σ1 10 0).toNatClampNeg (F_X2_sectorTicksAt (F_X1_placeOfBlock σ1 (σ1 40 i3)))) 15 (σ1 10 0).toNatClampNeg (σ1 42 i3)) 16 (σ1 10 0).toNatClampNeg (0 : Int32)) μ Y) C 16 g_16 (sz_in hz rfl h2) rfl (p_16 _ _) dX3_gather_157 ?_
                    refine v_aload_n C 2 rfl dX3_gather_158 ?_
                    refine v_dup C rfl dX3_gather_159 ?_
                    refine v_get (v := .int (σ1 10 0)) C fl_RX3_37 10 g_10 rfl dX3_gather_160 ?_
                    refine v_iconst (v := (1 : Int32)) C (by decide) dX3_gather_163 ?_
                    refine v_iadd C dX3_gather_164 ?_
                    refine v_put C fp_RX3_37 10 g_10 rfl rfl (Nat.le_of_ble_eq_true rfl) (p_10_0 _) dX3_gather_165 ?_
                    refine v_iinc (v := x + (1 : Int32)) (lv' := [(5, .int (x + (1 : Int32))), (7, .int (F_X1_placeOfBlock σ1 (σ1 40 i3))), (6, .ref (E.2.1 i3)), (0, .ref (E.1 10)), (1, .ref (E.1 5)), (2, .ref (E.1 2)), (3, .int on), (4, .int he)]) C 7 rfl rfl (Nat.le_of_ble_eq_true rfl) rfl dX3_gather_168 ?_
                    refine v_goto (tgt := 8) C (by decide) dX3_gather_171 ?_
                    refine v_lv [3, 4, 5, 6, 7, 0] rfl ?_
                    exact ih (x + (1 : Int32)) (s2 (s2 (s2 (s2 (s2 (s2 (s2 σ1 11 (σ1 10 0).toNatClampNeg x) 12 (σ1 10 0).toNatClampNeg (F_X2_cylinderOfPlace (F_X1_placeOfBlock σ1 (σ1 40 i3)))) 13 (σ1 10 0).toNatClampNeg (F_X1_angleOfPlace (s2 (s2 σ1 11 (σ1 10 0).toNatClampNeg x) 12 (σ1 10 0).toNatClampNeg (F_X2_cylinderOfPlace (F_X1_placeOfBlock σ1 (σ1 40 i3)))) (F_X1_placeOfBlock σ1 (σ1 40 i3)))) 14 (σ1 10 0).toNatClampNeg (F_X2_sectorTicksAt (F_X1_placeOfBlock σ1 (σ1 40 i3)))) 15 (σ1 10 0).toNatClampNeg (σ1 42 i3)) 16 (σ1 10 0).toNatClampNeg (0 : Int32)) 10 0 ((σ1 10 0) + (1 : Int32))) (⟨hK1.same rfl, (by first | exact hz | exact sz_up hz rfl h2), cnt_step hK1 hJ h1⟩) (by rw [hL, L_X3_gather_8, if_neg h1, if_neg h2, oel_some h3, if_pos h4, if_pos h7, if_neg h8, if_neg h9])
  show V zp l ze rm_X3_gather zs zm za zb zt zc 8 G zA 0 0 Q 0 [(0, .ref (E.1 10)), (1, .ref (E.1 5)), (2, .ref (E.1 2)), (3, .int on), (4, .int he)] [] (Wd G E σ μ Y)
  refine v_aload_n C 0 rfl dX3_gather_0 ?_
  refine v_iconst (v := (0 : Int32)) C (by decide) dX3_gather_1 ?_
  refine v_put C fp_RX3_37 10 g_10 rfl rfl (Nat.le_of_ble_eq_true rfl) (p_10_0 _) dX3_gather_2 ?_
  refine v_iconst (v := (0 : Int32)) C (by decide) dX3_gather_5 ?_
  refine v_istore (lv' := [(5, .int (0 : Int32)), (0, .ref (E.1 10)), (1, .ref (E.1 5)), (2, .ref (E.1 2)), (3, .int on), (4, .int he)]) C (Nat.le_of_ble_eq_true rfl) rfl dX3_gather_6 ?_
  refine v_lv [1, 2, 3, 4, 5, 0] rfl ?_
  exact loop_8 81 (0 : Int32) (s2 σ 10 0 (0 : Int32)) (⟨hK, ⟨0, by omega, rfl⟩, 0, rfl, by omega, by omega⟩) (by rw [F_X3_gather])
def F_X3_hasFound (σ : Sg) : Int32 := (if (σ 10 1) = (1000000000 : Int32) then (0 : Int32) else (1 : Int32))
theorem z01_X3_hasFound (σ : Sg) : F_X3_hasFound σ = 0 ∨ F_X3_hasFound σ = 1 := by
  unfold F_X3_hasFound; (repeat' split) <;> first | exact Or.inl rfl | exact Or.inr rfl
abbrev rm_X3_hasFound : Room := { frames := 0, cells := 0, slots := 0, locals := 0 }
set_option maxRecDepth 100000 in
set_option maxHeartbeats 4000000 in
theorem m_X3_hasFound (l : Launch) (G : GG) (E : EE) (σ μ : Sg) (Y : va_W) : KK l G yX3_hasFound cX3_hasFound 1 (some .boolean) rm_X3_hasFound [.ref (E.1 10)] (Wd G E σ μ Y) (some (.int (F_X3_hasFound σ))) (Wd G E σ μ Y) := by
  refine KE.of (by decide) (Nat.le_of_ble_eq_true rfl) ?_
  intro zp ze zs zm za zb zt zc zA C _
  generalize hQ : MQ zb _ za zs _ _ zA = Q
  show V zp l ze rm_X3_hasFound zs zm za zb zt zc 1 G zA 0 0 Q 0 [(0, .ref (E.1 10))] [] (Wd G E σ μ Y)
  refine v_aload_n C 0 rfl dX3_hasFound_0 ?_
  refine v_get (v := .int (σ 10 1)) C fl_RX3_80 10 g_10 rfl dX3_hasFound_1 ?_
  refine v_ldc (v := (1000000000 : Int32)) C w_891 dX3_hasFound_4 ?_
  refine v_icmp_eq (tgt := 13) C (by decide) dX3_hasFound_6 (fun h1 => ?_) (fun h1 => ?_)
  · refine v_iconst (v := (0 : Int32)) C (by decide) dX3_hasFound_13 ?_
    have e1 : F_X3_hasFound σ = (0 : Int32) := by rw [F_X3_hasFound, if_pos h1]
    exact v_Q hQ (v_zret C rfl () trivial (by rw [e1]) rfl (Nat.zero_le _) (Nat.zero_le _) dX3_hasFound_14)
  · refine v_iconst (v := (1 : Int32)) C (by decide) dX3_hasFound_9 ?_
    refine v_goto (tgt := 14) C (by decide) dX3_hasFound_10 ?_
    have e1 : F_X3_hasFound σ = (1 : Int32) := by rw [F_X3_hasFound, if_neg h1]
    exact v_Q hQ (v_zret C rfl () trivial (by rw [e1]) rfl (Nat.zero_le _) (Nat.zero_le _) dX3_hasFound_14)
def F_X3_requestAt (σ : Sg) (po : Int32) : Int32 := (if (F_X9_isWithin po (0 : Int32) (5 : Int32)) = 0 then (-1 : Int32) else σ 18 (po).toNatClampNeg)
abbrev rm_X3_requestAt : Room := { frames := 1, cells := 0, slots := 0, locals := 22 }
set_option maxRecDepth 100000 in
set_option maxHeartbeats 4000000 in
theorem m_X3_requestAt (l : Launch) (G : GG) (E : EE) (σ μ : Sg) (Y : va_W) (po : Int32) : KK l G yX3_requestAt cX3_requestAt 2 (some .int) rm_X3_requestAt [.ref (E.1 10), .int po] (Wd G E σ μ Y) (some (.int (F_X3_requestAt σ po))) (Wd G E σ μ Y) := by
  refine KE.of (by decide) (Nat.le_of_ble_eq_true rfl) ?_
  intro zp ze zs zm za zb zt zc zA C _
  generalize hQ : MQ zb _ za zs _ _ zA = Q
  show V zp l ze rm_X3_requestAt zs zm za zb zt zc 2 G zA 0 0 Q 0 [(0, .ref (E.1 10)), (1, .int po)] [] (Wd G E σ μ Y)
  refine v_iload_n C 1 rfl dX3_requestAt_0 ?_
  refine v_iconst (v := (0 : Int32)) C (by decide) dX3_requestAt_1 ?_
  refine v_iconst (v := (5 : Int32)) C (by decide) dX3_requestAt_2 ?_
  refine v_cN1 (rest := []) C mn_RX3_93 w_378 (m_X9_isWithin l G E σ μ Y po (0 : Int32) (5 : Int32)) rfl rfl (Nat.le_of_ble_eq_true rfl) ⟨Nat.le_of_ble_eq_true rfl, Nat.le_of_ble_eq_true rfl⟩ ⟨rfl, rfl⟩ ⟨Nat.zero_le _, Nat.zero_le _⟩ dX3_requestAt_3 ?_
  refine v_if_eq (tgt := 18) C (by decide) dX3_requestAt_6 (fun h1 => ?_) (fun h1 => ?_)
  · refine v_iconst (v := (-1 : Int32)) C (by decide) dX3_requestAt_18 ?_
    have e1 : F_X3_requestAt σ po = (-1 : Int32) := by rw [F_X3_requestAt, if_pos h1]
    exact v_Q hQ (v_iret C () trivial (by rw [e1]) rfl (Nat.zero_le _) (Nat.zero_le _) dX3_requestAt_19)
  · refine v_aload_n C 0 rfl dX3_requestAt_9 ?_
    refine v_get (v := .ref (E.1 18)) C fl_RX3_34 10 g_10 rfl dX3_requestAt_10 ?_
    refine v_iload_n C 1 rfl dX3_requestAt_13 ?_
    refine v_iald (v := σ 18 (po).toNatClampNeg) C 18 g_18 (within_in (N := 5) (by decide) rfl h1) rfl dX3_requestAt_14 ?_
    refine v_goto (tgt := 19) C (by decide) dX3_requestAt_15 ?_
    have e1 : F_X3_requestAt σ po = σ 18 (po).toNatClampNeg := by rw [F_X3_requestAt, if_neg h1]
    exact v_Q hQ (v_iret C () trivial (by rw [e1]) rfl (Nat.zero_le _) (Nat.zero_le _) dX3_requestAt_19)
def TP (D : Nat) (dp : Int32) : Prop := ∃ j : Nat, dp = nI j ∧ j ≤ 6 ∧ j + D = 7
theorem TP.next {D : Nat} {dp : Int32} (h : TP (D + 1) dp) (hw : ¬ F_X9_isWithin dp 0 5 = 0) : TP D (dp + 1) := by
  obtain ⟨j, ej, hj, hD⟩ := h
  obtain ⟨a, b⟩ := within_of hw
  have := le_of_le (b := 5) ej rfl (by omega) (by omega) b
  exact ⟨j + 1, by rw [ej]; exact nI_1 j, by omega, by omega⟩
def G_X3_tryNext (rc : Sg → Int32 → Int32 → Int32 → Sg) (σ : Sg) (nx : Int32) (dp : Int32) (cy : Int32) (t : Int32) : Sg := (if (F_X9_isWithin nx (0 : Int32) (5 : Int32)) = 0 then σ else (if (F_X9_isWithin dp (0 : Int32) (5 : Int32)) = 0 then σ else (if (σ 15 (nx).toNatClampNeg) < (((t + (F_X1_ticksOfSeek σ cy (σ 12 (nx).toNatClampNeg))) + (F_X1_ticksOfWait (σ 13 (nx).toNatClampNeg) (t + (F_X1_ticksOfSeek σ cy (σ 12 (nx).toNatClampNeg))))) + (σ 14 (nx).toNatClampNeg)) then σ else (s2 (rc (s2 (s2 σ 16 (nx).toNatClampNeg (1 : Int32)) 17 (dp).toNatClampNeg (σ 11 (nx).toNatClampNeg)) (dp + (1 : Int32)) (σ 12 (nx).toNatClampNeg) (((t + (F_X1_ticksOfSeek σ cy (σ 12 (nx).toNatClampNeg))) + (F_X1_ticksOfWait (σ 13 (nx).toNatClampNeg) (t + (F_X1_ticksOfSeek σ cy (σ 12 (nx).toNatClampNeg))))) + (σ 14 (nx).toNatClampNeg))) 16 (nx).toNatClampNeg (0 : Int32)))))
abbrev rms_X3_tryNext (fr lo : Nat) : Room := { frames := fr + 10, cells := 0, slots := 0, locals := lo + 400 }
set_option maxRecDepth 100000 in
set_option maxHeartbeats 4000000 in
theorem m_X3_tryNext_step (l : Launch) (G : GG) (E : EE) (fr lo : Nat) (rc : Sg → Int32 → Int32 → Int32 → Sg) (D : Nat) (hrec : ∀ (σ μ : Sg) (Y : va_W) (dp cy t : Int32), TP D dp → KK l G yX3_tryFrom cX3_tryFrom 6 none { frames := fr, cells := 0, slots := 0, locals := lo } [.ref (E.1 10), .int dp, .int cy, .int t, .ref (E.1 2)] (Wd G E σ μ Y) none (Wd G E (rc σ dp cy t) μ Y)) (σ μ : Sg) (Y : va_W) (nx : Int32) (dp : Int32) (cy : Int32) (t : Int32) (hP : TP (D + 1) dp) : KK l G yX3_tryNext cX3_tryNext 8 none (rms_X3_tryNext fr lo) [.ref (E.1 10), .int nx, .int dp, .int cy, .int t, .ref (E.1 2)] (Wd G E σ μ Y) none (Wd G E (G_X3_tryNext rc σ nx dp cy t) μ Y) := by
  refine KE.of (by decide) (Nat.le_of_ble_eq_true rfl) ?_
  intro zp ze zs zm za zb zt zc zA C _
  generalize hQ : MQ zb _ za zs _ _ zA = Q
  show V zp l ze (rms_X3_tryNext fr lo) zs zm za zb zt zc 8 G zA 0 0 Q 0 [(0, .ref (E.1 10)), (1, .int nx), (2, .int dp), (3, .int cy), (4, .int t), (5, .ref (E.1 2))] [] (Wd G E σ μ Y)
  refine v_iload_n C 1 rfl dX3_tryNext_0 ?_
  refine v_iconst (v := (0 : Int32)) C (by decide) dX3_tryNext_1 ?_
  refine v_iconst (v := (5 : Int32)) C (by decide) dX3_tryNext_2 ?_
  refine v_cN1 (rest := []) C mn_RX3_93 w_378 (m_X9_isWithin l G E σ μ Y nx (0 : Int32) (5 : Int32)) rfl rfl (Nat.le_of_ble_eq_true rfl) ⟨by show 0 + 1 ≤ fr + 10; omega, by show 8 + (3 + 11) + 0 ≤ lo + 400; omega⟩ ⟨rfl, rfl⟩ ⟨Nat.zero_le _, Nat.zero_le _⟩ dX3_tryNext_3 ?_
  refine v_if_eq (tgt := 18) C (by decide) dX3_tryNext_6 (fun h1 => ?_) (fun h1 => ?_)
  · have e1 : G_X3_tryNext rc σ nx dp cy t = σ := by rw [G_X3_tryNext, if_pos h1]
    exact v_Q hQ (v_vret C () trivial rfl (by rw [e1]) (Nat.zero_le _) (Nat.zero_le _) dX3_tryNext_18)
  · refine v_iload_n C 2 rfl dX3_tryNext_9 ?_
    refine v_iconst (v := (0 : Int32)) C (by decide) dX3_tryNext_10 ?_
    refine v_iconst (v := (5 : Int32)) C (by decide) dX3_tryNext_11 ?_
    refine v_cN1 (rest := []) C mn_RX3_93 w_378 (m_X9_isWithin l G E σ μ Y dp (0 : Int32) (5 : Int32)) rfl rfl (Nat.le_of_ble_eq_true rfl) ⟨by show 0 + 1 ≤ fr + 10; omega, by show 8 + (3 + 11) + 0 ≤ lo + 400; omega⟩ ⟨rfl, rfl⟩ ⟨Nat.zero_le _, Nat.zero_le _⟩ dX3_tryNext_12 ?_
    refine v_if_ne (tgt := 19) C (by decide) dX3_tryNext_15 (fun h2 => ?_) (fun h2 => ?_)
    · refine v_iload C 4 rfl dX3_tryNext_19 ?_
      refine v_aload C 5 rfl dX3_tryNext_21 ?_
      refine v_iload_n C 3 rfl dX3_tryNext_23 ?_
      refine v_aload_n C 0 rfl dX3_tryNext_24 ?_
      refine v_get (v := .ref (E.1 12)) C fl_RX3_15 10 g_10 rfl dX3_tryNext_25 ?_
      refine v_iload_n C 1 rfl dX3_tryNext_28 ?_
      refine v_iald (v := σ 12 (nx).toNatClampNeg) C 12 g_12 (within_in (N := 5) (by decide) rfl h1) rfl dX3_tryNext_29 ?_
      refine v_cV1 (rest := [.int t]) C mv_RX3_105 (m_X1_ticksOfSeek l G E σ μ Y cy (σ 12 (nx).toNatClampNeg)) 2 g_2 rfl rfl rfl rfl (Nat.le_of_ble_eq_true rfl) ⟨by show 0 + 1 ≤ fr + 10; omega, by show 8 + (5 + 11) + 0 ≤ lo + 400; omega⟩ ⟨rfl, rfl⟩ ⟨Nat.zero_le _, Nat.zero_le _⟩ dX3_tryNext_30 ?_
      refine v_iadd C dX3_tryNext_33 ?_
      refine v_istore (lv' := [(6, .int (t + (F_X1_ticksOfSeek σ cy (σ 12 (nx).toNatClampNeg)))), (0, .ref (E.1 10)), (1, .int nx), (2, .int dp), (3, .int cy), (4, .int t), (5, .ref (E.1 2))]) C (Nat.le_of_ble_eq_true rfl) rfl dX3_tryNext_34 ?_
      refine v_iload C 0 rfl dX3_tryNext_36 ?_
      refine v_aload_n C 1 rfl dX3_tryNext_38 ?_
      refine v_get (v := .ref (E.1 13)) C fl_RX3_18 10 g_10 rfl dX3_tryNext_39 ?_
      refine v_iload_n C 2 rfl dX3_tryNext_42 ?_
      refine v_iald (v := σ 13 (nx).toNatClampNeg) C 13 g_13 (within_in (N := 5) (by decide) rfl h1) rfl dX3_tryNext_43 ?_
      refine v_iload C 0 rfl dX3_tryNext_44 ?_
      refine v_cS1 (rest := [.int (t + (F_X1_ticksOfSeek σ cy (σ 12 (nx).toNatClampNeg)))]) C ms_RX3_109 (m_X1_ticksOfWait l G E σ μ Y (σ 13 (nx).toNatClampNeg) (t + (F_X1_ticksOfSeek σ cy (σ 12 (nx).toNatClampNeg)))) rfl rfl (Nat.le_of_ble_eq_true rfl) ⟨by show 1 + 1 ≤ fr + 10; omega, by show 8 + (2 + 11) + 22 ≤ lo + 400; omega⟩ ⟨rfl, rfl⟩ ⟨Nat.zero_le _, Nat.zero_le _⟩ dX3_tryNext_46 ?_
      refine v_iadd C dX3_tryNext_49 ?_
      refine v_aload_n C 1 rfl dX3_tryNext_50 ?_
      refine v_get (v := .ref (E.1 14)) C fl_RX3_21 10 g_10 rfl dX3_tryNext_51 ?_
      refine v_iload_n C 2 rfl dX3_tryNext_54 ?_
      refine v_iald (v := σ 14 (nx).toNatClampNeg) C 14 g_14 (within_in (N := 5) (by decide) rfl h1) rfl dX3_tryNext_55 ?_
      refine v_iadd C dX3_tryNext_56 ?_
      refine v_istore (lv' := [(7, .int (((t + (F_X1_ticksOfSeek σ cy (σ 12 (nx).toNatClampNeg))) + (F_X1_ticksOfWait (σ 13 (nx).toNatClampNeg) (t + (F_X1_ticksOfSeek σ cy (σ 12 (nx).toNatClampNeg))))) + (σ 14 (nx).toNatClampNeg))), (6, .int (t + (F_X1_ticksOfSeek σ cy (σ 12 (nx).toNatClampNeg)))), (0, .ref (E.1 10)), (1, .int nx), (2, .int dp), (3, .int cy), (4, .int t), (5, .ref (E.1 2))]) C (Nat.le_of_ble_eq_true rfl) rfl dX3_tryNext_57 ?_
      refine v_iload C 0 rfl dX3_tryNext_59 ?_
      refine v_aload_n C 2 rfl dX3_tryNext_61 ?_
      refine v_get (v := .ref (E.1 15)) C fl_RX3_24 10 g_10 rfl dX3_tryNext_62 ?_
      refine v_iload_n C 3 rfl dX3_tryNext_65 ?_
      refine v_iald (v := σ 15 (nx).toNatClampNeg) C 15 g_15 (within_in (N := 5) (by decide) rfl h1) rfl dX3_tryNext_66 ?_
      refine v_icmp_gt (tgt := 113) C (by decide) dX3_tryNext_67 (fun h3 => ?_) (fun h3 => ?_)
      · have e1 : G_X3_tryNext rc σ nx dp cy t = σ := by rw [G_X3_tryNext, if_neg h1, if_neg h2, if_pos h3]
        exact v_Q hQ (v_vret C () trivial rfl (by rw [e1]) (Nat.zero_le _) (Nat.zero_le _) dX3_tryNext_113)
      · refine v_aload_n C 2 rfl dX3_tryNext_70 ?_
        refine v_get (v := .ref (E.1 16)) C fl_RX3_27 10 g_10 rfl dX3_tryNext_71 ?_
        refine v_iload_n C 3 rfl dX3_tryNext_74 ?_
        refine v_iconst (v := (1 : Int32)) C (by decide) dX3_tryNext_75 ?_
        refine v_zast (ws' := Wd G E (s2 σ 16 (nx).toNatClampNeg (1 : Int32)) μ Y) C 16 g_16 (within_in (N := 5) (by decide) rfl h1) rfl (p_16 _ _) dX3_tryNext_76 ?_
        refine v_aload_n C 2 rfl dX3_tryNext_77 ?_
        refine v_get (v := .ref (E.1 17)) C fl_RX3_31 10 g_10 rfl dX3_tryNext_78 ?_
        refine v_iload_n C 4 rfl dX3_tryNext_81 ?_
        refine v_aload_n C 2 rfl dX3_tryNext_82 ?_
        refine v_get (v := .ref (E.1 11)) C fl_RX3_9 10 g_10 rfl dX3_tryNext_83 ?_
        refine v_iload_n C 3 rfl dX3_tryNext_86 ?_
        refine v_iald (v := σ 11 (nx).toNatClampNeg) C 11 g_11 (within_in (N := 5) (by decide) rfl h1) rfl dX3_tryNext_87 ?_
        refine v_iast (ws' := Wd G E (s2 (s2 σ 16 (nx).toNatClampNeg (1 : Int32)) 17 (dp).toNatClampNeg (σ 11 (nx).toNatClampNeg)) μ Y) C 17 g_17 (within_in (N := 5) (by decide) rfl h2) (p_17 _ _) dX3_tryNext_88 ?_
        refine v_aload_n C 2 rfl dX3_tryNext_89 ?_
        refine v_iload_n C 4 rfl dX3_tryNext_90 ?_
        refine v_iconst (v := (1 : Int32)) C (by decide) dX3_tryNext_91 ?_
        refine v_iadd C dX3_tryNext_92 ?_
        refine v_aload_n C 2 rfl dX3_tryNext_93 ?_
        refine v_get (v := .ref (E.1 12)) C fl_RX3_15 10 g_10 rfl dX3_tryNext_94 ?_
        refine v_iload_n C 3 rfl dX3_tryNext_97 ?_
        refine v_iald (v := σ 12 (nx).toNatClampNeg) C 12 g_12 (within_in (N := 5) (by decide) rfl h1) rfl dX3_tryNext_98 ?_
        refine v_iload C 0 rfl dX3_tryNext_99 ?_
        refine v_aload C 7 rfl dX3_tryNext_101 ?_
        refine v_cV0 (rest := []) C mv_RX3_89 (hrec (s2 (s2 σ 16 (nx).toNatClampNeg (1 : Int32)) 17 (dp).toNatClampNeg (σ 11 (nx).toNatClampNeg)) μ Y (dp + (1 : Int32)) (σ 12 (nx).toNatClampNeg) (((t + (F_X1_ticksOfSeek σ cy (σ 12 (nx).toNatClampNeg))) + (F_X1_ticksOfWait (σ 13 (nx).toNatClampNeg) (t + (F_X1_ticksOfSeek σ cy (σ 12 (nx).toNatClampNeg))))) + (σ 14 (nx).toNatClampNeg)) (hP.next h2)) 10 g_10 rfl rfl rfl rfl (Nat.le_of_ble_eq_true rfl) ⟨by show fr + 1 ≤ fr + 10; omega, by show 8 + (6 + 11) + lo ≤ lo + 400; omega⟩ ⟨rfl, rfl⟩ ⟨Nat.zero_le _, Nat.zero_le _⟩ dX3_tryNext_103 ?_
        refine v_aload_n C 2 rfl dX3_tryNext_106 ?_
        refine v_get (v := .ref (E.1 16)) C fl_RX3_27 10 g_10 rfl dX3_tryNext_107 ?_
        refine v_iload_n C 3 rfl dX3_tryNext_110 ?_
        refine v_iconst (v := (0 : Int32)) C (by decide) dX3_tryNext_111 ?_
        refine v_zast (ws' := Wd G E (s2 (rc (s2 (s2 σ 16 (nx).toNatClampNeg (1 : Int32)) 17 (dp).toNatClampNeg (σ 11 (nx).toNatClampNeg)) (dp + (1 : Int32)) (σ 12 (nx).toNatClampNeg) (((t + (F_X1_ticksOfSeek σ cy (σ 12 (nx).toNatClampNeg))) + (F_X1_ticksOfWait (σ 13 (nx).toNatClampNeg) (t + (F_X1_ticksOfSeek σ cy (σ 12 (nx).toNatClampNeg))))) + (σ 14 (nx).toNatClampNeg))) 16 (nx).toNatClampNeg (0 : Int32)) μ Y) C 16 g_16 (within_in (N := 5) (by decide) rfl h1) rfl (p_16 _ _) dX3_tryNext_112 ?_
        have e1 : G_X3_tryNext rc σ nx dp cy t = (s2 (rc (s2 (s2 σ 16 (nx).toNatClampNeg (1 : Int32)) 17 (dp).toNatClampNeg (σ 11 (nx).toNatClampNeg)) (dp + (1 : Int32)) (σ 12 (nx).toNatClampNeg) (((t + (F_X1_ticksOfSeek σ cy (σ 12 (nx).toNatClampNeg))) + (F_X1_ticksOfWait (σ 13 (nx).toNatClampNeg) (t + (F_X1_ticksOfSeek σ cy (σ 12 (nx).toNatClampNeg))))) + (σ 14 (nx).toNatClampNeg))) 16 (nx).toNatClampNeg (0 : Int32)) := by rw [G_X3_tryNext, if_neg h1, if_neg h2, if_neg h3]
        exact v_Q hQ (v_vret C () trivial rfl (by rw [e1]) (Nat.zero_le _) (Nat.zero_le _) dX3_tryNext_113)
    · have e1 : G_X3_tryNext rc σ nx dp cy t = σ := by rw [G_X3_tryNext, if_neg h1, if_pos h2]
      exact v_Q hQ (v_vret C () trivial rfl (by rw [e1]) (Nat.zero_le _) (Nat.zero_le _) dX3_tryNext_18)
def L_X3_tryFrom_43 (rc : Sg → Int32 → Int32 → Int32 → Int32 → Sg) (σ : Sg) (dp : Int32) (cy : Int32) (t : Int32) : Nat → Int32 → Sg → Sg
  | 0, _, _ => σ
  | n + 1, x, σ1 => (if (σ1 10 0) ≤ x then σ1 else (if (6 : Int32) ≤ x then σ1 else (if (σ1 16 (x).toNatClampNeg) = 0 then L_X3_tryFrom_43 rc σ dp cy t n (x + (1 : Int32)) (rc σ1 x dp cy t) else L_X3_tryFrom_43 rc σ dp cy t n (x + (1 : Int32)) σ1)))
def G_X3_tryFrom (rc : Sg → Int32 → Int32 → Int32 → Int32 → Sg) (σ : Sg) (dp : Int32) (cy : Int32) (t : Int32) : Sg := (if t < (σ 10 1) then (if (σ 10 0) ≤ dp then (F_X9_copyNumbers_17_18 (s2 σ 10 1 t)) else (if dp < (6 : Int32) then L_X3_tryFrom_43 rc σ dp cy t 7 (0 : Int32) σ else (F_X9_copyNumbers_17_18 (s2 σ 10 1 t)))) else σ)
abbrev rms_X3_tryFrom (fr lo : Nat) : Room := { frames := fr + 10, cells := 0, slots := 0, locals := lo + 400 }
set_option maxRecDepth 100000 in
set_option maxHeartbeats 4000000 in
theorem m_X3_tryFrom_step (l : Launch) (G : GG) (E : EE) (fr lo : Nat) (rc : Sg → Int32 → Int32 → Int32 → Int32 → Sg) (D : Nat) (hrec : ∀ (σ μ : Sg) (Y : va_W) (nx dp cy t : Int32), TP D dp → KK l G yX3_tryNext cX3_tryNext 8 none { frames := fr, cells := 0, slots := 0, locals := lo } [.ref (E.1 10), .int nx, .int dp, .int cy, .int t, .ref (E.1 2)] (Wd G E σ μ Y) none (Wd G E (rc σ nx dp cy t) μ Y)) (σ μ : Sg) (Y : va_W) (dp : Int32) (cy : Int32) (t : Int32) (hP : TP D dp) : KK l G yX3_tryFrom cX3_tryFrom 6 none (rms_X3_tryFrom fr lo) [.ref (E.1 10), .int dp, .int cy, .int t, .ref (E.1 2)] (Wd G E σ μ Y) none (Wd G E (G_X3_tryFrom rc σ dp cy t) μ Y) := by
  refine KE.of (by decide) (Nat.le_of_ble_eq_true rfl) ?_
  intro zp ze zs zm za zb zt zc zA C _
  generalize hQ : MQ zb _ za zs _ _ zA = Q
  have loop_43 : ∀ (n : Nat) (x : Int32) (σ1 : Sg), (∃ j : Nat, x = nI j ∧ j ≤ 6 ∧ j + n = 7) → G_X3_tryFrom rc σ dp cy t = L_X3_tryFrom_43 rc σ dp cy t n x σ1 → V zp l ze (rms_X3_tryFrom fr lo) zs zm za zb zt zc 6 G zA 0 0 Q 43 [(0, .ref (E.1 10)), (1, .int dp), (2, .int cy), (3, .int t), (4, .ref (E.1 2)), (5, .int x)] [] (Wd G E σ1 μ Y) := by
    intro n
    induction n with
    | zero =>
      intro x σ1 hI hL
      exact False.elim (by obtain ⟨j, _, h8, h⟩ := hI; omega)
    | succ n ih =>
      intro x σ1 hI hL
      refine v_iload C 5 rfl dX3_tryFrom_43 ?_
      refine v_aload_n C 0 rfl dX3_tryFrom_45 ?_
      refine v_get (v := .int (σ1 10 0)) C fl_RX3_37 10 g_10 rfl dX3_tryFrom_46 ?_
      refine v_icmp_ge (tgt := 86) C (by decide) dX3_tryFrom_49 (fun h1 => ?_) (fun h1 => ?_)
      · have e1 : G_X3_tryFrom rc σ dp cy t = σ1 := by rw [hL, L_X3_tryFrom_43, if_pos h1]
        exact v_Q hQ (v_vret C () trivial rfl (by rw [e1]) (Nat.zero_le _) (Nat.zero_le _) dX3_tryFrom_86)
      · refine v_iload C 5 rfl dX3_tryFrom_52 ?_
        refine v_bipush (v := (6 : Int32)) C (by decide) dX3_tryFrom_54 ?_
        refine v_icmp_ge (tgt := 86) C (by decide) dX3_tryFrom_56 (fun h2 => ?_) (fun h2 => ?_)
        · have e1 : G_X3_tryFrom rc σ dp cy t = σ1 := by rw [hL, L_X3_tryFrom_43, if_neg h1, if_pos h2]
          exact v_Q hQ (v_vret C () trivial rfl (by rw [e1]) (Nat.zero_le _) (Nat.zero_le _) dX3_tryFrom_86)
        · refine v_aload_n C 0 rfl dX3_tryFrom_59 ?_
          refine v_get (v := .ref (E.1 16)) C fl_RX3_27 10 g_10 rfl dX3_tryFrom_60 ?_
          refine v_iload C 5 rfl dX3_tryFrom_63 ?_
          refine v_zald (v := σ1 16 (x).toNatClampNeg) C 16 g_16 (up_in (B := 6) rfl (by decide) hI h2) rfl dX3_tryFrom_65 ?_
          refine v_if_ne (tgt := 80) C (by decide) dX3_tryFrom_66 (fun h3 => ?_) (fun h3 => ?_)
          · refine v_iinc (v := x + (1 : Int32)) (lv' := [(5, .int (x + (1 : Int32))), (0, .ref (E.1 10)), (1, .int dp), (2, .int cy), (3, .int t), (4, .ref (E.1 2))]) C 5 rfl rfl (Nat.le_of_ble_eq_true rfl) rfl dX3_tryFrom_80 ?_
            refine v_goto (tgt := 43) C (by decide) dX3_tryFrom_83 ?_
            refine v_lv [1, 2, 3, 4, 5, 0] rfl ?_
            exact ih (x + (1 : Int32)) σ1 (up_step (B := 6) rfl (by decide) hI h2) (by rw [hL, L_X3_tryFrom_43, if_neg h1, if_neg h2, if_neg h3])
          · refine v_aload_n C 0 rfl dX3_tryFrom_69 ?_
            refine v_iload C 5 rfl dX3_tryFrom_70 ?_
            refine v_iload_n C 1 rfl dX3_tryFrom_72 ?_
            refine v_iload_n C 2 rfl dX3_tryFrom_73 ?_
            refine v_iload_n C 3 rfl dX3_tryFrom_74 ?_
            refine v_aload C 4 rfl dX3_tryFrom_75 ?_
            refine v_cV0 (rest := []) C mv_RX3_101 (hrec σ1 μ Y x dp cy t hP) 10 g_10 rfl rfl rfl rfl (Nat.le_of_ble_eq_true rfl) ⟨by show fr + 1 ≤ fr + 10; omega, by show 8 + (8 + 11) + lo ≤ lo + 400; omega⟩ ⟨rfl, rfl⟩ ⟨Nat.zero_le _, Nat.zero_le _⟩ dX3_tryFrom_77 ?_
            refine v_iinc (v := x + (1 : Int32)) (lv' := [(5, .int (x + (1 : Int32))), (0, .ref (E.1 10)), (1, .int dp), (2, .int cy), (3, .int t), (4, .ref (E.1 2))]) C 5 rfl rfl (Nat.le_of_ble_eq_true rfl) rfl dX3_tryFrom_80 ?_
            refine v_goto (tgt := 43) C (by decide) dX3_tryFrom_83 ?_
            refine v_lv [1, 2, 3, 4, 5, 0] rfl ?_
            exact ih (x + (1 : Int32)) (rc σ1 x dp cy t) (up_step (B := 6) rfl (by decide) hI h2) (by rw [hL, L_X3_tryFrom_43, if_neg h1, if_neg h2, if_pos h3])
  show V zp l ze (rms_X3_tryFrom fr lo) zs zm za zb zt zc 6 G zA 0 0 Q 0 [(0, .ref (E.1 10)), (1, .int dp), (2, .int cy), (3, .int t), (4, .ref (E.1 2))] [] (Wd G E σ μ Y)
  refine v_iload_n C 3 rfl dX3_tryFrom_0 ?_
  refine v_aload_n C 0 rfl dX3_tryFrom_1 ?_
  refine v_get (v := .int (σ 10 1)) C fl_RX3_80 10 g_10 rfl dX3_tryFrom_2 ?_
  refine v_icmp_lt (tgt := 9) C (by decide) dX3_tryFrom_5 (fun h4 => ?_) (fun h4 => ?_)
  · refine v_iload_n C 1 rfl dX3_tryFrom_9 ?_
    refine v_aload_n C 0 rfl dX3_tryFrom_10 ?_
    refine v_get (v := .int (σ 10 0)) C fl_RX3_37 10 g_10 rfl dX3_tryFrom_11 ?_
    refine v_icmp_ge (tgt := 23) C (by decide) dX3_tryFrom_14 (fun h5 => ?_) (fun h5 => ?_)
    · refine v_aload_n C 0 rfl dX3_tryFrom_23 ?_
      refine v_iload_n C 3 rfl dX3_tryFrom_24 ?_
      refine v_put C fp_RX3_80 10 g_10 rfl rfl (Nat.le_of_ble_eq_true rfl) (p_10_1 _) dX3_tryFrom_25 ?_
      refine v_aload_n C 0 rfl dX3_tryFrom_28 ?_
      refine v_get (v := .ref (E.1 17)) C fl_RX3_31 10 g_10 rfl dX3_tryFrom_29 ?_
      refine v_aload_n C 0 rfl dX3_tryFrom_32 ?_
      refine v_get (v := .ref (E.1 18)) C fl_RX3_34 10 g_10 rfl dX3_tryFrom_33 ?_
      refine v_cN0 (rest := []) C mn_RX3_97 w_361 (m_X9_copyNumbers_17_18 l G E (s2 σ 10 1 t) μ Y) rfl rfl (Nat.le_of_ble_eq_true rfl) ⟨by show 1 + 1 ≤ fr + 10; omega, by show 8 + (2 + 11) + 60 ≤ lo + 400; omega⟩ ⟨rfl, rfl⟩ ⟨Nat.zero_le _, Nat.zero_le _⟩ dX3_tryFrom_36 ?_
      have e1 : G_X3_tryFrom rc σ dp cy t = (F_X9_copyNumbers_17_18 (s2 σ 10 1 t)) := by rw [G_X3_tryFrom, if_pos h4, if_pos h5]
      exact v_Q hQ (v_vret C () trivial rfl (by rw [e1]) (Nat.zero_le _) (Nat.zero_le _) dX3_tryFrom_39)
    · refine v_iload_n C 1 rfl dX3_tryFrom_17 ?_
      refine v_bipush (v := (6 : Int32)) C (by decide) dX3_tryFrom_18 ?_
      refine v_icmp_lt (tgt := 40) C (by decide) dX3_tryFrom_20 (fun h6 => ?_) (fun h6 => ?_)
      · refine v_iconst (v := (0 : Int32)) C (by decide) dX3_tryFrom_40 ?_
        refine v_istore (lv' := [(5, .int (0 : Int32)), (0, .ref (E.1 10)), (1, .int dp), (2, .int cy), (3, .int t), (4, .ref (E.1 2))]) C (Nat.le_of_ble_eq_true rfl) rfl dX3_tryFrom_41 ?_
        refine v_lv [1, 2, 3, 4, 5, 0] rfl ?_
        exact loop_43 7 (0 : Int32) σ (⟨0, rfl, by omega, by omega⟩) (by rw [G_X3_tryFrom, if_pos h4, if_neg h5, if_pos h6])
      · refine v_aload_n C 0 rfl dX3_tryFrom_23 ?_
        refine v_iload_n C 3 rfl dX3_tryFrom_24 ?_
        refine v_put C fp_RX3_80 10 g_10 rfl rfl (Nat.le_of_ble_eq_true rfl) (p_10_1 _) dX3_tryFrom_25 ?_
        refine v_aload_n C 0 rfl dX3_tryFrom_28 ?_
        refine v_get (v := .ref (E.1 17)) C fl_RX3_31 10 g_10 rfl dX3_tryFrom_29 ?_
        refine v_aload_n C 0 rfl dX3_tryFrom_32 ?_
        refine v_get (v := .ref (E.1 18)) C fl_RX3_34 10 g_10 rfl dX3_tryFrom_33 ?_
        refine v_cN0 (rest := []) C mn_RX3_97 w_361 (m_X9_copyNumbers_17_18 l G E (s2 σ 10 1 t) μ Y) rfl rfl (Nat.le_of_ble_eq_true rfl) ⟨by show 1 + 1 ≤ fr + 10; omega, by show 8 + (2 + 11) + 60 ≤ lo + 400; omega⟩ ⟨rfl, rfl⟩ ⟨Nat.zero_le _, Nat.zero_le _⟩ dX3_tryFrom_36 ?_
        have e1 : G_X3_tryFrom rc σ dp cy t = (F_X9_copyNumbers_17_18 (s2 σ 10 1 t)) := by rw [G_X3_tryFrom, if_pos h4, if_neg h5, if_neg h6]
        exact v_Q hQ (v_vret C () trivial rfl (by rw [e1]) (Nat.zero_le _) (Nat.zero_le _) dX3_tryFrom_39)
  · have e1 : G_X3_tryFrom rc σ dp cy t = σ := by rw [G_X3_tryFrom, if_neg h4]
    exact v_Q hQ (v_vret C () trivial rfl (by rw [e1]) (Nat.zero_le _) (Nat.zero_le _) dX3_tryFrom_8)
def F_tryD : Nat → Sg → Int32 → Int32 → Int32 → Sg
  | 0 => fun σ _ _ _ => σ
  | D + 1 => G_X3_tryFrom (G_X3_tryNext (F_tryD D))
theorem m_tryD (l : Launch) (G : GG) (E : EE) : ∀ (D : Nat) (σ μ : Sg) (Y : va_W) (dp cy t : Int32), TP D dp → KK l G yX3_tryFrom cX3_tryFrom 6 none { frames := 20 * D, cells := 0, slots := 0, locals := 800 * D } [.ref (E.1 10), .int dp, .int cy, .int t, .ref (E.1 2)] (Wd G E σ μ Y) none (Wd G E (F_tryD D σ dp cy t) μ Y) := by
  intro D
  induction D with
  | zero =>
    intro σ μ Y dp cy t h
    obtain ⟨j, -, hj, h⟩ := h
    exact absurd h (by omega)
  | succ D ih =>
    intro σ μ Y dp cy t h
    exact m_X3_tryFrom_step l G E (20 * D + 10) (800 * D + 400) (G_X3_tryNext (F_tryD D)) (D + 1) (fun σ μ Y nx dp cy t h => m_X3_tryNext_step l G E (20 * D) (800 * D) (F_tryD D) D ih σ μ Y nx dp cy t h) σ μ Y dp cy t h
def F_X3_tryFrom (σ : Sg) (dp cy t : Int32) : Sg := F_tryD 7 σ dp cy t
abbrev rm_X3_tryFrom : Room := { frames := 140, cells := 0, slots := 0, locals := 5600 }
theorem m_X3_tryFrom (l : Launch) (G : GG) (E : EE) (σ μ : Sg) (Y : va_W) (dp cy t : Int32) (hP : TP 7 dp) : KK l G yX3_tryFrom cX3_tryFrom 6 none rm_X3_tryFrom [.ref (E.1 10), .int dp, .int cy, .int t, .ref (E.1 2)] (Wd G E σ μ Y) none (Wd G E (F_X3_tryFrom σ dp cy t) μ Y) := m_tryD l G E 7 σ μ Y dp cy t hP
def F_X3_run (σ : Sg) : Sg := (F_X3_tryFrom (s2 σ 10 1 (1000000000 : Int32)) (0 : Int32) (σ 2 5) (σ 2 4))
abbrev rm_X3_run : Room := { frames := 141, cells := 0, slots := 0, locals := 5625 }
set_option maxRecDepth 100000 in
set_option maxHeartbeats 4000000 in
theorem m_X3_run (l : Launch) (G : GG) (E : EE) (σ μ : Sg) (Y : va_W) : KK l G yX3_run cX3_run 2 none rm_X3_run [.ref (E.1 10), .ref (E.1 2)] (Wd G E σ μ Y) none (Wd G E (F_X3_run σ) μ Y) := by
  refine KE.of (by decide) (Nat.le_of_ble_eq_true rfl) ?_
  intro zp ze zs zm za zb zt zc zA C _
  generalize hQ : MQ zb _ za zs _ _ zA = Q
  show V zp l ze rm_X3_run zs zm za zb zt zc 2 G zA 0 0 Q 0 [(0, .ref (E.1 10)), (1, .ref (E.1 2))] [] (Wd G E σ μ Y)
  refine v_aload_n C 0 rfl dX3_run_0 ?_
  refine v_ldc (v := (1000000000 : Int32)) C w_891 dX3_run_1 ?_
  refine v_put C fp_RX3_80 10 g_10 rfl rfl (Nat.le_of_ble_eq_true rfl) (p_10_1 _) dX3_run_3 ?_
  refine v_aload_n C 0 rfl dX3_run_6 ?_
  refine v_iconst (v := (0 : Int32)) C (by decide) dX3_run_7 ?_
  refine v_aload_n C 1 rfl dX3_run_8 ?_
  refine v_get (v := .int (σ 2 5)) C fl_RX3_83 2 g_2 rfl dX3_run_9 ?_
  refine v_aload_n C 1 rfl dX3_run_12 ?_
  refine v_get (v := .int (σ 2 4)) C fl_RX3_86 2 g_2 rfl dX3_run_13 ?_
  refine v_aload_n C 1 rfl dX3_run_16 ?_
  refine v_cV0 (rest := []) C mv_RX3_89 (m_X3_tryFrom l G E (s2 σ 10 1 (1000000000 : Int32)) μ Y (0 : Int32) (σ 2 5) (σ 2 4) (⟨0, rfl, by omega, by omega⟩)) 10 g_10 rfl rfl rfl rfl (Nat.le_of_ble_eq_true rfl) ⟨Nat.le_of_ble_eq_true rfl, Nat.le_of_ble_eq_true rfl⟩ ⟨rfl, rfl⟩ ⟨Nat.zero_le _, Nat.zero_le _⟩ dX3_run_17 ?_
  have e1 : F_X3_run σ = (F_X3_tryFrom (s2 σ 10 1 (1000000000 : Int32)) (0 : Int32) (σ 2 5) (σ 2 4)) := by rw [F_X3_run]
  exact v_Q hQ (v_vret C () trivial rfl (by rw [e1]) (Nat.zero_le _) (Nat.zero_le _) dX3_run_20)
