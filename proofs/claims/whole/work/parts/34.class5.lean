theorem s2_f {σ : Sg} {i k c : Nat} {v : Int32} (h : c ≠ i) : s2 σ i k v c = σ c := by simp [s2, h]
/-- what the searches leave alone -/
def OUT (c : Nat) : Prop := c < 10 ∨ 18 < c
theorem L_gather_fr {σ : Sg} {on he : Int32} {c : Nat} (hc : OUT c) : ∀ (n : Nat) (x : Int32) (σ1 : Sg), σ1 c = σ c → L_X3_gather_8 σ on he n x σ1 c = σ c := by
  unfold OUT at hc
  intro n
  induction n with
  | zero => intro x σ1 h; rfl
  | succ n ih =>
    intro x σ1 h
    rw [L_X3_gather_8]
    split
    · exact h
    split
    · exact h
    rcases F_X6_findPending σ1 x with _ | i
    · exact ih _ _ h
    · simp only [Option.elim]
      (repeat' split) <;> first | exact ih _ _ h | exact ih _ _ (by simp only [s2_f (show c ≠ 10 by omega), s2_f (show c ≠ 11 by omega), s2_f (show c ≠ 12 by omega), s2_f (show c ≠ 13 by omega), s2_f (show c ≠ 14 by omega), s2_f (show c ≠ 15 by omega), s2_f (show c ≠ 16 by omega)]; exact h)
theorem gather_fr {σ : Sg} {on he : Int32} {c : Nat} (hc : OUT c) : F_X3_gather σ on he c = σ c := by
  unfold F_X3_gather
  exact L_gather_fr hc _ _ _ (s2_f (by unfold OUT at hc; omega))
/-- what a run leaves alone -/
def OUT2 (c : Nat) : Prop := c ≠ 10 ∧ c ≠ 16 ∧ c ≠ 17 ∧ c ≠ 18
theorem OUT.two {c : Nat} (h : OUT c) : OUT2 c := by unfold OUT at h; exact ⟨by omega, by omega, by omega, by omega⟩
theorem L_try_fr {rc : Sg → Int32 → Int32 → Int32 → Int32 → Sg} {σ : Sg} {dp cy t : Int32} {c : Nat} (hrc : ∀ σ nx dp cy t, rc σ nx dp cy t c = σ c) : ∀ (n : Nat) (x : Int32) (σ1 : Sg), σ1 c = σ c → L_X3_tryFrom_43 rc σ dp cy t n x σ1 c = σ c := by
  intro n
  induction n with
  | zero => intro x σ1 h; rfl
  | succ n ih =>
    intro x σ1 h
    rw [L_X3_tryFrom_43]
    split
    · exact h
    split
    · exact h
    split
    · exact ih _ _ (by rw [hrc]; exact h)
    · exact ih _ _ h
theorem tryF_fr {rc : Sg → Int32 → Int32 → Int32 → Int32 → Sg} {σ : Sg} {dp cy t : Int32} {c : Nat} (hc : OUT2 c) (hrc : ∀ σ nx dp cy t, rc σ nx dp cy t c = σ c) : G_X3_tryFrom rc σ dp cy t c = σ c := by
  have e : F_X9_copyNumbers_17_18 (s2 σ 10 1 t) c = σ c := by unfold F_X9_copyNumbers_17_18; rw [sC_n hc.2.2.2, s2_f hc.1]
  unfold G_X3_tryFrom
  split
  · split
    · exact e
    · split
      · exact L_try_fr hrc _ _ _ rfl
      · exact e
  · rfl
theorem tryN_fr {rc : Sg → Int32 → Int32 → Int32 → Sg} {σ : Sg} {nx dp cy t : Int32} {c : Nat} (hc : OUT2 c) (hrc : ∀ σ dp cy t, rc σ dp cy t c = σ c) : G_X3_tryNext rc σ nx dp cy t c = σ c := by
  unfold G_X3_tryNext
  split
  · rfl
  split
  · rfl
  split
  · rfl
  · rw [s2_f hc.2.1, hrc, s2_f hc.2.2.1, s2_f hc.2.1]
theorem tryD_fr {c : Nat} (hc : OUT2 c) : ∀ (D : Nat) (σ : Sg) (dp cy t : Int32), F_tryD D σ dp cy t c = σ c := by
  intro D
  induction D with
  | zero => intro σ dp cy t; rfl
  | succ D ih =>
    intro σ dp cy t
    exact tryF_fr hc (fun σ nx dp cy t => tryN_fr hc ih)
theorem run_fr {σ : Sg} {c : Nat} (hc : OUT2 c) : F_X3_run σ c = σ c := by
  unfold F_X3_run F_X3_tryFrom
  rw [tryD_fr hc, s2_f hc.1]
def L_X7_choose_52 (σ : Sg) : Nat → Int32 → Int32 → Int32 → Sg → Int32 × Sg
  | 0, _, _, _, _ => (0, σ)
  | n + 1, ch, lk, x, σ1 => (if (σ1 5 0) ≤ x then (ch, σ1) else (Option.elim (F_X6_findPending σ1 x) (if lk ≤ (1000000000 : Int32) then L_X7_choose_52 σ n ch lk (x + (1 : Int32)) σ1 else L_X7_choose_52 σ n x (1000000000 : Int32) (x + (1 : Int32)) σ1) (fun i2 => (if lk ≤ (F_X7_keyOf σ1 i2) then L_X7_choose_52 σ n ch lk (x + (1 : Int32)) σ1 else L_X7_choose_52 σ n x (F_X7_keyOf σ1 i2) (x + (1 : Int32)) σ1))))
def F_X7_choose (σ : Sg) : Int32 × Sg := (if (σ 7 0) = (6 : Int32) then (let r1 := F_X3_gather σ (1 : Int32) (1 : Int32); (let r2 := F_X3_run r1; (if (r2 10 0) ≤ 0 then L_X7_choose_52 σ 81 (-1 : Int32) (1000000000 : Int32) (0 : Int32) r2 else (if (F_X3_hasFound r2) = 0 then L_X7_choose_52 σ 81 (-1 : Int32) (1000000000 : Int32) (0 : Int32) r2 else (F_X3_requestAt r2 (0 : Int32), r2))))) else L_X7_choose_52 σ 81 (-1 : Int32) (1000000000 : Int32) (0 : Int32) σ)
abbrev rm_X7_choose : Room := { frames := 142, cells := 0, slots := 0, locals := 5646 }
set_option maxRecDepth 100000 in
set_option maxHeartbeats 4000000 in
theorem m_X7_choose (l : Launch) (G : GG) (E : EE) (σ μ : Sg) (Y : va_W) (hK : CNT E σ) : KK l G yX7_choose cX7_choose 9 (some .int) rm_X7_choose [.ref (E.1 7), .ref (E.1 5), .ref (E.1 2), .ref (E.1 10)] (Wd G E σ μ Y) (some (.int (F_X7_choose σ).1)) (Wd G E (F_X7_choose σ).2 μ Y) := by
  refine KE.of (by decide) (Nat.le_of_ble_eq_true rfl) ?_
  intro zp ze zs zm za zb zt zc zA C _
  generalize hQ : MQ zb _ za zs _ _ zA = Q
  have loop_52 : ∀ (n : Nat) (ch : Int32) (lk : Int32) (x : Int32) (σ1 : Sg), (CNT E σ1 ∧ ∃ j : Nat, x = nI j ∧ j ≤ 80 ∧ j + n = 81) → F_X7_choose σ = L_X7_choose_52 σ n ch lk x σ1 → V zp l ze rm_X7_choose zs zm za zb zt zc 9 G zA 0 0 Q 52 [(0, .ref (E.1 7)), (1, .ref (E.1 5)), (2, .ref (E.1 2)), (3, .ref (E.1 10)), (4, .int ch), (5, .int lk), (6, .int x)] [] (Wd G E σ1 μ Y) := by
    intro n
    induction n with
    | zero =>
      intro ch lk x σ1 hI hL
      exact False.elim (by obtain ⟨_, j, _, h8, h⟩ := hI; omega)
    | succ n ih =>
      intro ch lk x σ1 hI hL
      obtain ⟨hK1, hJ⟩ := hI
      refine v_iload C 6 rfl dX7_choose_52 ?_
      refine v_aload_n C 1 rfl dX7_choose_54 ?_
      refine v_get (v := .int (σ1 5 0)) C fl_RX7_47 5 g_5 rfl dX7_choose_55 ?_
      refine v_icmp_ge (tgt := 109) C (by decide) dX7_choose_58 (fun h1 => ?_) (fun h1 => ?_)
      · refine v_iload C 4 rfl dX7_choose_109 ?_
        have e1 : F_X7_choose σ = (ch, σ1) := by rw [hL, L_X7_choose_52, if_pos h1]
        exact v_Q hQ (v_iret C () trivial (by rw [e1]) (by rw [e1]) (Nat.zero_le _) (Nat.zero_le _) dX7_choose_111)
      · refine v_aload_n C 1 rfl dX7_choose_61 ?_
        refine v_iload C 6 rfl dX7_choose_62 ?_
        refine v_cVo (rest := []) C mv_RX7_52 (m_X6_findPending l G E σ1 μ Y x hK1) 5 g_5 rfl rfl rfl rfl (Nat.le_of_ble_eq_true rfl) ⟨Nat.le_of_ble_eq_true rfl, Nat.le_of_ble_eq_true rfl⟩ ⟨rfl, rfl⟩ ⟨Nat.zero_le _, Nat.zero_le _⟩ dX7_choose_64 (fun h2 => ?_) (fun i2 h2 => ?_)
        · refine v_astoreN (lv' := [(7, .null), (0, .ref (E.1 7)), (1, .ref (E.1 5)), (2, .ref (E.1 2)), (3, .ref (E.1 10)), (4, .int ch), (5, .int lk), (6, .int x)]) C (Nat.le_of_ble_eq_true rfl) rfl dX7_choose_67 ?_
          refine v_aloadN C 0 rfl dX7_choose_69 ?_
          refine v_ifnullN (tgt := 84) C (by decide) dX7_choose_71 ?_
          refine v_ldc (v := (1000000000 : Int32)) C w_916 dX7_choose_84 ?_
          refine v_istore (lv' := [(8, .int (1000000000 : Int32)), (7, .null), (0, .ref (E.1 7)), (1, .ref (E.1 5)), (2, .ref (E.1 2)), (3, .ref (E.1 10)), (4, .int ch), (5, .int lk), (6, .int x)]) C (Nat.le_of_ble_eq_true rfl) rfl dX7_choose_86 ?_
          refine v_iload C 0 rfl dX7_choose_88 ?_
          refine v_iload C 7 rfl dX7_choose_90 ?_
          refine v_icmp_ge (tgt := 103) C (by decide) dX7_choose_92 (fun h3 => ?_) (fun h3 => ?_)
          · refine v_iinc (v := x + (1 : Int32)) (lv' := [(6, .int (x + (1 : Int32))), (8, .int (1000000000 : Int32)), (7, .null), (0, .ref (E.1 7)), (1, .ref (E.1 5)), (2, .ref (E.1 2)), (3, .ref (E.1 10)), (4, .int ch), (5, .int lk)]) C 8 rfl rfl (Nat.le_of_ble_eq_true rfl) rfl dX7_choose_103 ?_
            refine v_goto (tgt := 52) C (by decide) dX7_choose_106 ?_
            refine v_lv [3, 4, 5, 6, 7, 8, 0] rfl ?_
            exact ih ch lk (x + (1 : Int32)) σ1 (⟨hK1, cnt_step hK1 hJ h1⟩) (by rw [hL, L_X7_choose_52, if_neg h1, oel_none h2, if_pos h3])
          · refine v_iload C 8 rfl dX7_choose_95 ?_
            refine v_istore (lv' := [(4, .int x), (8, .int (1000000000 : Int32)), (7, .null), (0, .ref (E.1 7)), (1, .ref (E.1 5)), (2, .ref (E.1 2)), (3, .ref (E.1 10)), (5, .int lk), (6, .int x)]) C (Nat.le_of_ble_eq_true rfl) rfl dX7_choose_97 ?_
            refine v_iload C 1 rfl dX7_choose_99 ?_
            refine v_istore (lv' := [(5, .int (1000000000 : Int32)), (4, .int x), (8, .int (1000000000 : Int32)), (7, .null), (0, .ref (E.1 7)), (1, .ref (E.1 5)), (2, .ref (E.1 2)), (3, .ref (E.1 10)), (6, .int x)]) C (Nat.le_of_ble_eq_true rfl) rfl dX7_choose_101 ?_
            refine v_iinc (v := x + (1 : Int32)) (lv' := [(6, .int (x + (1 : Int32))), (5, .int (1000000000 : Int32)), (4, .int x), (8, .int (1000000000 : Int32)), (7, .null), (0, .ref (E.1 7)), (1, .ref (E.1 5)), (2, .ref (E.1 2)), (3, .ref (E.1 10))]) C 8 rfl rfl (Nat.le_of_ble_eq_true rfl) rfl dX7_choose_103 ?_
            refine v_goto (tgt := 52) C (by decide) dX7_choose_106 ?_
            refine v_lv [5, 6, 7, 8, 2, 1, 0] rfl ?_
            exact ih x (1000000000 : Int32) (x + (1 : Int32)) σ1 (⟨hK1, cnt_step hK1 hJ h1⟩) (by rw [hL, L_X7_choose_52, if_neg h1, oel_none h2, if_neg h3])
        · have hl0 := (findPending_some hK1 h2).1
          refine v_astore (lv' := [(7, .ref (E.2.1 i2)), (0, .ref (E.1 7)), (1, .ref (E.1 5)), (2, .ref (E.1 2)), (3, .ref (E.1 10)), (4, .int ch), (5, .int lk), (6, .int x)]) C (Nat.le_of_ble_eq_true rfl) rfl dX7_choose_67 ?_
          refine v_aload C 0 rfl dX7_choose_69 ?_
          refine v_ifnull C dX7_choose_71 ?_
          refine v_aload_n C 1 rfl dX7_choose_74 ?_
          refine v_aload C 0 rfl dX7_choose_75 ?_
          refine v_aload_n C 3 rfl dX7_choose_77 ?_
          refine v_cV1 (rest := []) C mv_RX7_56 (m_X7_keyOf l G E σ1 μ Y i2 (by assumption)) 7 g_7 rfl rfl rfl rfl (Nat.le_of_ble_eq_true rfl) ⟨Nat.le_of_ble_eq_true rfl, Nat.le_of_ble_eq_true rfl⟩ ⟨rfl, rfl⟩ ⟨Nat.zero_le _, Nat.zero_le _⟩ dX7_choose_78 ?_
          refine v_goto (tgt := 86) C (by decide) dX7_choose_81 ?_
          refine v_istore (lv' := [(8, .int (F_X7_keyOf σ1 i2)), (7, .ref (E.2.1 i2)), (0, .ref (E.1 7)), (1, .ref (E.1 5)), (2, .ref (E.1 2)), (3, .ref (E.1 10)), (4, .int ch), (5, .int lk), (6, .int x)]) C (Nat.le_of_ble_eq_true rfl) rfl dX7_choose_86 ?_
          refine v_iload C 0 rfl dX7_choose_88 ?_
          refine v_iload C 7 rfl dX7_choose_90 ?_
          refine v_icmp_ge (tgt := 103) C (by decide) dX7_choose_92 (fun h4 => ?_) (fun h4 => ?_)
          · refine v_iinc (v := x + (1 : Int32)) (lv' := [(6, .int (x + (1 : Int32))), (8, .int (F_X7_keyOf σ1 i2)), (7, .ref (E.2.1 i2)), (0, .ref (E.1 7)), (1, .ref (E.1 5)), (2, .ref (E.1 2)), (3, .ref (E.1 10)), (4, .int ch), (5, .int lk)]) C 8 rfl rfl (Nat.le_of_ble_eq_true rfl) rfl dX7_choose_103 ?_
            refine v_goto (tgt := 52) C (by decide) dX7_choose_106 ?_
            refine v_lv [3, 4, 5, 6, 7, 8, 0] rfl ?_
            exact ih ch lk (x + (1 : Int32)) σ1 (⟨hK1, cnt_step hK1 hJ h1⟩) (by rw [hL, L_X7_choose_52, if_neg h1, oel_some h2, if_pos h4])
          · refine v_iload C 8 rfl dX7_choose_95 ?_
            refine v_istore (lv' := [(4, .int x), (8, .int (F_X7_keyOf σ1 i2)), (7, .ref (E.2.1 i2)), (0, .ref (E.1 7)), (1, .ref (E.1 5)), (2, .ref (E.1 2)), (3, .ref (E.1 10)), (5, .int lk), (6, .int x)]) C (Nat.le_of_ble_eq_true rfl) rfl dX7_choose_97 ?_
            refine v_iload C 1 rfl dX7_choose_99 ?_
            refine v_istore (lv' := [(5, .int (F_X7_keyOf σ1 i2)), (4, .int x), (8, .int (F_X7_keyOf σ1 i2)), (7, .ref (E.2.1 i2)), (0, .ref (E.1 7)), (1, .ref (E.1 5)), (2, .ref (E.1 2)), (3, .ref (E.1 10)), (6, .int x)]) C (Nat.le_of_ble_eq_true rfl) rfl dX7_choose_101 ?_
            refine v_iinc (v := x + (1 : Int32)) (lv' := [(6, .int (x + (1 : Int32))), (5, .int (F_X7_keyOf σ1 i2)), (4, .int x), (8, .int (F_X7_keyOf σ1 i2)), (7, .ref (E.2.1 i2)), (0, .ref (E.1 7)), (1, .ref (E.1 5)), (2, .ref (E.1 2)), (3, .ref (E.1 10))]) C 8 rfl rfl (Nat.le_of_ble_eq_true rfl) rfl dX7_choose_103 ?_
            refine v_goto (tgt := 52) C (by decide) dX7_choose_106 ?_
            refine v_lv [5, 6, 7, 8, 2, 1, 0] rfl ?_
            exact ih x (F_X7_keyOf σ1 i2) (x + (1 : Int32)) σ1 (⟨hK1, cnt_step hK1 hJ h1⟩) (by rw [hL, L_X7_choose_52, if_neg h1, oel_some h2, if_neg h4])
  show V zp l ze rm_X7_choose zs zm za zb zt zc 9 G zA 0 0 Q 0 [(0, .ref (E.1 7)), (1, .ref (E.1 5)), (2, .ref (E.1 2)), (3, .ref (E.1 10))] [] (Wd G E σ μ Y)
  refine v_aload_n C 0 rfl dX7_choose_0 ?_
  refine v_get (v := .int (σ 7 0)) C fl_RX7_22 7 g_7 rfl dX7_choose_1 ?_
  refine v_bipush (v := (6 : Int32)) C (by decide) dX7_choose_4 ?_
  refine v_icmp_ne (tgt := 42) C (by decide) dX7_choose_6 (fun h5 => ?_) (fun h5 => ?_)
  · refine v_iconst (v := (-1 : Int32)) C (by decide) dX7_choose_42 ?_
    refine v_istore (lv' := [(4, .int (-1 : Int32)), (0, .ref (E.1 7)), (1, .ref (E.1 5)), (2, .ref (E.1 2)), (3, .ref (E.1 10))]) C (Nat.le_of_ble_eq_true rfl) rfl dX7_choose_43 ?_
    refine v_ldc (v := (1000000000 : Int32)) C w_916 dX7_choose_45 ?_
    refine v_istore (lv' := [(5, .int (1000000000 : Int32)), (4, .int (-1 : Int32)), (0, .ref (E.1 7)), (1, .ref (E.1 5)), (2, .ref (E.1 2)), (3, .ref (E.1 10))]) C (Nat.le_of_ble_eq_true rfl) rfl dX7_choose_47 ?_
    refine v_iconst (v := (0 : Int32)) C (by decide) dX7_choose_49 ?_
    refine v_istore (lv' := [(6, .int (0 : Int32)), (5, .int (1000000000 : Int32)), (4, .int (-1 : Int32)), (0, .ref (E.1 7)), (1, .ref (E.1 5)), (2, .ref (E.1 2)), (3, .ref (E.1 10))]) C (Nat.le_of_ble_eq_true rfl) rfl dX7_choose_50 ?_
    refine v_lv [3, 4, 5, 6, 2, 1, 0] rfl ?_
    exact loop_52 81 (-1 : Int32) (1000000000 : Int32) (0 : Int32) σ (⟨by assumption, 0, rfl, by omega, by omega⟩) (by rw [F_X7_choose, if_neg h5])
  · refine v_aload_n C 3 rfl dX7_choose_9 ?_
    refine v_aload_n C 1 rfl dX7_choose_10 ?_
    refine v_aload_n C 2 rfl dX7_choose_11 ?_
    refine v_iconst (v := (1 : Int32)) C (by decide) dX7_choose_12 ?_
    refine v_iconst (v := (1 : Int32)) C (by decide) dX7_choose_13 ?_
    refine v_cV0 (rest := []) C mv_RX7_25 (m_X3_gather l G E σ μ Y (1 : Int32) (1 : Int32) hK) 10 g_10 rfl rfl rfl rfl (Nat.le_of_ble_eq_true rfl) ⟨Nat.le_of_ble_eq_true rfl, Nat.le_of_ble_eq_true rfl⟩ ⟨rfl, rfl⟩ ⟨Nat.zero_le _, Nat.zero_le _⟩ dX7_choose_14 ?_
    generalize hr1 : F_X3_gather σ (1 : Int32) (1 : Int32) = r1
    have hK1 : CNT E r1 := hK.same (by rw [← hr1, gather_fr (Or.inl (by decide))])
    refine v_aload_n C 3 rfl dX7_choose_17 ?_
    refine v_aload_n C 2 rfl dX7_choose_18 ?_
    refine v_cV0 (rest := []) C mv_RX7_31 (m_X3_run l G E r1 μ Y) 10 g_10 rfl rfl rfl rfl (Nat.le_of_ble_eq_true rfl) ⟨Nat.le_of_ble_eq_true rfl, Nat.le_of_ble_eq_true rfl⟩ ⟨rfl, rfl⟩ ⟨Nat.zero_le _, Nat.zero_le _⟩ dX7_choose_19 ?_
    generalize hr2 : F_X3_run r1 = r2
    have hK2 : CNT E r2 := hK1.same (by rw [← hr2, run_fr (OUT.two (Or.inl (by decide)))])
    refine v_aload_n C 3 rfl dX7_choose_22 ?_
    refine v_get (v := .int (r2 10 0)) C fl_RX7_35 10 g_10 rfl dX7_choose_23 ?_
    refine v_if_le (tgt := 42) C (by decide) dX7_choose_26 (fun h6 => ?_) (fun h6 => ?_)
    · refine v_iconst (v := (-1 : Int32)) C (by decide) dX7_choose_42 ?_
      refine v_istore (lv' := [(4, .int (-1 : Int32)), (0, .ref (E.1 7)), (1, .ref (E.1 5)), (2, .ref (E.1 2)), (3, .ref (E.1 10))]) C (Nat.le_of_ble_eq_true rfl) rfl dX7_choose_43 ?_
      refine v_ldc (v := (1000000000 : Int32)) C w_916 dX7_choose_45 ?_
      refine v_istore (lv' := [(5, .int (1000000000 : Int32)), (4, .int (-1 : Int32)), (0, .ref (E.1 7)), (1, .ref (E.1 5)), (2, .ref (E.1 2)), (3, .ref (E.1 10))]) C (Nat.le_of_ble_eq_true rfl) rfl dX7_choose_47 ?_
      refine v_iconst (v := (0 : Int32)) C (by decide) dX7_choose_49 ?_
      refine v_istore (lv' := [(6, .int (0 : Int32)), (5, .int (1000000000 : Int32)), (4, .int (-1 : Int32)), (0, .ref (E.1 7)), (1, .ref (E.1 5)), (2, .ref (E.1 2)), (3, .ref (E.1 10))]) C (Nat.le_of_ble_eq_true rfl) rfl dX7_choose_50 ?_
      refine v_lv [3, 4, 5, 6, 2, 1, 0] rfl ?_
      exact loop_52 81 (-1 : Int32) (1000000000 : Int32) (0 : Int32) r2 (⟨by assumption, 0, rfl, by omega, by omega⟩) (by rw [F_X7_choose]; simp only [if_pos h5, hr1, hr2, if_pos h6])
    · refine v_aload_n C 3 rfl dX7_choose_29 ?_
      refine v_cV1 (rest := []) C mv_RX7_38 (m_X3_hasFound l G E r2 μ Y) 10 g_10 rfl rfl rfl rfl (Nat.le_of_ble_eq_true rfl) ⟨Nat.le_of_ble_eq_true rfl, Nat.le_of_ble_eq_true rfl⟩ ⟨rfl, rfl⟩ ⟨Nat.zero_le _, Nat.zero_le _⟩ dX7_choose_30 ?_
      refine v_if_eq (tgt := 42) C (by decide) dX7_choose_33 (fun h7 => ?_) (fun h7 => ?_)
      · refine v_iconst (v := (-1 : Int32)) C (by decide) dX7_choose_42 ?_
        refine v_istore (lv' := [(4, .int (-1 : Int32)), (0, .ref (E.1 7)), (1, .ref (E.1 5)), (2, .ref (E.1 2)), (3, .ref (E.1 10))]) C (Nat.le_of_ble_eq_true rfl) rfl dX7_choose_43 ?_
        refine v_ldc (v := (1000000000 : Int32)) C w_916 dX7_choose_45 ?_
        refine v_istore (lv' := [(5, .int (1000000000 : Int32)), (4, .int (-1 : Int32)), (0, .ref (E.1 7)), (1, .ref (E.1 5)), (2, .ref (E.1 2)), (3, .ref (E.1 10))]) C (Nat.le_of_ble_eq_true rfl) rfl dX7_choose_47 ?_
        refine v_iconst (v := (0 : Int32)) C (by decide) dX7_choose_49 ?_
        refine v_istore (lv' := [(6, .int (0 : Int32)), (5, .int (1000000000 : Int32)), (4, .int (-1 : Int32)), (0, .ref (E.1 7)), (1, .ref (E.1 5)), (2, .ref (E.1 2)), (3, .ref (E.1 10))]) C (Nat.le_of_ble_eq_true rfl) rfl dX7_choose_50 ?_
        refine v_lv [3, 4, 5, 6, 2, 1, 0] rfl ?_
        exact loop_52 81 (-1 : Int32) (1000000000 : Int32) (0 : Int32) r2 (⟨by assumption, 0, rfl, by omega, by omega⟩) (by rw [F_X7_choose]; simp only [if_pos h5, hr1, hr2, if_neg h6, if_pos h7])
      · refine v_aload_n C 3 rfl dX7_choose_36 ?_
        refine v_iconst (v := (0 : Int32)) C (by decide) dX7_choose_37 ?_
        refine v_cV1 (rest := []) C mv_RX7_42 (m_X3_requestAt l G E r2 μ Y (0 : Int32)) 10 g_10 rfl rfl rfl rfl (Nat.le_of_ble_eq_true rfl) ⟨Nat.le_of_ble_eq_true rfl, Nat.le_of_ble_eq_true rfl⟩ ⟨rfl, rfl⟩ ⟨Nat.zero_le _, Nat.zero_le _⟩ dX7_choose_38 ?_
        have e1 : F_X7_choose σ = (F_X3_requestAt r2 (0 : Int32), r2) := by rw [F_X7_choose]; simp only [if_pos h5, hr1, hr2, if_neg h6, if_neg h7]
        exact v_Q hQ (v_iret C () trivial (by rw [e1]) (by rw [e1]) (Nat.zero_le _) (Nat.zero_le _) dX7_choose_41)
theorem L_choose_fr {σ : Sg} {c : Nat} : ∀ (n : Nat) (ch lk x : Int32) (σ1 : Sg), σ1 c = σ c → (L_X7_choose_52 σ n ch lk x σ1).2 c = σ c := by
  intro n
  induction n with
  | zero => intro ch lk x σ1 h; rfl
  | succ n ih =>
    intro ch lk x σ1 h
    rw [L_X7_choose_52]
    split
    · exact h
    rcases F_X6_findPending σ1 x with _ | i
    · simp only [Option.elim]
      (repeat' split) <;> exact ih _ _ _ _ h
    · simp only [Option.elim]
      (repeat' split) <;> exact ih _ _ _ _ h
theorem choose_fr {σ : Sg} {c : Nat} (hc : OUT c) : (F_X7_choose σ).2 c = σ c := by
  have e : F_X3_run (F_X3_gather σ 1 1) c = σ c := by rw [run_fr hc.two, gather_fr hc]
  unfold F_X7_choose
  simp only []
  (repeat' split) <;> first | exact e | exact L_choose_fr _ _ _ _ _ e | exact L_choose_fr _ _ _ _ _ rfl
def F_X8_serveChosen (σ : Sg) : Int32 × Sg := (let r1 := F_X7_choose σ; (Option.elim (F_X6_findPending r1.2 r1.1) ((-1 : Int32), r1.2) (fun i1 => (let r2 := F_X7_turnFor r1.2 (F_X2_cylinderOfPlace (F_X1_placeOfBlock r1.2 (r1.2 40 i1))) (r1.2 2 5); (let r3 := F_X1_access r2 (F_X1_placeOfBlock r1.2 (r1.2 40 i1)); (let r4 := F_X6_finishPending r3 i1 (r3 2 4); (nI i1, r4)))))))
abbrev rm_X8_serveChosen : Room := { frames := 143, cells := 0, slots := 0, locals := 5674 }
set_option maxRecDepth 100000 in
set_option maxHeartbeats 4000000 in
theorem m_X8_serveChosen (l : Launch) (G : GG) (E : EE) (σ μ : Sg) (Y : va_W) (hK : CNT E σ) : KK l G yX8_serveChosen cX8_serveChosen 4 (some .int) rm_X8_serveChosen [.ref (E.1 1), .ref (E.1 10)] (Wd G E σ μ Y) (some (.int (F_X8_serveChosen σ).1)) (Wd G E (F_X8_serveChosen σ).2 μ Y) := by
  refine KE.of (by decide) (Nat.le_of_ble_eq_true rfl) ?_
  intro zp ze zs zm za zb zt zc zA C _
  generalize hQ : MQ zb _ za zs _ _ zA = Q
  show V zp l ze rm_X8_serveChosen zs zm za zb zt zc 4 G zA 0 0 Q 0 [(0, .ref (E.1 1)), (1, .ref (E.1 10))] [] (Wd G E σ μ Y)
  refine v_aload_n C 0 rfl dX8_serveChosen_0 ?_
  refine v_get (v := .ref (E.1 5)) C fl_RX8_21 1 g_1 rfl dX8_serveChosen_1 ?_
  refine v_aload_n C 0 rfl dX8_serveChosen_4 ?_
  refine v_get (v := .ref (E.1 7)) C fl_RX8_28 1 g_1 rfl dX8_serveChosen_5 ?_
  refine v_aload_n C 0 rfl dX8_serveChosen_8 ?_
  refine v_get (v := .ref (E.1 5)) C fl_RX8_21 1 g_1 rfl dX8_serveChosen_9 ?_
  refine v_aload_n C 0 rfl dX8_serveChosen_12 ?_
  refine v_get (v := .ref (E.1 2)) C fl_RX8_12 1 g_1 rfl dX8_serveChosen_13 ?_
  refine v_aload_n C 1 rfl dX8_serveChosen_16 ?_
  refine v_cV1 (rest := [.ref (E.1 5)]) C mv_RX8_92 (m_X7_choose l G E σ μ Y hK) 7 g_7 rfl rfl rfl rfl (Nat.le_of_ble_eq_true rfl) ⟨Nat.le_of_ble_eq_true rfl, Nat.le_of_ble_eq_true rfl⟩ ⟨rfl, rfl⟩ ⟨Nat.zero_le _, Nat.zero_le _⟩ dX8_serveChosen_17 ?_
  generalize hr1 : F_X7_choose σ = r1
  have hK1 : CNT E r1.2 := hK.same (by rw [← hr1, choose_fr (Or.inl (by decide))])
  refine v_cVo (rest := []) C mv_RX8_96 (m_X6_findPending l G E r1.2 μ Y r1.1 hK1) 5 g_5 rfl rfl rfl rfl (Nat.le_of_ble_eq_true rfl) ⟨Nat.le_of_ble_eq_true rfl, Nat.le_of_ble_eq_true rfl⟩ ⟨rfl, rfl⟩ ⟨Nat.zero_le _, Nat.zero_le _⟩ dX8_serveChosen_20 (fun h1 => ?_) (fun i1 h1 => ?_)
  · refine v_astore_nN (lv' := [(2, .null), (0, .ref (E.1 1)), (1, .ref (E.1 10))]) C (Nat.le_of_ble_eq_true rfl) rfl dX8_serveChosen_23 ?_
    refine v_aload_nN C 0 rfl dX8_serveChosen_24 ?_
    refine v_ifnonnullN C dX8_serveChosen_25 ?_
    refine v_iconst (v := (-1 : Int32)) C (by decide) dX8_serveChosen_28 ?_
    have e1 : F_X8_serveChosen σ = ((-1 : Int32), r1.2) := by rw [F_X8_serveChosen]; simp only [hr1, oel_none h1]
    exact v_Q hQ (v_iret C () trivial (by rw [e1]) (by rw [e1]) (Nat.zero_le _) (Nat.zero_le _) dX8_serveChosen_29)
  · have hl0 := (findPending_some hK1 h1).1
    refine v_astore_n (lv' := [(2, .ref (E.2.1 i1)), (0, .ref (E.1 1)), (1, .ref (E.1 10))]) C (Nat.le_of_ble_eq_true rfl) rfl dX8_serveChosen_23 ?_
    refine v_aload_n C 0 rfl dX8_serveChosen_24 ?_
    refine v_ifnonnull (tgt := 30) C (by decide) dX8_serveChosen_25 ?_
    refine v_aload_n C 1 rfl dX8_serveChosen_30 ?_
    refine v_get (v := .ref (E.1 2)) C fl_RX8_12 1 g_1 rfl dX8_serveChosen_31 ?_
    refine v_aload_n C 0 rfl dX8_serveChosen_34 ?_
    refine v_get (v := .int (r1.2 40 i1)) C fl_RX8_100 (35 + i1) (g_row (by assumption)) rfl dX8_serveChosen_35 ?_
    refine v_cV1 (rest := []) C mv_RX8_103 (m_X1_placeOfBlock l G E r1.2 μ Y (r1.2 40 i1)) 2 g_2 rfl rfl rfl rfl (Nat.le_of_ble_eq_true rfl) ⟨Nat.le_of_ble_eq_true rfl, Nat.le_of_ble_eq_true rfl⟩ ⟨rfl, rfl⟩ ⟨Nat.zero_le _, Nat.zero_le _⟩ dX8_serveChosen_38 ?_
    refine v_istore_n (lv' := [(3, .int (F_X1_placeOfBlock r1.2 (r1.2 40 i1))), (2, .ref (E.2.1 i1)), (0, .ref (E.1 1)), (1, .ref (E.1 10))]) C (Nat.le_of_ble_eq_true rfl) rfl dX8_serveChosen_41 ?_
    refine v_aload_n C 2 rfl dX8_serveChosen_42 ?_
    refine v_get (v := .ref (E.1 7)) C fl_RX8_28 1 g_1 rfl dX8_serveChosen_43 ?_
    refine v_iload_n C 0 rfl dX8_serveChosen_46 ?_
    refine v_cS1 (rest := [.ref (E.1 7)]) C ms_RX8_107 (m_X2_cylinderOfPlace l G E r1.2 μ Y (F_X1_placeOfBlock r1.2 (r1.2 40 i1))) rfl rfl (Nat.le_of_ble_eq_true rfl) ⟨Nat.le_of_ble_eq_true rfl, Nat.le_of_ble_eq_true rfl⟩ ⟨rfl, rfl⟩ ⟨Nat.zero_le _, Nat.zero_le _⟩ dX8_serveChosen_47 ?_
    refine v_aload_n C 2 rfl dX8_serveChosen_50 ?_
    refine v_get (v := .ref (E.1 2)) C fl_RX8_12 1 g_1 rfl dX8_serveChosen_51 ?_
    refine v_get (v := .int (r1.2 2 5)) C fl_RX8_112 2 g_2 rfl dX8_serveChosen_54 ?_
    refine v_cV0 (rest := []) C mv_RX8_115 (m_X7_turnFor l G E r1.2 μ Y (F_X2_cylinderOfPlace (F_X1_placeOfBlock r1.2 (r1.2 40 i1))) (r1.2 2 5)) 7 g_7 rfl rfl rfl rfl (Nat.le_of_ble_eq_true rfl) ⟨Nat.le_of_ble_eq_true rfl, Nat.le_of_ble_eq_true rfl⟩ ⟨rfl, rfl⟩ ⟨Nat.zero_le _, Nat.zero_le _⟩ dX8_serveChosen_57 ?_
    generalize hr2 : F_X7_turnFor r1.2 (F_X2_cylinderOfPlace (F_X1_placeOfBlock r1.2 (r1.2 40 i1))) (r1.2 2 5) = r2
    refine v_aload_n C 2 rfl dX8_serveChosen_60 ?_
    refine v_get (v := .ref (E.1 2)) C fl_RX8_12 1 g_1 rfl dX8_serveChosen_61 ?_
    refine v_iload_n C 0 rfl dX8_serveChosen_64 ?_
    refine v_cV0 (rest := []) C mv_RX8_119 (m_X1_access l G E r2 μ Y (F_X1_placeOfBlock r1.2 (r1.2 40 i1))) 2 g_2 rfl rfl rfl rfl (Nat.le_of_ble_eq_true rfl) ⟨Nat.le_of_ble_eq_true rfl, Nat.le_of_ble_eq_true rfl⟩ ⟨rfl, rfl⟩ ⟨Nat.zero_le _, Nat.zero_le _⟩ dX8_serveChosen_65 ?_
    generalize hr3 : F_X1_access r2 (F_X1_placeOfBlock r1.2 (r1.2 40 i1)) = r3
    refine v_aload_n C 2 rfl dX8_serveChosen_68 ?_
    refine v_get (v := .ref (E.1 5)) C fl_RX8_21 1 g_1 rfl dX8_serveChosen_69 ?_
    refine v_aload_n C 1 rfl dX8_serveChosen_72 ?_
    refine v_aload_n C 2 rfl dX8_serveChosen_73 ?_
    refine v_get (v := .ref (E.1 2)) C fl_RX8_12 1 g_1 rfl dX8_serveChosen_74 ?_
    refine v_get (v := .int (r3 2 4)) C fl_RX8_68 2 g_2 rfl dX8_serveChosen_77 ?_
    refine v_cV0 (rest := []) C mv_RX8_79 (m_X6_finishPending l G E r3 μ Y i1 (r3 2 4) (by assumption)) 5 g_5 rfl rfl rfl rfl (Nat.le_of_ble_eq_true rfl) ⟨Nat.le_of_ble_eq_true rfl, Nat.le_of_ble_eq_true rfl⟩ ⟨rfl, rfl⟩ ⟨Nat.zero_le _, Nat.zero_le _⟩ dX8_serveChosen_80 ?_
    generalize hr4 : F_X6_finishPending r3 i1 (r3 2 4) = r4
    refine v_aload_n C 1 rfl dX8_serveChosen_83 ?_
    refine v_get (v := .int (nI i1)) C fl_RX8_87 (35 + i1) (g_row (by assumption)) rfl dX8_serveChosen_84 ?_
    have e1 : F_X8_serveChosen σ = (nI i1, r4) := by rw [F_X8_serveChosen]; simp only [hr1, oel_some h1, hr2, hr3, hr4]
    exact v_Q hQ (v_iret C () trivial (by rw [e1]) (by rw [e1]) (Nat.zero_le _) (Nat.zero_le _) dX8_serveChosen_87)
