/-! the count lies below what is made -/
def CNT (E : EE) (σ : Sg) : Prop := ∃ n : Nat, n ≤ 80 ∧ n ≤ E.2.2.1 ∧ σ 5 0 = nI n
theorem CNT.same {E : EE} {σ σ' : Sg} (h : CNT E σ) (e : σ' 5 0 = σ 5 0) : CNT E σ' := by obtain ⟨n, a, b, d⟩ := h; exact ⟨n, a, b, e.trans d⟩
theorem oel_none {α β : Type} {o : Option α} {a : β} {f : α → β} (h : o = none) : Option.elim o a f = a := by rw [h]; rfl
theorem oel_some {α β : Type} {o : Option α} {i : α} {a : β} {f : α → β} (h : o = some i) : Option.elim o a f = f i := by rw [h]; rfl
theorem rowsF_lt {E : EE} {i : Nat} (h : i < E.2.2.1) : va_rf (rowsF E i) = .ref (E.2.1 i) := by unfold rowsF; rw [if_pos h]; rfl
theorem nI_nn {x : Int32} (h : ¬ x < 0) : ∃ j : Nat, j < 2 ^ 31 ∧ x = nI j ∧ x.toNatClampNeg = j := by
  have h0 : 0 ≤ x.toInt := by
    have := Int32.not_lt.mp h
    rw [Int32.le_iff_toInt_le] at this; exact this
  have h1 : x.toInt < 2 ^ 31 := x.toInt_lt
  refine ⟨x.toInt.toNat, by omega, i32_toInt_inj (by rw [nI_toInt (by omega)]; omega), rfl⟩
theorem fd_in {x : Int32} (h1 : ¬ x < 0) (h3 : ¬ (80 : Int32) ≤ x) : vp_in x 80 := by
  obtain ⟨j, hj, ej, -⟩ := nI_nn h1
  have := gt_of_nle (a := 80) (b := j) rfl ej (by omega) hj h3
  exact vi_x ej this (by decide)
theorem fd_lt {E : EE} {σ : Sg} {x : Int32} (hK : CNT E σ) (h1 : ¬ x < 0) (h2 : ¬ σ 5 0 ≤ x) : x.toNatClampNeg < E.2.2.1 := by
  obtain ⟨j, hj, ej, tj⟩ := nI_nn h1
  obtain ⟨n, h80, hn, en⟩ := hK
  have := gt_of_nle (a := n) (b := j) en ej (by omega) hj h2
  rw [tj]; omega
section VO
variable {p : Program} {l : Launch} {e : Env} {R : Room} {s : State} {m : MethodId} {args : Array Value} {below : List Frame} {meth : Method} {c : Code} {cc : ByteArray} {nL : Nat} {own : String} {rt : Option FieldType} {G : GG} {A : Nat → Prop} {cells slots : Nat} {Q : State → Prop} {pc : Nat} {lv lv' : List (Nat × Value)} {st rest As : List Value} {ws ws' : va_W}
variable {y : MethodName} {c' : ByteArray} {nL' n idx : Nat} {rt' : Option FieldType} {rm : Room}
theorem v_cVo (C : CX p l R s m args meth c cc nL own rt G A) {b ci : Nat} {fs : List Value} {q : vw_C} {o : Option Nat} {f : Nat → Nat} (hm : MV own idx y c' nL' rt' n) (K : KK l G y c' nL' rt' rm (.ref b :: As) ws (some (va_rf (o.map f))) ws') (q0 : Nat) (hrec : ws[q0]? = some (b, .inr (ci, fs))) (hci : cls[ci]? = some q) (hqy : q.1 = y.cls) (hn : As.length = n) (hst : st = As.reverse ++ .ref b :: rest) (hcat : (rest.map fun v => v.category).sum ≤ 8) (hR : rm.frames + 1 ≤ R.frames ∧ 8 + (nL' + 11) + rm.locals ≤ R.locals) (hz : rm.cells = 0 ∧ rm.slots = 0) (hf : cells ≤ R.cells ∧ slots ≤ R.slots) (d : decode cc pc = .ok (.invokevirtual idx, 3))
    (k0 : o = none → V p l e R s m args below meth c nL G A cells slots Q (pc + 3) lv (.null :: rest) ws') (k1 : ∀ i, o = some i → V p l e R s m args below meth c nL G A cells slots Q (pc + 3) lv (.ref (f i) :: rest) ws') : V p l e R s m args below meth c nL G A cells slots Q pc lv st ws := by
  refine v_cV1 C hm K q0 hrec hci hqy hn hst hcat hR hz hf d ?_
  rcases o with _ | i
  · exact k0 rfl
  · exact k1 i rfl
end VO
def F_X4_hasDeadline (σ : Sg) (r0 : Nat) : Int32 := (if (σ 42 r0) = (-1 : Int32) then (0 : Int32) else (1 : Int32))
theorem z01_X4_hasDeadline (σ : Sg) (r0 : Nat) : F_X4_hasDeadline σ r0 = 0 ∨ F_X4_hasDeadline σ r0 = 1 := by
  unfold F_X4_hasDeadline; (repeat' split) <;> first | exact Or.inl rfl | exact Or.inr rfl
abbrev rm_X4_hasDeadline : Room := { frames := 0, cells := 0, slots := 0, locals := 0 }
set_option maxRecDepth 100000 in
set_option maxHeartbeats 4000000 in
theorem m_X4_hasDeadline (l : Launch) (G : GG) (E : EE) (σ μ : Sg) (Y : va_W) (r0 : Nat) (hr : r0 < E.2.2.1) : KK l G yX4_hasDeadline cX4_hasDeadline 1 (some .boolean) rm_X4_hasDeadline [.ref (E.2.1 r0)] (Wd G E σ μ Y) (some (.int (F_X4_hasDeadline σ r0))) (Wd G E σ μ Y) := by
  refine KE.of (by decide) (Nat.le_of_ble_eq_true rfl) ?_
  intro zp ze zs zm za zb zt zc zA C _
  generalize hQ : MQ zb _ za zs _ _ zA = Q
  show V zp l ze rm_X4_hasDeadline zs zm za zb zt zc 1 G zA 0 0 Q 0 [(0, .ref (E.2.1 r0))] [] (Wd G E σ μ Y)
  refine v_aload_n C 0 rfl dX4_hasDeadline_0 ?_
  refine v_get (v := .int (σ 42 r0)) C fl_RX4_21 (35 + r0) (g_row (by assumption)) rfl dX4_hasDeadline_1 ?_
  refine v_iconst (v := (-1 : Int32)) C (by decide) dX4_hasDeadline_4 ?_
  refine v_icmp_eq (tgt := 12) C (by decide) dX4_hasDeadline_5 (fun h1 => ?_) (fun h1 => ?_)
  · refine v_iconst (v := (0 : Int32)) C (by decide) dX4_hasDeadline_12 ?_
    have e1 : F_X4_hasDeadline σ r0 = (0 : Int32) := by rw [F_X4_hasDeadline, if_pos h1]
    exact v_Q hQ (v_zret C rfl () trivial (by rw [e1]) rfl (Nat.zero_le _) (Nat.zero_le _) dX4_hasDeadline_13)
  · refine v_iconst (v := (1 : Int32)) C (by decide) dX4_hasDeadline_8 ?_
    refine v_goto (tgt := 13) C (by decide) dX4_hasDeadline_9 ?_
    have e1 : F_X4_hasDeadline σ r0 = (1 : Int32) := by rw [F_X4_hasDeadline, if_neg h1]
    exact v_Q hQ (v_zret C rfl () trivial (by rw [e1]) rfl (Nat.zero_le _) (Nat.zero_le _) dX4_hasDeadline_13)
def F_X4_missedDeadline (σ : Sg) (r0 : Nat) : Int32 := (if (F_X4_hasDeadline σ r0) = 0 then (0 : Int32) else (if (σ 43 r0) ≤ (σ 42 r0) then (0 : Int32) else (1 : Int32)))
theorem z01_X4_missedDeadline (σ : Sg) (r0 : Nat) : F_X4_missedDeadline σ r0 = 0 ∨ F_X4_missedDeadline σ r0 = 1 := by
  unfold F_X4_missedDeadline; (repeat' split) <;> first | exact Or.inl rfl | exact Or.inr rfl
abbrev rm_X4_missedDeadline : Room := { frames := 1, cells := 0, slots := 0, locals := 20 }
set_option maxRecDepth 100000 in
set_option maxHeartbeats 4000000 in
theorem m_X4_missedDeadline (l : Launch) (G : GG) (E : EE) (σ μ : Sg) (Y : va_W) (r0 : Nat) (hr : r0 < E.2.2.1) : KK l G yX4_missedDeadline cX4_missedDeadline 1 (some .boolean) rm_X4_missedDeadline [.ref (E.2.1 r0)] (Wd G E σ μ Y) (some (.int (F_X4_missedDeadline σ r0))) (Wd G E σ μ Y) := by
  refine KE.of (by decide) (Nat.le_of_ble_eq_true rfl) ?_
  intro zp ze zs zm za zb zt zc zA C _
  generalize hQ : MQ zb _ za zs _ _ zA = Q
  show V zp l ze rm_X4_missedDeadline zs zm za zb zt zc 1 G zA 0 0 Q 0 [(0, .ref (E.2.1 r0))] [] (Wd G E σ μ Y)
  refine v_aload_n C 0 rfl dX4_missedDeadline_0 ?_
  refine v_cV1 (rest := []) C mv_RX4_30 (m_X4_hasDeadline l G E σ μ Y r0 (by assumption)) (35 + r0) (g_row (by assumption)) rfl rfl rfl rfl (Nat.le_of_ble_eq_true rfl) ⟨Nat.le_of_ble_eq_true rfl, Nat.le_of_ble_eq_true rfl⟩ ⟨rfl, rfl⟩ ⟨Nat.zero_le _, Nat.zero_le _⟩ dX4_missedDeadline_1 ?_
  refine v_if_eq (tgt := 22) C (by decide) dX4_missedDeadline_4 (fun h1 => ?_) (fun h1 => ?_)
  · refine v_iconst (v := (0 : Int32)) C (by decide) dX4_missedDeadline_22 ?_
    have e1 : F_X4_missedDeadline σ r0 = (0 : Int32) := by rw [F_X4_missedDeadline, if_pos h1]
    exact v_Q hQ (v_zret C rfl () trivial (by rw [e1]) rfl (Nat.zero_le _) (Nat.zero_le _) dX4_missedDeadline_23)
  · refine v_aload_n C 0 rfl dX4_missedDeadline_7 ?_
    refine v_get (v := .int (σ 43 r0)) C fl_RX4_24 (35 + r0) (g_row (by assumption)) rfl dX4_missedDeadline_8 ?_
    refine v_aload_n C 0 rfl dX4_missedDeadline_11 ?_
    refine v_get (v := .int (σ 42 r0)) C fl_RX4_21 (35 + r0) (g_row (by assumption)) rfl dX4_missedDeadline_12 ?_
    refine v_icmp_le (tgt := 22) C (by decide) dX4_missedDeadline_15 (fun h2 => ?_) (fun h2 => ?_)
    · refine v_iconst (v := (0 : Int32)) C (by decide) dX4_missedDeadline_22 ?_
      have e1 : F_X4_missedDeadline σ r0 = (0 : Int32) := by rw [F_X4_missedDeadline, if_neg h1, if_pos h2]
      exact v_Q hQ (v_zret C rfl () trivial (by rw [e1]) rfl (Nat.zero_le _) (Nat.zero_le _) dX4_missedDeadline_23)
    · refine v_iconst (v := (1 : Int32)) C (by decide) dX4_missedDeadline_18 ?_
      refine v_goto (tgt := 23) C (by decide) dX4_missedDeadline_19 ?_
      have e1 : F_X4_missedDeadline σ r0 = (1 : Int32) := by rw [F_X4_missedDeadline, if_neg h1, if_neg h2]
      exact v_Q hQ (v_zret C rfl () trivial (by rw [e1]) rfl (Nat.zero_le _) (Nat.zero_le _) dX4_missedDeadline_23)
def F_X4_begin (σ : Sg) (r0 : Nat) (b : Int32) (ar : Int32) (de : Int32) : Sg := (s2 (s2 (s2 (s2 (s2 σ 40 r0 b) 41 r0 ar) 42 r0 de) 43 r0 (-1 : Int32)) 44 r0 (0 : Int32))
abbrev rm_X4_begin : Room := { frames := 0, cells := 0, slots := 0, locals := 0 }
set_option maxRecDepth 100000 in
set_option maxHeartbeats 4000000 in
theorem m_X4_begin (l : Launch) (G : GG) (E : EE) (σ μ : Sg) (Y : va_W) (r0 : Nat) (b : Int32) (ar : Int32) (de : Int32) (hr : r0 < E.2.2.1) : KK l G yX4_begin cX4_begin 4 none rm_X4_begin [.ref (E.2.1 r0), .int b, .int ar, .int de] (Wd G E σ μ Y) none (Wd G E (F_X4_begin σ r0 b ar de) μ Y) := by
  refine KE.of (by decide) (Nat.le_of_ble_eq_true rfl) ?_
  intro zp ze zs zm za zb zt zc zA C _
  generalize hQ : MQ zb _ za zs _ _ zA = Q
  show V zp l ze rm_X4_begin zs zm za zb zt zc 4 G zA 0 0 Q 0 [(0, .ref (E.2.1 r0)), (1, .int b), (2, .int ar), (3, .int de)] [] (Wd G E σ μ Y)
  refine v_aload_n C 0 rfl dX4_begin_0 ?_
  refine v_iload_n C 1 rfl dX4_begin_1 ?_
  refine v_put C fp_RX4_15 (35 + r0) (g_row (by assumption)) rfl rfl (Nat.le_of_ble_eq_true rfl) (p_row_1 (by assumption) _) dX4_begin_2 ?_
  refine v_aload_n C 0 rfl dX4_begin_5 ?_
  refine v_iload_n C 2 rfl dX4_begin_6 ?_
  refine v_put C fp_RX4_18 (35 + r0) (g_row (by assumption)) rfl rfl (Nat.le_of_ble_eq_true rfl) (p_row_2 (by assumption) _) dX4_begin_7 ?_
  refine v_aload_n C 0 rfl dX4_begin_10 ?_
  refine v_iload_n C 3 rfl dX4_begin_11 ?_
  refine v_put C fp_RX4_21 (35 + r0) (g_row (by assumption)) rfl rfl (Nat.le_of_ble_eq_true rfl) (p_row_3 (by assumption) _) dX4_begin_12 ?_
  refine v_aload_n C 0 rfl dX4_begin_15 ?_
  refine v_iconst (v := (-1 : Int32)) C (by decide) dX4_begin_16 ?_
  refine v_put C fp_RX4_24 (35 + r0) (g_row (by assumption)) rfl rfl (Nat.le_of_ble_eq_true rfl) (p_row_4 (by assumption) _) dX4_begin_17 ?_
  refine v_aload_n C 0 rfl dX4_begin_20 ?_
  refine v_iconst (v := (0 : Int32)) C (by decide) dX4_begin_21 ?_
  refine v_put C fp_RX4_27 (35 + r0) (g_row (by assumption)) rfl rfl (Nat.le_of_ble_eq_true rfl) (p_row_5 (by assumption) _) dX4_begin_22 ?_
  have e1 : F_X4_begin σ r0 b ar de = (s2 (s2 (s2 (s2 (s2 σ 40 r0 b) 41 r0 ar) 42 r0 de) 43 r0 (-1 : Int32)) 44 r0 (0 : Int32)) := by rw [F_X4_begin]
  exact v_Q hQ (v_vret C () trivial rfl (by rw [e1]) (Nat.zero_le _) (Nat.zero_le _) dX4_begin_25)
def F_X6_find (σ : Sg) (n : Int32) : Option Nat := (if n < 0 then none else (if (σ 5 0) ≤ n then none else (if (80 : Int32) ≤ n then none else some n.toNatClampNeg)))
abbrev rm_X6_find : Room := { frames := 0, cells := 0, slots := 0, locals := 0 }
set_option maxRecDepth 100000 in
set_option maxHeartbeats 4000000 in
theorem m_X6_find (l : Launch) (G : GG) (E : EE) (σ μ : Sg) (Y : va_W) (n : Int32) (hK : CNT E σ) : KK l G yX6_find cX6_find 2 (some (.object "DiskArmSimulator$Request")) rm_X6_find [.ref (E.1 5), .int n] (Wd G E σ μ Y) (some (va_rf (Option.map E.2.1 (F_X6_find σ n)))) (Wd G E σ μ Y) := by
  refine KE.of (by decide) (Nat.le_of_ble_eq_true rfl) ?_
  intro zp ze zs zm za zb zt zc zA C _
  generalize hQ : MQ zb _ za zs _ _ zA = Q
  show V zp l ze rm_X6_find zs zm za zb zt zc 2 G zA 0 0 Q 0 [(0, .ref (E.1 5)), (1, .int n)] [] (Wd G E σ μ Y)
  refine v_iload_n C 1 rfl dX6_find_0 ?_
  refine v_if_lt (tgt := 27) C (by decide) dX6_find_1 (fun h1 => ?_) (fun h1 => ?_)
  · refine v_null C dX6_find_27 ?_
    have e1 : F_X6_find σ n = none := by rw [F_X6_find, if_pos h1]
    exact v_Q hQ (v_aret C (Or.inl rfl) () trivial (by rw [e1]; rfl) rfl (Nat.zero_le _) (Nat.zero_le _) dX6_find_28)
  · refine v_iload_n C 1 rfl dX6_find_4 ?_
    refine v_aload_n C 0 rfl dX6_find_5 ?_
    refine v_get (v := .int (σ 5 0)) C fl_RX6_17 5 g_5 rfl dX6_find_6 ?_
    refine v_icmp_ge (tgt := 27) C (by decide) dX6_find_9 (fun h2 => ?_) (fun h2 => ?_)
    · refine v_null C dX6_find_27 ?_
      have e1 : F_X6_find σ n = none := by rw [F_X6_find, if_neg h1, if_pos h2]
      exact v_Q hQ (v_aret C (Or.inl rfl) () trivial (by rw [e1]; rfl) rfl (Nat.zero_le _) (Nat.zero_le _) dX6_find_28)
    · refine v_iload_n C 1 rfl dX6_find_12 ?_
      refine v_bipush (v := (80 : Int32)) C (by decide) dX6_find_13 ?_
      refine v_icmp_ge (tgt := 27) C (by decide) dX6_find_15 (fun h3 => ?_) (fun h3 => ?_)
      · refine v_null C dX6_find_27 ?_
        have e1 : F_X6_find σ n = none := by rw [F_X6_find, if_neg h1, if_neg h2, if_pos h3]
        exact v_Q hQ (v_aret C (Or.inl rfl) () trivial (by rw [e1]; rfl) rfl (Nat.zero_le _) (Nat.zero_le _) dX6_find_28)
      · refine v_aload_n C 0 rfl dX6_find_18 ?_
        refine v_get (v := .ref (E.1 6)) C fl_RX6_11 5 g_5 rfl dX6_find_19 ?_
        refine v_iload_n C 1 rfl dX6_find_22 ?_
        refine v_aald (v := .ref (E.2.1 n.toNatClampNeg)) C 6 g_6 (fd_in h1 h3) (rowsF_lt (fd_lt hK h1 h2)) dX6_find_23 ?_
        refine v_goto (tgt := 28) C (by decide) dX6_find_24 ?_
        have e1 : F_X6_find σ n = some n.toNatClampNeg := by rw [F_X6_find, if_neg h1, if_neg h2, if_neg h3]
        exact v_Q hQ (v_aret C (Or.inr ⟨_, rfl⟩) () trivial (by rw [e1]; rfl) rfl (Nat.zero_le _) (Nat.zero_le _) dX6_find_28)
theorem find_some {E : EE} {σ : Sg} {n : Int32} {i : Nat} (hK : CNT E σ) (h : F_X6_find σ n = some i) : i < E.2.2.1 ∧ i < 80 ∧ n = nI i ∧ ∃ m : Nat, m ≤ 80 ∧ σ 5 0 = nI m ∧ i < m := by
  unfold F_X6_find at h
  by_cases h1 : n < 0
  · rw [if_pos h1] at h; cases h
  rw [if_neg h1] at h
  by_cases h2 : σ 5 0 ≤ n
  · rw [if_pos h2] at h; cases h
  rw [if_neg h2] at h
  by_cases h3 : (80 : Int32) ≤ n
  · rw [if_pos h3] at h; cases h
  rw [if_neg h3] at h
  cases h
  have hlt := fd_lt hK h1 h2
  obtain ⟨j, hj, ej, tj⟩ := nI_nn h1
  obtain ⟨m, h80, hm, em⟩ := hK
  have g2 := gt_of_nle (a := m) (b := j) em ej (by omega) hj h2
  rw [tj] at hlt ⊢
  exact ⟨hlt, by omega, ej, m, h80, em, g2⟩
def F_X6_findPending (σ : Sg) (n : Int32) : Option Nat := (Option.elim (F_X6_find σ n) (none) (fun i1 => (if (σ 44 i1) = 0 then some i1 else none)))
abbrev rm_X6_findPending : Room := { frames := 1, cells := 0, slots := 0, locals := 21 }
set_option maxRecDepth 100000 in
set_option maxHeartbeats 4000000 in
theorem m_X6_findPending (l : Launch) (G : GG) (E : EE) (σ μ : Sg) (Y : va_W) (n : Int32) (hK : CNT E σ) : KK l G yX6_findPending cX6_findPending 3 (some (.object "DiskArmSimulator$Request")) rm_X6_findPending [.ref (E.1 5), .int n] (Wd G E σ μ Y) (some (va_rf (Option.map E.2.1 (F_X6_findPending σ n)))) (Wd G E σ μ Y) := by
  refine KE.of (by decide) (Nat.le_of_ble_eq_true rfl) ?_
  intro zp ze zs zm za zb zt zc zA C _
  generalize hQ : MQ zb _ za zs _ _ zA = Q
  show V zp l ze rm_X6_findPending zs zm za zb zt zc 3 G zA 0 0 Q 0 [(0, .ref (E.1 5)), (1, .int n)] [] (Wd G E σ μ Y)
  refine v_aload_n C 0 rfl dX6_findPending_0 ?_
  refine v_iload_n C 1 rfl dX6_findPending_1 ?_
  refine v_cVo (rest := []) C mv_RX6_39 (m_X6_find l G E σ μ Y n (by assumption)) 5 g_5 rfl rfl rfl rfl (Nat.le_of_ble_eq_true rfl) ⟨Nat.le_of_ble_eq_true rfl, Nat.le_of_ble_eq_true rfl⟩ ⟨rfl, rfl⟩ ⟨Nat.zero_le _, Nat.zero_le _⟩ dX6_findPending_2 (fun h1 => ?_) (fun i1 h1 => ?_)
  · refine v_astore_nN (lv' := [(2, .null), (0, .ref (E.1 5)), (1, .int n)]) C (Nat.le_of_ble_eq_true rfl) rfl dX6_findPending_5 ?_
    refine v_aload_nN C 0 rfl dX6_findPending_6 ?_
    refine v_ifnullN (tgt := 21) C (by decide) dX6_findPending_7 ?_
    refine v_null C dX6_findPending_21 ?_
    have e1 : F_X6_findPending σ n = none := by rw [F_X6_findPending, oel_none h1]
    exact v_Q hQ (v_aret C (Or.inl rfl) () trivial (by rw [e1]; rfl) rfl (Nat.zero_le _) (Nat.zero_le _) dX6_findPending_22)
  · have hl0 := (find_some hK h1).1
    refine v_astore_n (lv' := [(2, .ref (E.2.1 i1)), (0, .ref (E.1 5)), (1, .int n)]) C (Nat.le_of_ble_eq_true rfl) rfl dX6_findPending_5 ?_
    refine v_aload_n C 0 rfl dX6_findPending_6 ?_
    refine v_ifnull C dX6_findPending_7 ?_
    refine v_aload_n C 0 rfl dX6_findPending_10 ?_
    refine v_get (v := .int (σ 44 i1)) C fl_RX6_42 (35 + i1) (g_row (by assumption)) rfl dX6_findPending_11 ?_
    refine v_if_ne (tgt := 21) C (by decide) dX6_findPending_14 (fun h2 => ?_) (fun h2 => ?_)
    · refine v_null C dX6_findPending_21 ?_
      have e1 : F_X6_findPending σ n = none := by rw [F_X6_findPending, oel_some h1, if_neg h2]
      exact v_Q hQ (v_aret C (Or.inl rfl) () trivial (by rw [e1]; rfl) rfl (Nat.zero_le _) (Nat.zero_le _) dX6_findPending_22)
    · refine v_aload_n C 0 rfl dX6_findPending_17 ?_
      refine v_goto (tgt := 22) C (by decide) dX6_findPending_18 ?_
      have e1 : F_X6_findPending σ n = some i1 := by rw [F_X6_findPending, oel_some h1, if_pos h2]
      exact v_Q hQ (v_aret C (Or.inr ⟨_, rfl⟩) () trivial (by rw [e1]; rfl) rfl (Nat.zero_le _) (Nat.zero_le _) dX6_findPending_22)
def F_X6_findFinished (σ : Sg) (n : Int32) : Option Nat := (Option.elim (F_X6_find σ n) (none) (fun i1 => (if (σ 44 i1) = (1 : Int32) then some i1 else none)))
abbrev rm_X6_findFinished : Room := { frames := 1, cells := 0, slots := 0, locals := 21 }
set_option maxRecDepth 100000 in
set_option maxHeartbeats 4000000 in
theorem m_X6_findFinished (l : Launch) (G : GG) (E : EE) (σ μ : Sg) (Y : va_W) (n : Int32) (hK : CNT E σ) : KK l G yX6_findFinished cX6_findFinished 3 (some (.object "DiskArmSimulator$Request")) rm_X6_findFinished [.ref (E.1 5), .int n] (Wd G E σ μ Y) (some (va_rf (Option.map E.2.1 (F_X6_findFinished σ n)))) (Wd G E σ μ Y) := by
  refine KE.of (by decide) (Nat.le_of_ble_eq_true rfl) ?_
  intro zp ze zs zm za zb zt zc zA C _
  generalize hQ : MQ zb _ za zs _ _ zA = Q
  show V zp l ze rm_X6_findFinished zs zm za zb zt zc 3 G zA 0 0 Q 0 [(0, .ref (E.1 5)), (1, .int n)] [] (Wd G E σ μ Y)
  refine v_aload_n C 0 rfl dX6_findFinished_0 ?_
  refine v_iload_n C 1 rfl dX6_findFinished_1 ?_
  refine v_cVo (rest := []) C mv_RX6_39 (m_X6_find l G E σ μ Y n (by assumption)) 5 g_5 rfl rfl rfl rfl (Nat.le_of_ble_eq_true rfl) ⟨Nat.le_of_ble_eq_true rfl, Nat.le_of_ble_eq_true rfl⟩ ⟨rfl, rfl⟩ ⟨Nat.zero_le _, Nat.zero_le _⟩ dX6_findFinished_2 (fun h1 => ?_) (fun i1 h1 => ?_)
  · refine v_astore_nN (lv' := [(2, .null), (0, .ref (E.1 5)), (1, .int n)]) C (Nat.le_of_ble_eq_true rfl) rfl dX6_findFinished_5 ?_
    refine v_aload_nN C 0 rfl dX6_findFinished_6 ?_
    refine v_ifnullN (tgt := 22) C (by decide) dX6_findFinished_7 ?_
    refine v_null C dX6_findFinished_22 ?_
    have e1 : F_X6_findFinished σ n = none := by rw [F_X6_findFinished, oel_none h1]
    exact v_Q hQ (v_aret C (Or.inl rfl) () trivial (by rw [e1]; rfl) rfl (Nat.zero_le _) (Nat.zero_le _) dX6_findFinished_23)
  · have hl0 := (find_some hK h1).1
    refine v_astore_n (lv' := [(2, .ref (E.2.1 i1)), (0, .ref (E.1 5)), (1, .int n)]) C (Nat.le_of_ble_eq_true rfl) rfl dX6_findFinished_5 ?_
    refine v_aload_n C 0 rfl dX6_findFinished_6 ?_
    refine v_ifnull C dX6_findFinished_7 ?_
    refine v_aload_n C 0 rfl dX6_findFinished_10 ?_
    refine v_get (v := .int (σ 44 i1)) C fl_RX6_42 (35 + i1) (g_row (by assumption)) rfl dX6_findFinished_11 ?_
    refine v_iconst (v := (1 : Int32)) C (by decide) dX6_findFinished_14 ?_
    refine v_icmp_ne (tgt := 22) C (by decide) dX6_findFinished_15 (fun h2 => ?_) (fun h2 => ?_)
    · refine v_null C dX6_findFinished_22 ?_
      have e1 : F_X6_findFinished σ n = none := by rw [F_X6_findFinished, oel_some h1, if_neg h2]
      exact v_Q hQ (v_aret C (Or.inl rfl) () trivial (by rw [e1]; rfl) rfl (Nat.zero_le _) (Nat.zero_le _) dX6_findFinished_23)
    · refine v_aload_n C 0 rfl dX6_findFinished_18 ?_
      refine v_goto (tgt := 23) C (by decide) dX6_findFinished_19 ?_
      have e1 : F_X6_findFinished σ n = some i1 := by rw [F_X6_findFinished, oel_some h1, if_pos h2]
      exact v_Q hQ (v_aret C (Or.inr ⟨_, rfl⟩) () trivial (by rw [e1]; rfl) rfl (Nat.zero_le _) (Nat.zero_le _) dX6_findFinished_23)
theorem findPending_some {E : EE} {σ : Sg} {n : Int32} {i : Nat} (hK : CNT E σ) (h : F_X6_findPending σ n = some i) : i < E.2.2.1 ∧ i < 80 ∧ n = nI i ∧ σ 44 i = 0 ∧ ∃ m : Nat, m ≤ 80 ∧ σ 5 0 = nI m ∧ i < m := by
  unfold F_X6_findPending at h
  rcases hF : F_X6_find σ n with _ | j
  · rw [oel_none hF] at h; cases h
  · rw [oel_some hF] at h
    split at h
    · cases h
      obtain ⟨a, b, d, e⟩ := find_some hK hF
      exact ⟨a, b, d, by assumption, e⟩
    · cases h
theorem findFinished_some {E : EE} {σ : Sg} {n : Int32} {i : Nat} (hK : CNT E σ) (h : F_X6_findFinished σ n = some i) : i < E.2.2.1 ∧ i < 80 ∧ n = nI i ∧ σ 44 i = 1 ∧ ∃ m : Nat, m ≤ 80 ∧ σ 5 0 = nI m ∧ i < m := by
  unfold F_X6_findFinished at h
  rcases hF : F_X6_find σ n with _ | j
  · rw [oel_none hF] at h; cases h
  · rw [oel_some hF] at h
    split at h
    · cases h
      obtain ⟨a, b, d, e⟩ := find_some hK hF
      exact ⟨a, b, d, by assumption, e⟩
    · cases h
def F_X6_finishPending (σ : Sg) (rq : Nat) (ck : Int32) : Sg := (s2 (s2 (s2 σ 44 rq (1 : Int32)) 43 rq ck) 5 1 ((σ 5 1) - (1 : Int32)))
abbrev rm_X6_finishPending : Room := { frames := 0, cells := 0, slots := 0, locals := 0 }
set_option maxRecDepth 100000 in
set_option maxHeartbeats 4000000 in
theorem m_X6_finishPending (l : Launch) (G : GG) (E : EE) (σ μ : Sg) (Y : va_W) (rq : Nat) (ck : Int32) (hr : rq < E.2.2.1) : KK l G yX6_finishPending cX6_finishPending 3 none rm_X6_finishPending [.ref (E.1 5), .ref (E.2.1 rq), .int ck] (Wd G E σ μ Y) none (Wd G E (F_X6_finishPending σ rq ck) μ Y) := by
  refine KE.of (by decide) (Nat.le_of_ble_eq_true rfl) ?_
  intro zp ze zs zm za zb zt zc zA C _
  generalize hQ : MQ zb _ za zs _ _ zA = Q
  show V zp l ze rm_X6_finishPending zs zm za zb zt zc 3 G zA 0 0 Q 0 [(0, .ref (E.1 5)), (1, .ref (E.2.1 rq)), (2, .int ck)] [] (Wd G E σ μ Y)
  refine v_aload_n C 1 rfl dX6_finishPending_0 ?_
  refine v_iconst (v := (1 : Int32)) C (by decide) dX6_finishPending_1 ?_
  refine v_put C fp_RX6_42 (35 + rq) (g_row (by assumption)) rfl rfl (Nat.le_of_ble_eq_true rfl) (p_row_5 (by assumption) _) dX6_finishPending_2 ?_
  refine v_aload_n C 1 rfl dX6_finishPending_5 ?_
  refine v_iload_n C 2 rfl dX6_finishPending_6 ?_
  refine v_put C fp_RX6_49 (35 + rq) (g_row (by assumption)) rfl rfl (Nat.le_of_ble_eq_true rfl) (p_row_4 (by assumption) _) dX6_finishPending_7 ?_
  refine v_aload_n C 0 rfl dX6_finishPending_10 ?_
  refine v_dup C rfl dX6_finishPending_11 ?_
  refine v_get (v := .int (σ 5 1)) C fl_RX6_29 5 g_5 rfl dX6_finishPending_12 ?_
  refine v_iconst (v := (1 : Int32)) C (by decide) dX6_finishPending_15 ?_
  refine v_isub C dX6_finishPending_16 ?_
  refine v_put C fp_RX6_29 5 g_5 rfl rfl (Nat.le_of_ble_eq_true rfl) (p_5_1 _) dX6_finishPending_17 ?_
  have e1 : F_X6_finishPending σ rq ck = (s2 (s2 (s2 σ 44 rq (1 : Int32)) 43 rq ck) 5 1 ((σ 5 1) - (1 : Int32))) := by rw [F_X6_finishPending]
  exact v_Q hQ (v_vret C () trivial rfl (by rw [e1]) (Nat.zero_le _) (Nat.zero_le _) dX6_finishPending_20)
def F_X6_cancelPending (σ : Sg) (rq : Nat) : Sg := (s2 (s2 σ 44 rq (2 : Int32)) 5 1 ((σ 5 1) - (1 : Int32)))
abbrev rm_X6_cancelPending : Room := { frames := 0, cells := 0, slots := 0, locals := 0 }
set_option maxRecDepth 100000 in
set_option maxHeartbeats 4000000 in
theorem m_X6_cancelPending (l : Launch) (G : GG) (E : EE) (σ μ : Sg) (Y : va_W) (rq : Nat) (hr : rq < E.2.2.1) : KK l G yX6_cancelPending cX6_cancelPending 2 none rm_X6_cancelPending [.ref (E.1 5), .ref (E.2.1 rq)] (Wd G E σ μ Y) none (Wd G E (F_X6_cancelPending σ rq) μ Y) := by
  refine KE.of (by decide) (Nat.le_of_ble_eq_true rfl) ?_
  intro zp ze zs zm za zb zt zc zA C _
  generalize hQ : MQ zb _ za zs _ _ zA = Q
  show V zp l ze rm_X6_cancelPending zs zm za zb zt zc 2 G zA 0 0 Q 0 [(0, .ref (E.1 5)), (1, .ref (E.2.1 rq))] [] (Wd G E σ μ Y)
  refine v_aload_n C 1 rfl dX6_cancelPending_0 ?_
  refine v_iconst (v := (2 : Int32)) C (by decide) dX6_cancelPending_1 ?_
  refine v_put C fp_RX6_42 (35 + rq) (g_row (by assumption)) rfl rfl (Nat.le_of_ble_eq_true rfl) (p_row_5 (by assumption) _) dX6_cancelPending_2 ?_
  refine v_aload_n C 0 rfl dX6_cancelPending_5 ?_
  refine v_dup C rfl dX6_cancelPending_6 ?_
  refine v_get (v := .int (σ 5 1)) C fl_RX6_29 5 g_5 rfl dX6_cancelPending_7 ?_
  refine v_iconst (v := (1 : Int32)) C (by decide) dX6_cancelPending_10 ?_
  refine v_isub C dX6_cancelPending_11 ?_
  refine v_put C fp_RX6_29 5 g_5 rfl rfl (Nat.le_of_ble_eq_true rfl) (p_5_1 _) dX6_cancelPending_12 ?_
  have e1 : F_X6_cancelPending σ rq = (s2 (s2 σ 44 rq (2 : Int32)) 5 1 ((σ 5 1) - (1 : Int32))) := by rw [F_X6_cancelPending]
  exact v_Q hQ (v_vret C () trivial rfl (by rw [e1]) (Nat.zero_le _) (Nat.zero_le _) dX6_cancelPending_15)
theorem cnt_step {E : EE} {σ : Sg} {x : Int32} {n : Nat} (hK : CNT E σ) (hI : ∃ j : Nat, x = nI j ∧ j ≤ 80 ∧ j + (n + 1) = 81) (h : ¬ σ 5 0 ≤ x) : ∃ j : Nat, x + 1 = nI j ∧ j ≤ 80 ∧ j + n = 81 := by
  obtain ⟨j, ej, h8, hn⟩ := hI
  obtain ⟨m, h80, hm, em⟩ := hK
  have := gt_of_nle (a := m) (b := j) em ej (by omega) (by omega) h
  exact ⟨j + 1, by rw [ej]; exact nI_1 j, by omega, by omega⟩
def L_X6_countFinished_4 (σ : Sg) : Nat → Int32 → Int32 → Int32
  | 0, _, _ => 0
  | n + 1, ac, x => (if (σ 5 0) ≤ x then ac else (Option.elim (F_X6_findFinished σ x) (L_X6_countFinished_4 σ n (ac + (0 : Int32)) (x + (1 : Int32))) (fun i2 => L_X6_countFinished_4 σ n (ac + (1 : Int32)) (x + (1 : Int32)))))
def F_X6_countFinished (σ : Sg) : Int32 := L_X6_countFinished_4 σ 81 (0 : Int32) (0 : Int32)
abbrev rm_X6_countFinished : Room := { frames := 2, cells := 0, slots := 0, locals := 43 }
set_option maxRecDepth 100000 in
set_option maxHeartbeats 4000000 in
theorem m_X6_countFinished (l : Launch) (G : GG) (E : EE) (σ μ : Sg) (Y : va_W) (hK : CNT E σ) : KK l G yX6_countFinished cX6_countFinished 3 (some .int) rm_X6_countFinished [.ref (E.1 5)] (Wd G E σ μ Y) (some (.int (F_X6_countFinished σ))) (Wd G E σ μ Y) := by
  refine KE.of (by decide) (Nat.le_of_ble_eq_true rfl) ?_
  intro zp ze zs zm za zb zt zc zA C _
  generalize hQ : MQ zb _ za zs _ _ zA = Q
  have loop_4 : ∀ (n : Nat) (ac : Int32) (x : Int32), (∃ j : Nat, x = nI j ∧ j ≤ 80 ∧ j + n = 81) → F_X6_countFinished σ = L_X6_countFinished_4 σ n ac x → V zp l ze rm_X6_countFinished zs zm za zb zt zc 3 G zA 0 0 Q 4 [(0, .ref (E.1 5)), (1, .int ac), (2, .int x)] [] (Wd G E σ μ Y) := by
    intro n
    induction n with
    | zero =>
      intro ac x hI hL
      exact False.elim (by obtain ⟨j, _, h8, h⟩ := hI; omega)
    | succ n ih =>
      intro ac x hI hL
      refine v_iload_n C 2 rfl dX6_countFinished_4 ?_
      refine v_aload_n C 0 rfl dX6_countFinished_5 ?_
      refine v_get (v := .int (σ 5 0)) C fl_RX6_17 5 g_5 rfl dX6_countFinished_6 ?_
      refine v_icmp_ge (tgt := 34) C (by decide) dX6_countFinished_9 (fun h1 => ?_) (fun h1 => ?_)
      · refine v_iload_n C 1 rfl dX6_countFinished_34 ?_
        have e1 : F_X6_countFinished σ = ac := by rw [hL, L_X6_countFinished_4, if_pos h1]
        exact v_Q hQ (v_iret C () trivial (by rw [e1]) rfl (Nat.zero_le _) (Nat.zero_le _) dX6_countFinished_35)
      · refine v_iload_n C 1 rfl dX6_countFinished_12 ?_
        refine v_aload_n C 0 rfl dX6_countFinished_13 ?_
        refine v_iload_n C 2 rfl dX6_countFinished_14 ?_
        refine v_cVo (rest := [.int ac]) C mv_RX6_52 (m_X6_findFinished l G E σ μ Y x (by assumption)) 5 g_5 rfl rfl rfl rfl (Nat.le_of_ble_eq_true rfl) ⟨Nat.le_of_ble_eq_true rfl, Nat.le_of_ble_eq_true rfl⟩ ⟨rfl, rfl⟩ ⟨Nat.zero_le _, Nat.zero_le _⟩ dX6_countFinished_15 (fun h2 => ?_) (fun i2 h2 => ?_)
        · refine v_ifnullN (tgt := 25) C (by decide) dX6_countFinished_18 ?_
          refine v_iconst (v := (0 : Int32)) C (by decide) dX6_countFinished_25 ?_
          refine v_iadd C dX6_countFinished_26 ?_
          refine v_istore_n (lv' := [(1, .int (ac + (0 : Int32))), (0, .ref (E.1 5)), (2, .int x)]) C (Nat.le_of_ble_eq_true rfl) rfl dX6_countFinished_27 ?_
          refine v_iinc (v := x + (1 : Int32)) (lv' := [(2, .int (x + (1 : Int32))), (1, .int (ac + (0 : Int32))), (0, .ref (E.1 5))]) C 2 rfl rfl (Nat.le_of_ble_eq_true rfl) rfl dX6_countFinished_28 ?_
          refine v_goto (tgt := 4) C (by decide) dX6_countFinished_31 ?_
          refine v_lv [2, 1, 0] rfl ?_
          exact ih (ac + (0 : Int32)) (x + (1 : Int32)) (cnt_step hK hI h1) (by rw [hL, L_X6_countFinished_4, if_neg h1, oel_none h2])
        · have hl0 := (findFinished_some hK h2).1
          refine v_ifnull C dX6_countFinished_18 ?_
          refine v_iconst (v := (1 : Int32)) C (by decide) dX6_countFinished_21 ?_
          refine v_goto (tgt := 26) C (by decide) dX6_countFinished_22 ?_
          refine v_iadd C dX6_countFinished_26 ?_
          refine v_istore_n (lv' := [(1, .int (ac + (1 : Int32))), (0, .ref (E.1 5)), (2, .int x)]) C (Nat.le_of_ble_eq_true rfl) rfl dX6_countFinished_27 ?_
          refine v_iinc (v := x + (1 : Int32)) (lv' := [(2, .int (x + (1 : Int32))), (1, .int (ac + (1 : Int32))), (0, .ref (E.1 5))]) C 2 rfl rfl (Nat.le_of_ble_eq_true rfl) rfl dX6_countFinished_28 ?_
          refine v_goto (tgt := 4) C (by decide) dX6_countFinished_31 ?_
          refine v_lv [2, 1, 0] rfl ?_
          exact ih (ac + (1 : Int32)) (x + (1 : Int32)) (cnt_step hK hI h1) (by rw [hL, L_X6_countFinished_4, if_neg h1, oel_some h2])
  show V zp l ze rm_X6_countFinished zs zm za zb zt zc 3 G zA 0 0 Q 0 [(0, .ref (E.1 5))] [] (Wd G E σ μ Y)
  refine v_iconst (v := (0 : Int32)) C (by decide) dX6_countFinished_0 ?_
  refine v_istore_n (lv' := [(1, .int (0 : Int32)), (0, .ref (E.1 5))]) C (Nat.le_of_ble_eq_true rfl) rfl dX6_countFinished_1 ?_
  refine v_iconst (v := (0 : Int32)) C (by decide) dX6_countFinished_2 ?_
  refine v_istore_n (lv' := [(2, .int (0 : Int32)), (1, .int (0 : Int32)), (0, .ref (E.1 5))]) C (Nat.le_of_ble_eq_true rfl) rfl dX6_countFinished_3 ?_
  refine v_lv [2, 1, 0] rfl ?_
  exact loop_4 81 (0 : Int32) (0 : Int32) (⟨0, rfl, by omega, by omega⟩) (by rw [F_X6_countFinished])
def L_X6_sumOfResponses_4 (σ : Sg) : Nat → Int32 → Int32 → Int32
  | 0, _, _ => 0
  | n + 1, ac, x => (if (σ 5 0) ≤ x then ac else (Option.elim (F_X6_findFinished σ x) (L_X6_sumOfResponses_4 σ n (ac + (0 : Int32)) (x + (1 : Int32))) (fun i2 => L_X6_sumOfResponses_4 σ n (ac + ((σ 43 i2) - (σ 41 i2))) (x + (1 : Int32)))))
def F_X6_sumOfResponses (σ : Sg) : Int32 := L_X6_sumOfResponses_4 σ 81 (0 : Int32) (0 : Int32)
abbrev rm_X6_sumOfResponses : Room := { frames := 2, cells := 0, slots := 0, locals := 43 }
set_option maxRecDepth 100000 in
set_option maxHeartbeats 4000000 in
theorem m_X6_sumOfResponses (l : Launch) (G : GG) (E : EE) (σ μ : Sg) (Y : va_W) (hK : CNT E σ) : KK l G yX6_sumOfResponses cX6_sumOfResponses 4 (some .int) rm_X6_sumOfResponses [.ref (E.1 5)] (Wd G E σ μ Y) (some (.int (F_X6_sumOfResponses σ))) (Wd G E σ μ Y) := by
  refine KE.of (by decide) (Nat.le_of_ble_eq_true rfl) ?_
  intro zp ze zs zm za zb zt zc zA C _
  generalize hQ : MQ zb _ za zs _ _ zA = Q
  have loop_4 : ∀ (n : Nat) (ac : Int32) (x : Int32), (∃ j : Nat, x = nI j ∧ j ≤ 80 ∧ j + n = 81) → F_X6_sumOfResponses σ = L_X6_sumOfResponses_4 σ n ac x → V zp l ze rm_X6_sumOfResponses zs zm za zb zt zc 4 G zA 0 0 Q 4 [(0, .ref (E.1 5)), (1, .int ac), (2, .int x)] [] (Wd G E σ μ Y) := by
    intro n
    induction n with
    | zero =>
      intro ac x hI hL
      exact False.elim (by obtain ⟨j, _, h8, h⟩ := hI; omega)
    | succ n ih =>
      intro ac x hI hL
      refine v_iload_n C 2 rfl dX6_sumOfResponses_4 ?_
      refine v_aload_n C 0 rfl dX6_sumOfResponses_5 ?_
      refine v_get (v := .int (σ 5 0)) C fl_RX6_17 5 g_5 rfl dX6_sumOfResponses_6 ?_
      refine v_icmp_ge (tgt := 44) C (by decide) dX6_sumOfResponses_9 (fun h1 => ?_) (fun h1 => ?_)
      · refine v_iload_n C 1 rfl dX6_sumOfResponses_44 ?_
        have e1 : F_X6_sumOfResponses σ = ac := by rw [hL, L_X6_sumOfResponses_4, if_pos h1]
        exact v_Q hQ (v_iret C () trivial (by rw [e1]) rfl (Nat.zero_le _) (Nat.zero_le _) dX6_sumOfResponses_45)
      · refine v_aload_n C 0 rfl dX6_sumOfResponses_12 ?_
        refine v_iload_n C 2 rfl dX6_sumOfResponses_13 ?_
        refine v_cVo (rest := []) C mv_RX6_52 (m_X6_findFinished l G E σ μ Y x (by assumption)) 5 g_5 rfl rfl rfl rfl (Nat.le_of_ble_eq_true rfl) ⟨Nat.le_of_ble_eq_true rfl, Nat.le_of_ble_eq_true rfl⟩ ⟨rfl, rfl⟩ ⟨Nat.zero_le _, Nat.zero_le _⟩ dX6_sumOfResponses_14 (fun h2 => ?_) (fun i2 h2 => ?_)
        · refine v_astore_nN (lv' := [(3, .null), (0, .ref (E.1 5)), (1, .int ac), (2, .int x)]) C (Nat.le_of_ble_eq_true rfl) rfl dX6_sumOfResponses_17 ?_
          refine v_iload_n C 2 rfl dX6_sumOfResponses_18 ?_
          refine v_aload_nN C 0 rfl dX6_sumOfResponses_19 ?_
          refine v_ifnullN (tgt := 35) C (by decide) dX6_sumOfResponses_20 ?_
          refine v_iconst (v := (0 : Int32)) C (by decide) dX6_sumOfResponses_35 ?_
          refine v_iadd C dX6_sumOfResponses_36 ?_
          refine v_istore_n (lv' := [(1, .int (ac + (0 : Int32))), (3, .null), (0, .ref (E.1 5)), (2, .int x)]) C (Nat.le_of_ble_eq_true rfl) rfl dX6_sumOfResponses_37 ?_
          refine v_iinc (v := x + (1 : Int32)) (lv' := [(2, .int (x + (1 : Int32))), (1, .int (ac + (0 : Int32))), (3, .null), (0, .ref (E.1 5))]) C 3 rfl rfl (Nat.le_of_ble_eq_true rfl) rfl dX6_sumOfResponses_38 ?_
          refine v_goto (tgt := 4) C (by decide) dX6_sumOfResponses_41 ?_
          refine v_lv [3, 1, 0] rfl ?_
          exact ih (ac + (0 : Int32)) (x + (1 : Int32)) (cnt_step hK hI h1) (by rw [hL, L_X6_sumOfResponses_4, if_neg h1, oel_none h2])
        · have hl0 := (findFinished_some hK h2).1
          refine v_astore_n (lv' := [(3, .ref (E.2.1 i2)), (0, .ref (E.1 5)), (1, .int ac), (2, .int x)]) C (Nat.le_of_ble_eq_true rfl) rfl dX6_sumOfResponses_17 ?_
          refine v_iload_n C 2 rfl dX6_sumOfResponses_18 ?_
          refine v_aload_n C 0 rfl dX6_sumOfResponses_19 ?_
          refine v_ifnull C dX6_sumOfResponses_20 ?_
          refine v_aload_n C 0 rfl dX6_sumOfResponses_23 ?_
          refine v_get (v := .int (σ 43 i2)) C fl_RX6_49 (35 + i2) (g_row (by assumption)) rfl dX6_sumOfResponses_24 ?_
          refine v_aload_n C 0 rfl dX6_sumOfResponses_27 ?_
          refine v_get (v := .int (σ 41 i2)) C fl_RX6_55 (35 + i2) (g_row (by assumption)) rfl dX6_sumOfResponses_28 ?_
          refine v_isub C dX6_sumOfResponses_31 ?_
          refine v_goto (tgt := 36) C (by decide) dX6_sumOfResponses_32 ?_
          refine v_iadd C dX6_sumOfResponses_36 ?_
          refine v_istore_n (lv' := [(1, .int (ac + ((σ 43 i2) - (σ 41 i2)))), (3, .ref (E.2.1 i2)), (0, .ref (E.1 5)), (2, .int x)]) C (Nat.le_of_ble_eq_true rfl) rfl dX6_sumOfResponses_37 ?_
          refine v_iinc (v := x + (1 : Int32)) (lv' := [(2, .int (x + (1 : Int32))), (1, .int (ac + ((σ 43 i2) - (σ 41 i2)))), (3, .ref (E.2.1 i2)), (0, .ref (E.1 5))]) C 3 rfl rfl (Nat.le_of_ble_eq_true rfl) rfl dX6_sumOfResponses_38 ?_
          refine v_goto (tgt := 4) C (by decide) dX6_sumOfResponses_41 ?_
          refine v_lv [3, 1, 0] rfl ?_
          exact ih (ac + ((σ 43 i2) - (σ 41 i2))) (x + (1 : Int32)) (cnt_step hK hI h1) (by rw [hL, L_X6_sumOfResponses_4, if_neg h1, oel_some h2])
  show V zp l ze rm_X6_sumOfResponses zs zm za zb zt zc 4 G zA 0 0 Q 0 [(0, .ref (E.1 5))] [] (Wd G E σ μ Y)
  refine v_iconst (v := (0 : Int32)) C (by decide) dX6_sumOfResponses_0 ?_
  refine v_istore_n (lv' := [(1, .int (0 : Int32)), (0, .ref (E.1 5))]) C (Nat.le_of_ble_eq_true rfl) rfl dX6_sumOfResponses_1 ?_
  refine v_iconst (v := (0 : Int32)) C (by decide) dX6_sumOfResponses_2 ?_
  refine v_istore_n (lv' := [(2, .int (0 : Int32)), (1, .int (0 : Int32)), (0, .ref (E.1 5))]) C (Nat.le_of_ble_eq_true rfl) rfl dX6_sumOfResponses_3 ?_
  refine v_lv [2, 1, 0] rfl ?_
  exact loop_4 81 (0 : Int32) (0 : Int32) (⟨0, rfl, by omega, by omega⟩) (by rw [F_X6_sumOfResponses])
def L_X6_countFinishedWithDeadline_4 (σ : Sg) : Nat → Int32 → Int32 → Int32
  | 0, _, _ => 0
  | n + 1, ac, x => (if (σ 5 0) ≤ x then ac else (Option.elim (F_X6_findFinished σ x) (L_X6_countFinishedWithDeadline_4 σ n (ac + (0 : Int32)) (x + (1 : Int32))) (fun i2 => (if (F_X4_hasDeadline σ i2) = 0 then L_X6_countFinishedWithDeadline_4 σ n (ac + (0 : Int32)) (x + (1 : Int32)) else L_X6_countFinishedWithDeadline_4 σ n (ac + (1 : Int32)) (x + (1 : Int32))))))
def F_X6_countFinishedWithDeadline (σ : Sg) : Int32 := L_X6_countFinishedWithDeadline_4 σ 81 (0 : Int32) (0 : Int32)
abbrev rm_X6_countFinishedWithDeadline : Room := { frames := 2, cells := 0, slots := 0, locals := 43 }
set_option maxRecDepth 100000 in
set_option maxHeartbeats 4000000 in
theorem m_X6_countFinishedWithDeadline (l : Launch) (G : GG) (E : EE) (σ μ : Sg) (Y : va_W) (hK : CNT E σ) : KK l G yX6_countFinishedWithDeadline cX6_countFinishedWithDeadline 4 (some .int) rm_X6_countFinishedWithDeadline [.ref (E.1 5)] (Wd G E σ μ Y) (some (.int (F_X6_countFinishedWithDeadline σ))) (Wd G E σ μ Y) := by
  refine KE.of (by decide) (Nat.le_of_ble_eq_true rfl) ?_
  intro zp ze zs zm za zb zt zc zA C _
  generalize hQ : MQ zb _ za zs _ _ zA = Q
  have loop_4 : ∀ (n : Nat) (ac : Int32) (x : Int32), (∃ j : Nat, x = nI j ∧ j ≤ 80 ∧ j + n = 81) → F_X6_countFinishedWithDeadline σ = L_X6_countFinishedWithDeadline_4 σ n ac x → V zp l ze rm_X6_countFinishedWithDeadline zs zm za zb zt zc 4 G zA 0 0 Q 4 [(0, .ref (E.1 5)), (1, .int ac), (2, .int x)] [] (Wd G E σ μ Y) := by
    intro n
    induction n with
    | zero =>
      intro ac x hI hL
      exact False.elim (by obtain ⟨j, _, h8, h⟩ := hI; omega)
    | succ n ih =>
      intro ac x hI hL
      refine v_iload_n C 2 rfl dX6_countFinishedWithDeadline_4 ?_
      refine v_aload_n C 0 rfl dX6_countFinishedWithDeadline_5 ?_
      refine v_get (v := .int (σ 5 0)) C fl_RX6_17 5 g_5 rfl dX6_countFinishedWithDeadline_6 ?_
      refine v_icmp_ge (tgt := 43) C (by decide) dX6_countFinishedWithDeadline_9 (fun h1 => ?_) (fun h1 => ?_)
      · refine v_iload_n C 1 rfl dX6_countFinishedWithDeadline_43 ?_
        have e1 : F_X6_countFinishedWithDeadline σ = ac := by rw [hL, L_X6_countFinishedWithDeadline_4, if_pos h1]
        exact v_Q hQ (v_iret C () trivial (by rw [e1]) rfl (Nat.zero_le _) (Nat.zero_le _) dX6_countFinishedWithDeadline_44)
      · refine v_aload_n C 0 rfl dX6_countFinishedWithDeadline_12 ?_
        refine v_iload_n C 2 rfl dX6_countFinishedWithDeadline_13 ?_
        refine v_cVo (rest := []) C mv_RX6_52 (m_X6_findFinished l G E σ μ Y x (by assumption)) 5 g_5 rfl rfl rfl rfl (Nat.le_of_ble_eq_true rfl) ⟨Nat.le_of_ble_eq_true rfl, Nat.le_of_ble_eq_true rfl⟩ ⟨rfl, rfl⟩ ⟨Nat.zero_le _, Nat.zero_le _⟩ dX6_countFinishedWithDeadline_14 (fun h2 => ?_) (fun i2 h2 => ?_)
        · refine v_astore_nN (lv' := [(3, .null), (0, .ref (E.1 5)), (1, .int ac), (2, .int x)]) C (Nat.le_of_ble_eq_true rfl) rfl dX6_countFinishedWithDeadline_17 ?_
          refine v_iload_n C 2 rfl dX6_countFinishedWithDeadline_18 ?_
          refine v_aload_nN C 0 rfl dX6_countFinishedWithDeadline_19 ?_
          refine v_ifnullN (tgt := 34) C (by decide) dX6_countFinishedWithDeadline_20 ?_
          refine v_iconst (v := (0 : Int32)) C (by decide) dX6_countFinishedWithDeadline_34 ?_
          refine v_iadd C dX6_countFinishedWithDeadline_35 ?_
          refine v_istore_n (lv' := [(1, .int (ac + (0 : Int32))), (3, .null), (0, .ref (E.1 5)), (2, .int x)]) C (Nat.le_of_ble_eq_true rfl) rfl dX6_countFinishedWithDeadline_36 ?_
          refine v_iinc (v := x + (1 : Int32)) (lv' := [(2, .int (x + (1 : Int32))), (1, .int (ac + (0 : Int32))), (3, .null), (0, .ref (E.1 5))]) C 3 rfl rfl (Nat.le_of_ble_eq_true rfl) rfl dX6_countFinishedWithDeadline_37 ?_
          refine v_goto (tgt := 4) C (by decide) dX6_countFinishedWithDeadline_40 ?_
          refine v_lv [3, 1, 0] rfl ?_
          exact ih (ac + (0 : Int32)) (x + (1 : Int32)) (cnt_step hK hI h1) (by rw [hL, L_X6_countFinishedWithDeadline_4, if_neg h1, oel_none h2])
        · have hl0 := (findFinished_some hK h2).1
          refine v_astore_n (lv' := [(3, .ref (E.2.1 i2)), (0, .ref (E.1 5)), (1, .int ac), (2, .int x)]) C (Nat.le_of_ble_eq_true rfl) rfl dX6_countFinishedWithDeadline_17 ?_
          refine v_iload_n C 2 rfl dX6_countFinishedWithDeadline_18 ?_
          refine v_aload_n C 0 rfl dX6_countFinishedWithDeadline_19 ?_
          refine v_ifnull C dX6_countFinishedWithDeadline_20 ?_
          refine v_aload_n C 0 rfl dX6_countFinishedWithDeadline_23 ?_
          refine v_cV1 (rest := [.int ac]) C mv_RX6_58 (m_X4_hasDeadline l G E σ μ Y i2 (by assumption)) (35 + i2) (g_row (by assumption)) rfl rfl rfl rfl (Nat.le_of_ble_eq_true rfl) ⟨Nat.le_of_ble_eq_true rfl, Nat.le_of_ble_eq_true rfl⟩ ⟨rfl, rfl⟩ ⟨Nat.zero_le _, Nat.zero_le _⟩ dX6_countFinishedWithDeadline_24 ?_
          refine v_if_eq (tgt := 34) C (by decide) dX6_countFinishedWithDeadline_27 (fun h3 => ?_) (fun h3 => ?_)
          · refine v_iconst (v := (0 : Int32)) C (by decide) dX6_countFinishedWithDeadline_34 ?_
            refine v_iadd C dX6_countFinishedWithDeadline_35 ?_
            refine v_istore_n (lv' := [(1, .int (ac + (0 : Int32))), (3, .ref (E.2.1 i2)), (0, .ref (E.1 5)), (2, .int x)]) C (Nat.le_of_ble_eq_true rfl) rfl dX6_countFinishedWithDeadline_36 ?_
            refine v_iinc (v := x + (1 : Int32)) (lv' := [(2, .int (x + (1 : Int32))), (1, .int (ac + (0 : Int32))), (3, .ref (E.2.1 i2)), (0, .ref (E.1 5))]) C 3 rfl rfl (Nat.le_of_ble_eq_true rfl) rfl dX6_countFinishedWithDeadline_37 ?_
            refine v_goto (tgt := 4) C (by decide) dX6_countFinishedWithDeadline_40 ?_
            refine v_lv [3, 1, 0] rfl ?_
            exact ih (ac + (0 : Int32)) (x + (1 : Int32)) (cnt_step hK hI h1) (by rw [hL, L_X6_countFinishedWithDeadline_4, if_neg h1, oel_some h2, if_pos h3])
          · refine v_iconst (v := (1 : Int32)) C (by decide) dX6_countFinishedWithDeadline_30 ?_
            refine v_goto (tgt := 35) C (by decide) dX6_countFinishedWithDeadline_31 ?_
            refine v_iadd C dX6_countFinishedWithDeadline_35 ?_
            refine v_istore_n (lv' := [(1, .int (ac + (1 : Int32))), (3, .ref (E.2.1 i2)), (0, .ref (E.1 5)), (2, .int x)]) C (Nat.le_of_ble_eq_true rfl) rfl dX6_countFinishedWithDeadline_36 ?_
            refine v_iinc (v := x + (1 : Int32)) (lv' := [(2, .int (x + (1 : Int32))), (1, .int (ac + (1 : Int32))), (3, .ref (E.2.1 i2)), (0, .ref (E.1 5))]) C 3 rfl rfl (Nat.le_of_ble_eq_true rfl) rfl dX6_countFinishedWithDeadline_37 ?_
            refine v_goto (tgt := 4) C (by decide) dX6_countFinishedWithDeadline_40 ?_
            refine v_lv [3, 1, 0] rfl ?_
            exact ih (ac + (1 : Int32)) (x + (1 : Int32)) (cnt_step hK hI h1) (by rw [hL, L_X6_countFinishedWithDeadline_4, if_neg h1, oel_some h2, if_neg h3])
  show V zp l ze rm_X6_countFinishedWithDeadline zs zm za zb zt zc 4 G zA 0 0 Q 0 [(0, .ref (E.1 5))] [] (Wd G E σ μ Y)
  refine v_iconst (v := (0 : Int32)) C (by decide) dX6_countFinishedWithDeadline_0 ?_
  refine v_istore_n (lv' := [(1, .int (0 : Int32)), (0, .ref (E.1 5))]) C (Nat.le_of_ble_eq_true rfl) rfl dX6_countFinishedWithDeadline_1 ?_
  refine v_iconst (v := (0 : Int32)) C (by decide) dX6_countFinishedWithDeadline_2 ?_
  refine v_istore_n (lv' := [(2, .int (0 : Int32)), (1, .int (0 : Int32)), (0, .ref (E.1 5))]) C (Nat.le_of_ble_eq_true rfl) rfl dX6_countFinishedWithDeadline_3 ?_
  refine v_lv [2, 1, 0] rfl ?_
  exact loop_4 81 (0 : Int32) (0 : Int32) (⟨0, rfl, by omega, by omega⟩) (by rw [F_X6_countFinishedWithDeadline])
def L_X6_countLate_4 (σ : Sg) : Nat → Int32 → Int32 → Int32
  | 0, _, _ => 0
  | n + 1, ac, x => (if (σ 5 0) ≤ x then ac else (Option.elim (F_X6_findFinished σ x) (L_X6_countLate_4 σ n (ac + (0 : Int32)) (x + (1 : Int32))) (fun i2 => (if (F_X4_missedDeadline σ i2) = 0 then L_X6_countLate_4 σ n (ac + (0 : Int32)) (x + (1 : Int32)) else L_X6_countLate_4 σ n (ac + (1 : Int32)) (x + (1 : Int32))))))
def F_X6_countLate (σ : Sg) : Int32 := L_X6_countLate_4 σ 81 (0 : Int32) (0 : Int32)
abbrev rm_X6_countLate : Room := { frames := 2, cells := 0, slots := 0, locals := 43 }
set_option maxRecDepth 100000 in
set_option maxHeartbeats 4000000 in
theorem m_X6_countLate (l : Launch) (G : GG) (E : EE) (σ μ : Sg) (Y : va_W) (hK : CNT E σ) : KK l G yX6_countLate cX6_countLate 4 (some .int) rm_X6_countLate [.ref (E.1 5)] (Wd G E σ μ Y) (some (.int (F_X6_countLate σ))) (Wd G E σ μ Y) := by
  refine KE.of (by decide) (Nat.le_of_ble_eq_true rfl) ?_
  intro zp ze zs zm za zb zt zc zA C _
  generalize hQ : MQ zb _ za zs _ _ zA = Q
  have loop_4 : ∀ (n : Nat) (ac : Int32) (x : Int32), (∃ j : Nat, x = nI j ∧ j ≤ 80 ∧ j + n = 81) → F_X6_countLate σ = L_X6_countLate_4 σ n ac x → V zp l ze rm_X6_countLate zs zm za zb zt zc 4 G zA 0 0 Q 4 [(0, .ref (E.1 5)), (1, .int ac), (2, .int x)] [] (Wd G E σ μ Y) := by
    intro n
    induction n with
    | zero =>
      intro ac x hI hL
      exact False.elim (by obtain ⟨j, _, h8, h⟩ := hI; omega)
    | succ n ih =>
      intro ac x hI hL
      refine v_iload_n C 2 rfl dX6_countLate_4 ?_
      refine v_aload_n C 0 rfl dX6_countLate_5 ?_
      refine v_get (v := .int (σ 5 0)) C fl_RX6_17 5 g_5 rfl dX6_countLate_6 ?_
      refine v_icmp_ge (tgt := 43) C (by decide) dX6_countLate_9 (fun h1 => ?_) (fun h1 => ?_)
      · refine v_iload_n C 1 rfl dX6_countLate_43 ?_
        have e1 : F_X6_countLate σ = ac := by rw [hL, L_X6_countLate_4, if_pos h1]
        exact v_Q hQ (v_iret C () trivial (by rw [e1]) rfl (Nat.zero_le _) (Nat.zero_le _) dX6_countLate_44)
      · refine v_aload_n C 0 rfl dX6_countLate_12 ?_
        refine v_iload_n C 2 rfl dX6_countLate_13 ?_
        refine v_cVo (rest := []) C mv_RX6_52 (m_X6_findFinished l G E σ μ Y x (by assumption)) 5 g_5 rfl rfl rfl rfl (Nat.le_of_ble_eq_true rfl) ⟨Nat.le_of_ble_eq_true rfl, Nat.le_of_ble_eq_true rfl⟩ ⟨rfl, rfl⟩ ⟨Nat.zero_le _, Nat.zero_le _⟩ dX6_countLate_14 (fun h2 => ?_) (fun i2 h2 => ?_)
        · refine v_astore_nN (lv' := [(3, .null), (0, .ref (E.1 5)), (1, .int ac), (2, .int x)]) C (Nat.le_of_ble_eq_true rfl) rfl dX6_countLate_17 ?_
          refine v_iload_n C 2 rfl dX6_countLate_18 ?_
          refine v_aload_nN C 0 rfl dX6_countLate_19 ?_
          refine v_ifnullN (tgt := 34) C (by decide) dX6_countLate_20 ?_
          refine v_iconst (v := (0 : Int32)) C (by decide) dX6_countLate_34 ?_
          refine v_iadd C dX6_countLate_35 ?_
          refine v_istore_n (lv' := [(1, .int (ac + (0 : Int32))), (3, .null), (0, .ref (E.1 5)), (2, .int x)]) C (Nat.le_of_ble_eq_true rfl) rfl dX6_countLate_36 ?_
          refine v_iinc (v := x + (1 : Int32)) (lv' := [(2, .int (x + (1 : Int32))), (1, .int (ac + (0 : Int32))), (3, .null), (0, .ref (E.1 5))]) C 3 rfl rfl (Nat.le_of_ble_eq_true rfl) rfl dX6_countLate_37 ?_
          refine v_goto (tgt := 4) C (by decide) dX6_countLate_40 ?_
          refine v_lv [3, 1, 0] rfl ?_
          exact ih (ac + (0 : Int32)) (x + (1 : Int32)) (cnt_step hK hI h1) (by rw [hL, L_X6_countLate_4, if_neg h1, oel_none h2])
        · have hl0 := (findFinished_some hK h2).1
          refine v_astore_n (lv' := [(3, .ref (E.2.1 i2)), (0, .ref (E.1 5)), (1, .int ac), (2, .int x)]) C (Nat.le_of_ble_eq_true rfl) rfl dX6_countLate_17 ?_
          refine v_iload_n C 2 rfl dX6_countLate_18 ?_
          refine v_aload_n C 0 rfl dX6_countLate_19 ?_
          refine v_ifnull C dX6_countLate_20 ?_
          refine v_aload_n C 0 rfl dX6_countLate_23 ?_
          refine v_cV1 (rest := [.int ac]) C mv_RX6_62 (m_X4_missedDeadline l G E σ μ Y i2 (by assumption)) (35 + i2) (g_row (by assumption)) rfl rfl rfl rfl (Nat.le_of_ble_eq_true rfl) ⟨Nat.le_of_ble_eq_true rfl, Nat.le_of_ble_eq_true rfl⟩ ⟨rfl, rfl⟩ ⟨Nat.zero_le _, Nat.zero_le _⟩ dX6_countLate_24 ?_
          refine v_if_eq (tgt := 34) C (by decide) dX6_countLate_27 (fun h3 => ?_) (fun h3 => ?_)
          · refine v_iconst (v := (0 : Int32)) C (by decide) dX6_countLate_34 ?_
            refine v_iadd C dX6_countLate_35 ?_
            refine v_istore_n (lv' := [(1, .int (ac + (0 : Int32))), (3, .ref (E.2.1 i2)), (0, .ref (E.1 5)), (2, .int x)]) C (Nat.le_of_ble_eq_true rfl) rfl dX6_countLate_36 ?_
            refine v_iinc (v := x + (1 : Int32)) (lv' := [(2, .int (x + (1 : Int32))), (1, .int (ac + (0 : Int32))), (3, .ref (E.2.1 i2)), (0, .ref (E.1 5))]) C 3 rfl rfl (Nat.le_of_ble_eq_true rfl) rfl dX6_countLate_37 ?_
            refine v_goto (tgt := 4) C (by decide) dX6_countLate_40 ?_
            refine v_lv [3, 1, 0] rfl ?_
            exact ih (ac + (0 : Int32)) (x + (1 : Int32)) (cnt_step hK hI h1) (by rw [hL, L_X6_countLate_4, if_neg h1, oel_some h2, if_pos h3])
          · refine v_iconst (v := (1 : Int32)) C (by decide) dX6_countLate_30 ?_
            refine v_goto (tgt := 35) C (by decide) dX6_countLate_31 ?_
            refine v_iadd C dX6_countLate_35 ?_
            refine v_istore_n (lv' := [(1, .int (ac + (1 : Int32))), (3, .ref (E.2.1 i2)), (0, .ref (E.1 5)), (2, .int x)]) C (Nat.le_of_ble_eq_true rfl) rfl dX6_countLate_36 ?_
            refine v_iinc (v := x + (1 : Int32)) (lv' := [(2, .int (x + (1 : Int32))), (1, .int (ac + (1 : Int32))), (3, .ref (E.2.1 i2)), (0, .ref (E.1 5))]) C 3 rfl rfl (Nat.le_of_ble_eq_true rfl) rfl dX6_countLate_37 ?_
            refine v_goto (tgt := 4) C (by decide) dX6_countLate_40 ?_
            refine v_lv [3, 1, 0] rfl ?_
            exact ih (ac + (1 : Int32)) (x + (1 : Int32)) (cnt_step hK hI h1) (by rw [hL, L_X6_countLate_4, if_neg h1, oel_some h2, if_neg h3])
  show V zp l ze rm_X6_countLate zs zm za zb zt zc 4 G zA 0 0 Q 0 [(0, .ref (E.1 5))] [] (Wd G E σ μ Y)
  refine v_iconst (v := (0 : Int32)) C (by decide) dX6_countLate_0 ?_
  refine v_istore_n (lv' := [(1, .int (0 : Int32)), (0, .ref (E.1 5))]) C (Nat.le_of_ble_eq_true rfl) rfl dX6_countLate_1 ?_
  refine v_iconst (v := (0 : Int32)) C (by decide) dX6_countLate_2 ?_
  refine v_istore_n (lv' := [(2, .int (0 : Int32)), (1, .int (0 : Int32)), (0, .ref (E.1 5))]) C (Nat.le_of_ble_eq_true rfl) rfl dX6_countLate_3 ?_
  refine v_lv [2, 1, 0] rfl ?_
  exact loop_4 81 (0 : Int32) (0 : Int32) (⟨0, rfl, by omega, by omega⟩) (by rw [F_X6_countLate])
def F_X7_isAhead (σ : Sg) (cy : Int32) (am : Int32) : Int32 := (if (σ 7 1) = 0 then (if am < cy then (0 : Int32) else (1 : Int32)) else (if cy < am then (0 : Int32) else (1 : Int32)))
theorem z01_X7_isAhead (σ : Sg) (cy : Int32) (am : Int32) : F_X7_isAhead σ cy am = 0 ∨ F_X7_isAhead σ cy am = 1 := by
  unfold F_X7_isAhead; (repeat' split) <;> first | exact Or.inl rfl | exact Or.inr rfl
abbrev rm_X7_isAhead : Room := { frames := 0, cells := 0, slots := 0, locals := 0 }
set_option maxRecDepth 100000 in
set_option maxHeartbeats 4000000 in
theorem m_X7_isAhead (l : Launch) (G : GG) (E : EE) (σ μ : Sg) (Y : va_W) (cy : Int32) (am : Int32) : KK l G yX7_isAhead cX7_isAhead 3 (some .boolean) rm_X7_isAhead [.ref (E.1 7), .int cy, .int am] (Wd G E σ μ Y) (some (.int (F_X7_isAhead σ cy am))) (Wd G E σ μ Y) := by
  refine KE.of (by decide) (Nat.le_of_ble_eq_true rfl) ?_
  intro zp ze zs zm za zb zt zc zA C _
  generalize hQ : MQ zb _ za zs _ _ zA = Q
  show V zp l ze rm_X7_isAhead zs zm za zb zt zc 3 G zA 0 0 Q 0 [(0, .ref (E.1 7)), (1, .int cy), (2, .int am)] [] (Wd G E σ μ Y)
  refine v_aload_n C 0 rfl dX7_isAhead_0 ?_
  refine v_get (v := .int (σ 7 1)) C fl_RX7_9 7 g_7 rfl dX7_isAhead_1 ?_
  refine v_if_eq (tgt := 20) C (by decide) dX7_isAhead_4 (fun h1 => ?_) (fun h1 => ?_)
  · refine v_iload_n C 1 rfl dX7_isAhead_20 ?_
    refine v_iload_n C 2 rfl dX7_isAhead_21 ?_
    refine v_icmp_gt (tgt := 29) C (by decide) dX7_isAhead_22 (fun h2 => ?_) (fun h2 => ?_)
    · refine v_iconst (v := (0 : Int32)) C (by decide) dX7_isAhead_29 ?_
      have e1 : F_X7_isAhead σ cy am = (0 : Int32) := by rw [F_X7_isAhead, if_pos h1, if_pos h2]
      exact v_Q hQ (v_zret C rfl () trivial (by rw [e1]) rfl (Nat.zero_le _) (Nat.zero_le _) dX7_isAhead_30)
    · refine v_iconst (v := (1 : Int32)) C (by decide) dX7_isAhead_25 ?_
      refine v_goto (tgt := 30) C (by decide) dX7_isAhead_26 ?_
      have e1 : F_X7_isAhead σ cy am = (1 : Int32) := by rw [F_X7_isAhead, if_pos h1, if_neg h2]
      exact v_Q hQ (v_zret C rfl () trivial (by rw [e1]) rfl (Nat.zero_le _) (Nat.zero_le _) dX7_isAhead_30)
  · refine v_iload_n C 1 rfl dX7_isAhead_7 ?_
    refine v_iload_n C 2 rfl dX7_isAhead_8 ?_
    refine v_icmp_lt (tgt := 16) C (by decide) dX7_isAhead_9 (fun h3 => ?_) (fun h3 => ?_)
    · refine v_iconst (v := (0 : Int32)) C (by decide) dX7_isAhead_16 ?_
      refine v_goto (tgt := 30) C (by decide) dX7_isAhead_17 ?_
      have e1 : F_X7_isAhead σ cy am = (0 : Int32) := by rw [F_X7_isAhead, if_neg h1, if_pos h3]
      exact v_Q hQ (v_zret C rfl () trivial (by rw [e1]) rfl (Nat.zero_le _) (Nat.zero_le _) dX7_isAhead_30)
    · refine v_iconst (v := (1 : Int32)) C (by decide) dX7_isAhead_12 ?_
      refine v_goto (tgt := 30) C (by decide) dX7_isAhead_13 ?_
      have e1 : F_X7_isAhead σ cy am = (1 : Int32) := by rw [F_X7_isAhead, if_neg h1, if_neg h3]
      exact v_Q hQ (v_zret C rfl () trivial (by rw [e1]) rfl (Nat.zero_le _) (Nat.zero_le _) dX7_isAhead_30)
def F_X7_turnFor (σ : Sg) (cy : Int32) (am : Int32) : Sg := (if (σ 7 0) = (2 : Int32) then (if (F_X7_isAhead σ cy am) = 0 then (if (σ 7 1) = 0 then (s2 σ 7 1 (1 : Int32)) else (s2 σ 7 1 (0 : Int32))) else σ) else σ)
abbrev rm_X7_turnFor : Room := { frames := 1, cells := 0, slots := 0, locals := 22 }
set_option maxRecDepth 100000 in
set_option maxHeartbeats 4000000 in
theorem m_X7_turnFor (l : Launch) (G : GG) (E : EE) (σ μ : Sg) (Y : va_W) (cy : Int32) (am : Int32) : KK l G yX7_turnFor cX7_turnFor 3 none rm_X7_turnFor [.ref (E.1 7), .int cy, .int am] (Wd G E σ μ Y) none (Wd G E (F_X7_turnFor σ cy am) μ Y) := by
  refine KE.of (by decide) (Nat.le_of_ble_eq_true rfl) ?_
  intro zp ze zs zm za zb zt zc zA C _
  generalize hQ : MQ zb _ za zs _ _ zA = Q
  show V zp l ze rm_X7_turnFor zs zm za zb zt zc 3 G zA 0 0 Q 0 [(0, .ref (E.1 7)), (1, .int cy), (2, .int am)] [] (Wd G E σ μ Y)
  refine v_aload_n C 0 rfl dX7_turnFor_0 ?_
  refine v_get (v := .int (σ 7 0)) C fl_RX7_22 7 g_7 rfl dX7_turnFor_1 ?_
  refine v_iconst (v := (2 : Int32)) C (by decide) dX7_turnFor_4 ?_
  refine v_icmp_ne (tgt := 33) C (by decide) dX7_turnFor_5 (fun h1 => ?_) (fun h1 => ?_)
  · have e1 : F_X7_turnFor σ cy am = σ := by rw [F_X7_turnFor, if_neg h1]
    exact v_Q hQ (v_vret C () trivial rfl (by rw [e1]) (Nat.zero_le _) (Nat.zero_le _) dX7_turnFor_33)
  · refine v_aload_n C 0 rfl dX7_turnFor_8 ?_
    refine v_iload_n C 1 rfl dX7_turnFor_9 ?_
    refine v_iload_n C 2 rfl dX7_turnFor_10 ?_
    refine v_cV1 (rest := []) C mv_RX7_86 (m_X7_isAhead l G E σ μ Y cy am) 7 g_7 rfl rfl rfl rfl (Nat.le_of_ble_eq_true rfl) ⟨Nat.le_of_ble_eq_true rfl, Nat.le_of_ble_eq_true rfl⟩ ⟨rfl, rfl⟩ ⟨Nat.zero_le _, Nat.zero_le _⟩ dX7_turnFor_11 ?_
    refine v_if_ne (tgt := 33) C (by decide) dX7_turnFor_14 (fun h2 => ?_) (fun h2 => ?_)
    · have e1 : F_X7_turnFor σ cy am = σ := by rw [F_X7_turnFor, if_pos h1, if_neg h2]
      exact v_Q hQ (v_vret C () trivial rfl (by rw [e1]) (Nat.zero_le _) (Nat.zero_le _) dX7_turnFor_33)
    · refine v_aload_n C 0 rfl dX7_turnFor_17 ?_
      refine v_aload_n C 0 rfl dX7_turnFor_18 ?_
      refine v_get (v := .int (σ 7 1)) C fl_RX7_9 7 g_7 rfl dX7_turnFor_19 ?_
      refine v_if_ne (tgt := 29) C (by decide) dX7_turnFor_22 (fun h3 => ?_) (fun h3 => ?_)
      · refine v_iconst (v := (0 : Int32)) C (by decide) dX7_turnFor_29 ?_
        refine v_put C fp_RX7_9 7 g_7 rfl rfl (Nat.le_of_ble_eq_true rfl) (p_7_1 _) dX7_turnFor_30 ?_
        have e1 : F_X7_turnFor σ cy am = (s2 σ 7 1 (0 : Int32)) := by rw [F_X7_turnFor, if_pos h1, if_pos h2, if_neg h3]
        exact v_Q hQ (v_vret C () trivial rfl (by rw [e1]) (Nat.zero_le _) (Nat.zero_le _) dX7_turnFor_33)
      · refine v_iconst (v := (1 : Int32)) C (by decide) dX7_turnFor_25 ?_
        refine v_goto (tgt := 30) C (by decide) dX7_turnFor_26 ?_
        refine v_put C fp_RX7_9 7 g_7 rfl rfl (Nat.le_of_ble_eq_true rfl) (p_7_1 _) dX7_turnFor_30 ?_
        have e1 : F_X7_turnFor σ cy am = (s2 σ 7 1 (1 : Int32)) := by rw [F_X7_turnFor, if_pos h1, if_pos h2, if_pos h3]
        exact v_Q hQ (v_vret C () trivial rfl (by rw [e1]) (Nat.zero_le _) (Nat.zero_le _) dX7_turnFor_33)
def F_X7_bucketOf (σ : Sg) (rq : Nat) (ck : Int32) : Int32 := (if (F_X4_hasDeadline σ rq) = 0 then if (0 : Int32) < ((3 : Int32) - (F_X2_quotient (ck - (σ 41 rq)) (σ 7 3))) then ((3 : Int32) - (F_X2_quotient (ck - (σ 41 rq)) (σ 7 3))) else (0 : Int32) else if (0 : Int32) < ((if (F_X2_quotient (if (0 : Int32) < ((σ 42 rq) - ck) then ((σ 42 rq) - ck) else (0 : Int32)) (σ 7 2)) < (3 : Int32) then (F_X2_quotient (if (0 : Int32) < ((σ 42 rq) - ck) then ((σ 42 rq) - ck) else (0 : Int32)) (σ 7 2)) else (3 : Int32)) - (F_X2_quotient (ck - (σ 41 rq)) (σ 7 3))) then ((if (F_X2_quotient (if (0 : Int32) < ((σ 42 rq) - ck) then ((σ 42 rq) - ck) else (0 : Int32)) (σ 7 2)) < (3 : Int32) then (F_X2_quotient (if (0 : Int32) < ((σ 42 rq) - ck) then ((σ 42 rq) - ck) else (0 : Int32)) (σ 7 2)) else (3 : Int32)) - (F_X2_quotient (ck - (σ 41 rq)) (σ 7 3))) else (0 : Int32))
abbrev rm_X7_bucketOf : Room := { frames := 1, cells := 0, slots := 0, locals := 21 }
set_option maxRecDepth 100000 in
set_option maxHeartbeats 4000000 in
theorem m_X7_bucketOf (l : Launch) (G : GG) (E : EE) (σ μ : Sg) (Y : va_W) (rq : Nat) (ck : Int32) (hr : rq < E.2.2.1) : KK l G yX7_bucketOf cX7_bucketOf 5 (some .int) rm_X7_bucketOf [.ref (E.1 7), .ref (E.2.1 rq), .int ck] (Wd G E σ μ Y) (some (.int (F_X7_bucketOf σ rq ck))) (Wd G E σ μ Y) := by
  refine KE.of (by decide) (Nat.le_of_ble_eq_true rfl) ?_
  intro zp ze zs zm za zb zt zc zA C _
  generalize hQ : MQ zb _ za zs _ _ zA = Q
  show V zp l ze rm_X7_bucketOf zs zm za zb zt zc 5 G zA 0 0 Q 0 [(0, .ref (E.1 7)), (1, .ref (E.2.1 rq)), (2, .int ck)] [] (Wd G E σ μ Y)
  refine v_iconst (v := (3 : Int32)) C (by decide) dX7_bucketOf_0 ?_
  refine v_istore_n (lv' := [(3, .int (3 : Int32)), (0, .ref (E.1 7)), (1, .ref (E.2.1 rq)), (2, .int ck)]) C (Nat.le_of_ble_eq_true rfl) rfl dX7_bucketOf_1 ?_
  refine v_aload_n C 2 rfl dX7_bucketOf_2 ?_
  refine v_cV1 (rest := []) C mv_RX7_100 (m_X4_hasDeadline l G E σ μ Y rq (by assumption)) (35 + rq) (g_row (by assumption)) rfl rfl rfl rfl (Nat.le_of_ble_eq_true rfl) ⟨Nat.le_of_ble_eq_true rfl, Nat.le_of_ble_eq_true rfl⟩ ⟨rfl, rfl⟩ ⟨Nat.zero_le _, Nat.zero_le _⟩ dX7_bucketOf_3 ?_
  refine v_if_eq (tgt := 35) C (by decide) dX7_bucketOf_6 (fun h1 => ?_) (fun h1 => ?_)
  · refine v_iconst (v := (0 : Int32)) C (by decide) dX7_bucketOf_35 ?_
    refine v_iload_n C 0 rfl dX7_bucketOf_36 ?_
    refine v_iload_n C 3 rfl dX7_bucketOf_37 ?_
    refine v_aload_n C 2 rfl dX7_bucketOf_38 ?_
    refine v_get (v := .int (σ 41 rq)) C fl_RX7_116 (35 + rq) (g_row (by assumption)) rfl dX7_bucketOf_39 ?_
    refine v_isub C dX7_bucketOf_42 ?_
    refine v_aload_n C 1 rfl dX7_bucketOf_43 ?_
    refine v_get (v := .int (σ 7 3)) C fl_RX7_19 7 g_7 rfl dX7_bucketOf_44 ?_
    refine v_cS1 (rest := [.int (3 : Int32), .int (0 : Int32)]) C ms_RX7_110 (m_X2_quotient l G E σ μ Y (ck - (σ 41 rq)) (σ 7 3)) rfl rfl (Nat.le_of_ble_eq_true rfl) ⟨Nat.le_of_ble_eq_true rfl, Nat.le_of_ble_eq_true rfl⟩ ⟨rfl, rfl⟩ ⟨Nat.zero_le _, Nat.zero_le _⟩ dX7_bucketOf_47 ?_
    refine v_isub C dX7_bucketOf_50 ?_
    refine v_mmax C w_936 (Nat.le_of_ble_eq_true rfl) (Nat.le_of_ble_eq_true rfl) (Nat.zero_le _) (Nat.zero_le _) dX7_bucketOf_51 ?_
    have e1 : F_X7_bucketOf σ rq ck = if (0 : Int32) < ((3 : Int32) - (F_X2_quotient (ck - (σ 41 rq)) (σ 7 3))) then ((3 : Int32) - (F_X2_quotient (ck - (σ 41 rq)) (σ 7 3))) else (0 : Int32) := by rw [F_X7_bucketOf, if_pos h1]
    exact v_Q hQ (v_iret C () trivial (by rw [e1]) rfl (Nat.zero_le _) (Nat.zero_le _) dX7_bucketOf_54)
  · refine v_iconst (v := (0 : Int32)) C (by decide) dX7_bucketOf_9 ?_
    refine v_aload_n C 2 rfl dX7_bucketOf_10 ?_
    refine v_get (v := .int (σ 42 rq)) C fl_RX7_103 (35 + rq) (g_row (by assumption)) rfl dX7_bucketOf_11 ?_
    refine v_iload_n C 3 rfl dX7_bucketOf_14 ?_
    refine v_isub C dX7_bucketOf_15 ?_
    refine v_mmax C w_936 (Nat.le_of_ble_eq_true rfl) (Nat.le_of_ble_eq_true rfl) (Nat.zero_le _) (Nat.zero_le _) dX7_bucketOf_16 ?_
    refine v_istore (lv' := [(4, .int (if (0 : Int32) < ((σ 42 rq) - ck) then ((σ 42 rq) - ck) else (0 : Int32))), (3, .int (3 : Int32)), (0, .ref (E.1 7)), (1, .ref (E.2.1 rq)), (2, .int ck)]) C (Nat.le_of_ble_eq_true rfl) rfl dX7_bucketOf_19 ?_
    refine v_iconst (v := (3 : Int32)) C (by decide) dX7_bucketOf_21 ?_
    refine v_iload C 0 rfl dX7_bucketOf_22 ?_
    refine v_aload_n C 2 rfl dX7_bucketOf_24 ?_
    refine v_get (v := .int (σ 7 2)) C fl_RX7_15 7 g_7 rfl dX7_bucketOf_25 ?_
    refine v_cS1 (rest := [.int (3 : Int32)]) C ms_RX7_110 (m_X2_quotient l G E σ μ Y (if (0 : Int32) < ((σ 42 rq) - ck) then ((σ 42 rq) - ck) else (0 : Int32)) (σ 7 2)) rfl rfl (Nat.le_of_ble_eq_true rfl) ⟨Nat.le_of_ble_eq_true rfl, Nat.le_of_ble_eq_true rfl⟩ ⟨rfl, rfl⟩ ⟨Nat.zero_le _, Nat.zero_le _⟩ dX7_bucketOf_28 ?_
    refine v_mmin C w_940 (Nat.le_of_ble_eq_true rfl) (Nat.le_of_ble_eq_true rfl) (Nat.zero_le _) (Nat.zero_le _) dX7_bucketOf_31 ?_
    refine v_istore_n (lv' := [(3, .int (if (F_X2_quotient (if (0 : Int32) < ((σ 42 rq) - ck) then ((σ 42 rq) - ck) else (0 : Int32)) (σ 7 2)) < (3 : Int32) then (F_X2_quotient (if (0 : Int32) < ((σ 42 rq) - ck) then ((σ 42 rq) - ck) else (0 : Int32)) (σ 7 2)) else (3 : Int32))), (4, .int (if (0 : Int32) < ((σ 42 rq) - ck) then ((σ 42 rq) - ck) else (0 : Int32))), (0, .ref (E.1 7)), (1, .ref (E.2.1 rq)), (2, .int ck)]) C (Nat.le_of_ble_eq_true rfl) rfl dX7_bucketOf_34 ?_
    refine v_iconst (v := (0 : Int32)) C (by decide) dX7_bucketOf_35 ?_
    refine v_iload_n C 0 rfl dX7_bucketOf_36 ?_
    refine v_iload_n C 4 rfl dX7_bucketOf_37 ?_
    refine v_aload_n C 3 rfl dX7_bucketOf_38 ?_
    refine v_get (v := .int (σ 41 rq)) C fl_RX7_116 (35 + rq) (g_row (by assumption)) rfl dX7_bucketOf_39 ?_
    refine v_isub C dX7_bucketOf_42 ?_
    refine v_aload_n C 2 rfl dX7_bucketOf_43 ?_
    refine v_get (v := .int (σ 7 3)) C fl_RX7_19 7 g_7 rfl dX7_bucketOf_44 ?_
    refine v_cS1 (rest := [.int (if (F_X2_quotient (if (0 : Int32) < ((σ 42 rq) - ck) then ((σ 42 rq) - ck) else (0 : Int32)) (σ 7 2)) < (3 : Int32) then (F_X2_quotient (if (0 : Int32) < ((σ 42 rq) - ck) then ((σ 42 rq) - ck) else (0 : Int32)) (σ 7 2)) else (3 : Int32)), .int (0 : Int32)]) C ms_RX7_110 (m_X2_quotient l G E σ μ Y (ck - (σ 41 rq)) (σ 7 3)) rfl rfl (Nat.le_of_ble_eq_true rfl) ⟨Nat.le_of_ble_eq_true rfl, Nat.le_of_ble_eq_true rfl⟩ ⟨rfl, rfl⟩ ⟨Nat.zero_le _, Nat.zero_le _⟩ dX7_bucketOf_47 ?_
    refine v_isub C dX7_bucketOf_50 ?_
    refine v_mmax C w_936 (Nat.le_of_ble_eq_true rfl) (Nat.le_of_ble_eq_true rfl) (Nat.zero_le _) (Nat.zero_le _) dX7_bucketOf_51 ?_
    have e1 : F_X7_bucketOf σ rq ck = if (0 : Int32) < ((if (F_X2_quotient (if (0 : Int32) < ((σ 42 rq) - ck) then ((σ 42 rq) - ck) else (0 : Int32)) (σ 7 2)) < (3 : Int32) then (F_X2_quotient (if (0 : Int32) < ((σ 42 rq) - ck) then ((σ 42 rq) - ck) else (0 : Int32)) (σ 7 2)) else (3 : Int32)) - (F_X2_quotient (ck - (σ 41 rq)) (σ 7 3))) then ((if (F_X2_quotient (if (0 : Int32) < ((σ 42 rq) - ck) then ((σ 42 rq) - ck) else (0 : Int32)) (σ 7 2)) < (3 : Int32) then (F_X2_quotient (if (0 : Int32) < ((σ 42 rq) - ck) then ((σ 42 rq) - ck) else (0 : Int32)) (σ 7 2)) else (3 : Int32)) - (F_X2_quotient (ck - (σ 41 rq)) (σ 7 3))) else (0 : Int32) := by rw [F_X7_bucketOf, if_neg h1]
    exact v_Q hQ (v_iret C () trivial (by rw [e1]) rfl (Nat.zero_le _) (Nat.zero_le _) dX7_bucketOf_54)
def F_X7_keyOf (σ : Sg) (rq : Nat) : Int32 := (if (σ 7 0) = (0 : Int32) then nI rq else (if (σ 7 0) = (1 : Int32) then if 0 ≤ ((F_X2_cylinderOfPlace (F_X1_placeOfBlock σ (σ 40 rq))) - (σ 2 5)) then ((F_X2_cylinderOfPlace (F_X1_placeOfBlock σ (σ 40 rq))) - (σ 2 5)) else 0 - ((F_X2_cylinderOfPlace (F_X1_placeOfBlock σ (σ 40 rq))) - (σ 2 5)) else (if (σ 7 0) = (2 : Int32) then (if (F_X7_isAhead σ (F_X2_cylinderOfPlace (F_X1_placeOfBlock σ (σ 40 rq))) (σ 2 5)) = 0 then (64 : Int32) + (if 0 ≤ ((F_X2_cylinderOfPlace (F_X1_placeOfBlock σ (σ 40 rq))) - (σ 2 5)) then ((F_X2_cylinderOfPlace (F_X1_placeOfBlock σ (σ 40 rq))) - (σ 2 5)) else 0 - ((F_X2_cylinderOfPlace (F_X1_placeOfBlock σ (σ 40 rq))) - (σ 2 5))) else if 0 ≤ ((F_X2_cylinderOfPlace (F_X1_placeOfBlock σ (σ 40 rq))) - (σ 2 5)) then ((F_X2_cylinderOfPlace (F_X1_placeOfBlock σ (σ 40 rq))) - (σ 2 5)) else 0 - ((F_X2_cylinderOfPlace (F_X1_placeOfBlock σ (σ 40 rq))) - (σ 2 5))) else (if (σ 7 0) = (3 : Int32) then (if (F_X2_cylinderOfPlace (F_X1_placeOfBlock σ (σ 40 rq))) < (σ 2 5) then (64 : Int32) + (F_X2_cylinderOfPlace (F_X1_placeOfBlock σ (σ 40 rq))) else if 0 ≤ ((F_X2_cylinderOfPlace (F_X1_placeOfBlock σ (σ 40 rq))) - (σ 2 5)) then ((F_X2_cylinderOfPlace (F_X1_placeOfBlock σ (σ 40 rq))) - (σ 2 5)) else 0 - ((F_X2_cylinderOfPlace (F_X1_placeOfBlock σ (σ 40 rq))) - (σ 2 5))) else (if (σ 7 0) = (4 : Int32) then F_X1_ticksToAccess σ (F_X1_placeOfBlock σ (σ 40 rq)) else (if (σ 7 0) = (5 : Int32) then ((F_X7_bucketOf σ rq (σ 2 4)) * (10000 : Int32)) + (F_X1_ticksToAccess σ (F_X1_placeOfBlock σ (σ 40 rq))) else F_X1_ticksToAccess σ (F_X1_placeOfBlock σ (σ 40 rq))))))))
abbrev rm_X7_keyOf : Room := { frames := 4, cells := 0, slots := 0, locals := 87 }
set_option maxRecDepth 100000 in
set_option maxHeartbeats 4000000 in
theorem m_X7_keyOf (l : Launch) (G : GG) (E : EE) (σ μ : Sg) (Y : va_W) (rq : Nat) (hr : rq < E.2.2.1) : KK l G yX7_keyOf cX7_keyOf 6 (some .int) rm_X7_keyOf [.ref (E.1 7), .ref (E.2.1 rq), .ref (E.1 2)] (Wd G E σ μ Y) (some (.int (F_X7_keyOf σ rq))) (Wd G E σ μ Y) := by
  refine KE.of (by decide) (Nat.le_of_ble_eq_true rfl) ?_
  intro zp ze zs zm za zb zt zc zA C _
  generalize hQ : MQ zb _ za zs _ _ zA = Q
  show V zp l ze rm_X7_keyOf zs zm za zb zt zc 6 G zA 0 0 Q 0 [(0, .ref (E.1 7)), (1, .ref (E.2.1 rq)), (2, .ref (E.1 2))] [] (Wd G E σ μ Y)
  refine v_aload_n C 2 rfl dX7_keyOf_0 ?_
  refine v_aload_n C 1 rfl dX7_keyOf_1 ?_
  refine v_get (v := .int (σ 40 rq)) C fl_RX7_60 (35 + rq) (g_row (by assumption)) rfl dX7_keyOf_2 ?_
  refine v_cV1 (rest := []) C mv_RX7_65 (m_X1_placeOfBlock l G E σ μ Y (σ 40 rq)) 2 g_2 rfl rfl rfl rfl (Nat.le_of_ble_eq_true rfl) ⟨Nat.le_of_ble_eq_true rfl, Nat.le_of_ble_eq_true rfl⟩ ⟨rfl, rfl⟩ ⟨Nat.zero_le _, Nat.zero_le _⟩ dX7_keyOf_5 ?_
  refine v_istore_n (lv' := [(3, .int (F_X1_placeOfBlock σ (σ 40 rq))), (0, .ref (E.1 7)), (1, .ref (E.2.1 rq)), (2, .ref (E.1 2))]) C (Nat.le_of_ble_eq_true rfl) rfl dX7_keyOf_8 ?_
  refine v_iload_n C 0 rfl dX7_keyOf_9 ?_
  refine v_cS1 (rest := []) C ms_RX7_70 (m_X2_cylinderOfPlace l G E σ μ Y (F_X1_placeOfBlock σ (σ 40 rq))) rfl rfl (Nat.le_of_ble_eq_true rfl) ⟨Nat.le_of_ble_eq_true rfl, Nat.le_of_ble_eq_true rfl⟩ ⟨rfl, rfl⟩ ⟨Nat.zero_le _, Nat.zero_le _⟩ dX7_keyOf_10 ?_
  refine v_istore (lv' := [(4, .int (F_X2_cylinderOfPlace (F_X1_placeOfBlock σ (σ 40 rq)))), (3, .int (F_X1_placeOfBlock σ (σ 40 rq))), (0, .ref (E.1 7)), (1, .ref (E.2.1 rq)), (2, .ref (E.1 2))]) C (Nat.le_of_ble_eq_true rfl) rfl dX7_keyOf_13 ?_
  refine v_iload C 0 rfl dX7_keyOf_15 ?_
  refine v_aload_n C 4 rfl dX7_keyOf_17 ?_
  refine v_get (v := .int (σ 2 5)) C fl_RX7_75 2 g_2 rfl dX7_keyOf_18 ?_
  refine v_isub C dX7_keyOf_21 ?_
  refine v_mabs C w_924 (Nat.le_of_ble_eq_true rfl) (Nat.le_of_ble_eq_true rfl) (Nat.zero_le _) (Nat.zero_le _) dX7_keyOf_22 ?_
  refine v_istore (lv' := [(5, .int (if 0 ≤ ((F_X2_cylinderOfPlace (F_X1_placeOfBlock σ (σ 40 rq))) - (σ 2 5)) then ((F_X2_cylinderOfPlace (F_X1_placeOfBlock σ (σ 40 rq))) - (σ 2 5)) else 0 - ((F_X2_cylinderOfPlace (F_X1_placeOfBlock σ (σ 40 rq))) - (σ 2 5)))), (4, .int (F_X2_cylinderOfPlace (F_X1_placeOfBlock σ (σ 40 rq)))), (3, .int (F_X1_placeOfBlock σ (σ 40 rq))), (0, .ref (E.1 7)), (1, .ref (E.2.1 rq)), (2, .ref (E.1 2))]) C (Nat.le_of_ble_eq_true rfl) rfl dX7_keyOf_25 ?_
  refine v_aload_n C 3 rfl dX7_keyOf_27 ?_
  refine v_get (v := .int (σ 7 0)) C fl_RX7_22 7 g_7 rfl dX7_keyOf_28 ?_
  by_cases h1 : (σ 7 0) = (0 : Int32)
  · refine v_tabIn (tgt := 68) (off := 37) C (by rw [h1]; decide) (by rw [h1]; decide) (by rw [h1]; decide) (by decide) dX7_keyOf_31 ?_
    refine v_aload_n C 4 rfl dX7_keyOf_68 ?_
    refine v_get (v := .int (nI rq)) C fl_RX7_83 (35 + rq) (g_row (by assumption)) rfl dX7_keyOf_69 ?_
    have e1 : F_X7_keyOf σ rq = nI rq := by rw [F_X7_keyOf, if_pos h1]
    exact v_Q hQ (v_iret C () trivial (by rw [e1]) rfl (Nat.zero_le _) (Nat.zero_le _) dX7_keyOf_72)
  · by_cases h2 : (σ 7 0) = (1 : Int32)
    · refine v_tabIn (tgt := 73) (off := 42) C (by rw [h2]; decide) (by rw [h2]; decide) (by rw [h2]; decide) (by decide) dX7_keyOf_31 ?_
      refine v_iload C 0 rfl dX7_keyOf_73 ?_
      have e1 : F_X7_keyOf σ rq = if 0 ≤ ((F_X2_cylinderOfPlace (F_X1_placeOfBlock σ (σ 40 rq))) - (σ 2 5)) then ((F_X2_cylinderOfPlace (F_X1_placeOfBlock σ (σ 40 rq))) - (σ 2 5)) else 0 - ((F_X2_cylinderOfPlace (F_X1_placeOfBlock σ (σ 40 rq))) - (σ 2 5)) := by rw [F_X7_keyOf, if_neg h1, if_pos h2]
      exact v_Q hQ (v_iret C () trivial (by rw [e1]) rfl (Nat.zero_le _) (Nat.zero_le _) dX7_keyOf_75)
    · by_cases h3 : (σ 7 0) = (2 : Int32)
      · refine v_tabIn (tgt := 76) (off := 45) C (by rw [h3]; decide) (by rw [h3]; decide) (by rw [h3]; decide) (by decide) dX7_keyOf_31 ?_
        refine v_aload_n C 3 rfl dX7_keyOf_76 ?_
        refine v_iload C 1 rfl dX7_keyOf_77 ?_
        refine v_aload_n C 5 rfl dX7_keyOf_79 ?_
        refine v_get (v := .int (σ 2 5)) C fl_RX7_75 2 g_2 rfl dX7_keyOf_80 ?_
        refine v_cV1 (rest := []) C mv_RX7_86 (m_X7_isAhead l G E σ μ Y (F_X2_cylinderOfPlace (F_X1_placeOfBlock σ (σ 40 rq))) (σ 2 5)) 7 g_7 rfl rfl rfl rfl (Nat.le_of_ble_eq_true rfl) ⟨Nat.le_of_ble_eq_true rfl, Nat.le_of_ble_eq_true rfl⟩ ⟨rfl, rfl⟩ ⟨Nat.zero_le _, Nat.zero_le _⟩ dX7_keyOf_83 ?_
        refine v_if_eq (tgt := 94) C (by decide) dX7_keyOf_86 (fun h4 => ?_) (fun h4 => ?_)
        · refine v_bipush (v := (64 : Int32)) C (by decide) dX7_keyOf_94 ?_
          refine v_iload C 0 rfl dX7_keyOf_96 ?_
          refine v_iadd C dX7_keyOf_98 ?_
          have e1 : F_X7_keyOf σ rq = (64 : Int32) + (if 0 ≤ ((F_X2_cylinderOfPlace (F_X1_placeOfBlock σ (σ 40 rq))) - (σ 2 5)) then ((F_X2_cylinderOfPlace (F_X1_placeOfBlock σ (σ 40 rq))) - (σ 2 5)) else 0 - ((F_X2_cylinderOfPlace (F_X1_placeOfBlock σ (σ 40 rq))) - (σ 2 5))) := by rw [F_X7_keyOf, if_neg h1, if_neg h2, if_pos h3, if_pos h4]
          exact v_Q hQ (v_iret C () trivial (by rw [e1]) rfl (Nat.zero_le _) (Nat.zero_le _) dX7_keyOf_99)
        · refine v_iload C 0 rfl dX7_keyOf_89 ?_
          refine v_goto (tgt := 99) C (by decide) dX7_keyOf_91 ?_
          have e1 : F_X7_keyOf σ rq = if 0 ≤ ((F_X2_cylinderOfPlace (F_X1_placeOfBlock σ (σ 40 rq))) - (σ 2 5)) then ((F_X2_cylinderOfPlace (F_X1_placeOfBlock σ (σ 40 rq))) - (σ 2 5)) else 0 - ((F_X2_cylinderOfPlace (F_X1_placeOfBlock σ (σ 40 rq))) - (σ 2 5)) := by rw [F_X7_keyOf, if_neg h1, if_neg h2, if_pos h3, if_neg h4]
          exact v_Q hQ (v_iret C () trivial (by rw [e1]) rfl (Nat.zero_le _) (Nat.zero_le _) dX7_keyOf_99)
      · by_cases h5 : (σ 7 0) = (3 : Int32)
        · refine v_tabIn (tgt := 100) (off := 69) C (by rw [h5]; decide) (by rw [h5]; decide) (by rw [h5]; decide) (by decide) dX7_keyOf_31 ?_
          refine v_iload C 1 rfl dX7_keyOf_100 ?_
          refine v_aload_n C 5 rfl dX7_keyOf_102 ?_
          refine v_get (v := .int (σ 2 5)) C fl_RX7_75 2 g_2 rfl dX7_keyOf_103 ?_
          refine v_icmp_lt (tgt := 114) C (by decide) dX7_keyOf_106 (fun h6 => ?_) (fun h6 => ?_)
          · refine v_bipush (v := (64 : Int32)) C (by decide) dX7_keyOf_114 ?_
            refine v_iload C 1 rfl dX7_keyOf_116 ?_
            refine v_iadd C dX7_keyOf_118 ?_
            have e1 : F_X7_keyOf σ rq = (64 : Int32) + (F_X2_cylinderOfPlace (F_X1_placeOfBlock σ (σ 40 rq))) := by rw [F_X7_keyOf, if_neg h1, if_neg h2, if_neg h3, if_pos h5, if_pos h6]
            exact v_Q hQ (v_iret C () trivial (by rw [e1]) rfl (Nat.zero_le _) (Nat.zero_le _) dX7_keyOf_119)
          · refine v_iload C 0 rfl dX7_keyOf_109 ?_
            refine v_goto (tgt := 119) C (by decide) dX7_keyOf_111 ?_
            have e1 : F_X7_keyOf σ rq = if 0 ≤ ((F_X2_cylinderOfPlace (F_X1_placeOfBlock σ (σ 40 rq))) - (σ 2 5)) then ((F_X2_cylinderOfPlace (F_X1_placeOfBlock σ (σ 40 rq))) - (σ 2 5)) else 0 - ((F_X2_cylinderOfPlace (F_X1_placeOfBlock σ (σ 40 rq))) - (σ 2 5)) := by rw [F_X7_keyOf, if_neg h1, if_neg h2, if_neg h3, if_pos h5, if_neg h6]
            exact v_Q hQ (v_iret C () trivial (by rw [e1]) rfl (Nat.zero_le _) (Nat.zero_le _) dX7_keyOf_119)
        · by_cases h7 : (σ 7 0) = (4 : Int32)
          · refine v_tabIn (tgt := 140) (off := 109) C (by rw [h7]; decide) (by rw [h7]; decide) (by rw [h7]; decide) (by decide) dX7_keyOf_31 ?_
            refine v_aload_n C 5 rfl dX7_keyOf_140 ?_
            refine v_iload_n C 2 rfl dX7_keyOf_141 ?_
            refine v_cV1 (rest := []) C mv_RX7_97 (m_X1_ticksToAccess l G E σ μ Y (F_X1_placeOfBlock σ (σ 40 rq))) 2 g_2 rfl rfl rfl rfl (Nat.le_of_ble_eq_true rfl) ⟨Nat.le_of_ble_eq_true rfl, Nat.le_of_ble_eq_true rfl⟩ ⟨rfl, rfl⟩ ⟨Nat.zero_le _, Nat.zero_le _⟩ dX7_keyOf_142 ?_
            have e1 : F_X7_keyOf σ rq = F_X1_ticksToAccess σ (F_X1_placeOfBlock σ (σ 40 rq)) := by rw [F_X7_keyOf, if_neg h1, if_neg h2, if_neg h3, if_neg h5, if_pos h7]
            exact v_Q hQ (v_iret C () trivial (by rw [e1]) rfl (Nat.zero_le _) (Nat.zero_le _) dX7_keyOf_145)
          · by_cases h8 : (σ 7 0) = (5 : Int32)
            · refine v_tabIn (tgt := 120) (off := 89) C (by rw [h8]; decide) (by rw [h8]; decide) (by rw [h8]; decide) (by decide) dX7_keyOf_31 ?_
              refine v_aload_n C 3 rfl dX7_keyOf_120 ?_
              refine v_aload_n C 4 rfl dX7_keyOf_121 ?_
              refine v_aload_n C 5 rfl dX7_keyOf_122 ?_
              refine v_get (v := .int (σ 2 4)) C fl_RX7_90 2 g_2 rfl dX7_keyOf_123 ?_
              refine v_cV1 (rest := []) C mv_RX7_93 (m_X7_bucketOf l G E σ μ Y rq (σ 2 4) (by assumption)) 7 g_7 rfl rfl rfl rfl (Nat.le_of_ble_eq_true rfl) ⟨Nat.le_of_ble_eq_true rfl, Nat.le_of_ble_eq_true rfl⟩ ⟨rfl, rfl⟩ ⟨Nat.zero_le _, Nat.zero_le _⟩ dX7_keyOf_126 ?_
              refine v_sipush (v := (10000 : Int32)) C (by decide) dX7_keyOf_129 ?_
              refine v_imul C dX7_keyOf_132 ?_
              refine v_aload_n C 5 rfl dX7_keyOf_133 ?_
              refine v_iload_n C 2 rfl dX7_keyOf_134 ?_
              refine v_cV1 (rest := [.int ((F_X7_bucketOf σ rq (σ 2 4)) * (10000 : Int32))]) C mv_RX7_97 (m_X1_ticksToAccess l G E σ μ Y (F_X1_placeOfBlock σ (σ 40 rq))) 2 g_2 rfl rfl rfl rfl (Nat.le_of_ble_eq_true rfl) ⟨Nat.le_of_ble_eq_true rfl, Nat.le_of_ble_eq_true rfl⟩ ⟨rfl, rfl⟩ ⟨Nat.zero_le _, Nat.zero_le _⟩ dX7_keyOf_135 ?_
              refine v_iadd C dX7_keyOf_138 ?_
              have e1 : F_X7_keyOf σ rq = ((F_X7_bucketOf σ rq (σ 2 4)) * (10000 : Int32)) + (F_X1_ticksToAccess σ (F_X1_placeOfBlock σ (σ 40 rq))) := by rw [F_X7_keyOf, if_neg h1, if_neg h2, if_neg h3, if_neg h5, if_neg h7, if_pos h8]
              exact v_Q hQ (v_iret C () trivial (by rw [e1]) rfl (Nat.zero_le _) (Nat.zero_le _) dX7_keyOf_139)
            · refine v_tabOut (tgt := 140) C (sw_out (hi := 5) (σ 7 0) (fun q hq => by (rcases (show q = 0 ∨ q = 1 ∨ q = 2 ∨ q = 3 ∨ q = 4 ∨ q = 5 by omega) with rfl | rfl | rfl | rfl | rfl | rfl) <;> first | exact h1 | exact h2 | exact h3 | exact h5 | exact h7 | exact h8)) (by decide) dX7_keyOf_31 ?_
              refine v_aload_n C 5 rfl dX7_keyOf_140 ?_
              refine v_iload_n C 2 rfl dX7_keyOf_141 ?_
              refine v_cV1 (rest := []) C mv_RX7_97 (m_X1_ticksToAccess l G E σ μ Y (F_X1_placeOfBlock σ (σ 40 rq))) 2 g_2 rfl rfl rfl rfl (Nat.le_of_ble_eq_true rfl) ⟨Nat.le_of_ble_eq_true rfl, Nat.le_of_ble_eq_true rfl⟩ ⟨rfl, rfl⟩ ⟨Nat.zero_le _, Nat.zero_le _⟩ dX7_keyOf_142 ?_
              have e1 : F_X7_keyOf σ rq = F_X1_ticksToAccess σ (F_X1_placeOfBlock σ (σ 40 rq)) := by rw [F_X7_keyOf, if_neg h1, if_neg h2, if_neg h3, if_neg h5, if_neg h7, if_neg h8]
              exact v_Q hQ (v_iret C () trivial (by rw [e1]) rfl (Nat.zero_le _) (Nat.zero_le _) dX7_keyOf_145)
