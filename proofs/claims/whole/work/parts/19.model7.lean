/-! what is chosen is pending -/
def pnd (g : Nat → Int32) (x : Int32) : Prop := ∃ m j : Nat, m ≤ 80 ∧ g 12 = nI m ∧ j < m ∧ x = nI j ∧ g (350 + j) = 0
theorem pnd.rq {g : Nat → Int32} {x : Int32} (h : pnd g x) : rq x := by
  obtain ⟨m, j, h1, _, h3, h4, _⟩ := h; exact ⟨j, by omega, h4⟩
def pcnt (g : Nat → Int32) : Nat → Nat
  | 0 => 0
  | n + 1 => pcnt g n + (if g (350 + n) = 0 then 1 else 0)
theorem pcnt_le (g : Nat → Int32) : ∀ n, pcnt g n ≤ n := by
  intro n
  induction n with
  | zero => exact Nat.le_refl 0
  | succ n ih => unfold pcnt; split <;> omega
theorem pcnt_same {g g' : Nat → Int32} : ∀ n, (∀ b, b < n → (g' (350 + b) = 0 ↔ g (350 + b) = 0)) → pcnt g' n = pcnt g n := by
  intro n
  induction n with
  | zero => intro _; rfl
  | succ n ih =>
    intro h; unfold pcnt
    rw [ih (fun b hb => h b (by omega))]
    by_cases q : g (350 + n) = 0
    · rw [if_pos q, if_pos ((h n (by omega)).mpr q)]
    · rw [if_neg q, if_neg (fun z => q ((h n (by omega)).mp z))]
theorem pcnt_clear {g g' : Nat → Int32} {b : Nat} (hb : g (350 + b) = 0) (hb' : ¬ g' (350 + b) = 0) : ∀ n, b < n → (∀ x, x ≠ b → x < n → g' (350 + x) = g (350 + x)) → pcnt g' n + 1 = pcnt g n := by
  intro n
  induction n with
  | zero => intro h; omega
  | succ n ih =>
    intro h hs
    unfold pcnt
    by_cases e : b = n
    · subst e
      rw [if_pos hb, if_neg hb', pcnt_same b (fun x hx => by rw [hs x (by omega) (by omega)])]
    · rw [hs n (fun q => e q.symm) (by omega)]
      have := ih (by omega) (fun x hx hx2 => hs x hx (by omega))
      omega
/-- pending() counts -/
theorem L_pending_eq {μ : Sg} {mm : Nat} (hm : mm ≤ 80) (em : μ 25 12 = nI mm) : ∀ (n j : Nat), j + n = 81 → j ≤ mm → L_X10_pending_4 μ n (nI (pcnt (μ 25) j)) (nI j) = nI (pcnt (μ 25) mm) := by
  intro n
  induction n with
  | zero => intro j h1 h2; omega
  | succ n ih =>
    intro j h1 h2
    rw [L_X10_pending_4, em]
    by_cases h : nI mm ≤ nI j
    · rw [if_pos h]
      have := le_of_le rfl rfl (by omega) (by omega) h
      rw [show j = mm by omega]
    · rw [if_neg h]
      have hlt := gt_of_nle rfl rfl (by omega) (by omega) h
      have ip := isPending_eq (μ := μ) (j := j) (by omega)
      rw [show nI j + (1 : Int32) = nI (j + 1) from nI_1 j]
      have hi := ih (j + 1) (by omega) (by omega)
      by_cases q : F_X10_isPending μ (nI j) = 0
      · rw [if_pos q]
        have q2 := ip.mp q
        rw [show pcnt (μ 25) (j + 1) = pcnt (μ 25) j by show pcnt (μ 25) j + _ = _; rw [if_neg q2]; rfl] at hi
        rw [show nI (pcnt (μ 25) j) + (0 : Int32) = nI (pcnt (μ 25) j) from nI_add _ 0]
        exact hi
      · rw [if_neg q]
        have q2 : μ 25 (350 + j) = 0 := by
          by_cases z : μ 25 (350 + j) = 0
          · exact z
          · exact absurd (ip.mpr z) q
        rw [show pcnt (μ 25) (j + 1) = pcnt (μ 25) j + 1 by show pcnt (μ 25) j + _ = _; rw [if_pos q2]] at hi
        rw [show nI (pcnt (μ 25) j) + (1 : Int32) = nI (pcnt (μ 25) j + 1) from nI_1 _]
        exact hi
theorem pending_eq {μ : Sg} {mm : Nat} (hm : mm ≤ 80) (em : μ 25 12 = nI mm) : F_X10_pending μ = nI (pcnt (μ 25) mm) := by
  unfold F_X10_pending
  exact L_pending_eq hm em 81 0 (by omega) (by omega)
theorem pcnt_ex {g : Nat → Int32} : ∀ n, 0 < pcnt g n → ∃ j, j < n ∧ g (350 + j) = 0 := by
  intro n
  induction n with
  | zero => intro h; exact absurd h (Nat.lt_irrefl 0)
  | succ n ih =>
    intro h
    by_cases q : g (350 + n) = 0
    · exact ⟨n, by omega, q⟩
    · unfold pcnt at h; rw [if_neg q] at h
      obtain ⟨j, a, b⟩ := ih (by omega)
      exact ⟨j, by omega, b⟩
theorem L_least_pnd {μ : Sg} {pol : Int32} {mm : Nat} (hm : mm ≤ 80) (em : μ 25 12 = nI mm) : ∀ (n j : Nat) (bs : Int32), j + n = 81 → j ≤ mm → ((bs < 0 ∧ ∃ r, j ≤ r ∧ r < mm ∧ μ 25 (350 + r) = 0) ∨ pnd (μ 25) bs) → pnd (μ 25) (L_X10_least_4 μ pol n bs (nI j)) := by
  intro n
  induction n with
  | zero => intro j bs h1 h2; omega
  | succ n ih =>
    intro j bs h1 h2 hb
    rw [L_X10_least_4, em]
    by_cases h : nI mm ≤ nI j
    · rw [if_pos h]
      have := le_of_le rfl rfl (by omega) (by omega) h
      rcases hb with ⟨_, r, a, b, _⟩ | hb
      · omega
      · exact hb
    rw [if_neg h, show nI j + (1 : Int32) = nI (j + 1) from nI_1 j]
    have hlt := gt_of_nle rfl rfl (by omega) (by omega) h
    have ip := isPending_eq (μ := μ) (j := j) (by omega)
    by_cases q : F_X10_isPending μ (nI j) = 0
    · rw [if_pos q]
      refine ih (j + 1) bs (by omega) (by omega) ?_
      rcases hb with ⟨a, r, b, d, e⟩ | hb
      · refine Or.inl ⟨a, r, ?_, d, e⟩
        rcases Nat.lt_or_ge j r with z | z
        · omega
        · exact absurd (by rw [show j = r by omega]; exact e) (ip.mp q)
      · exact Or.inr hb
    · rw [if_neg q]
      have q2 : μ 25 (350 + j) = 0 := by
        by_cases z : μ 25 (350 + j) = 0
        · exact z
        · exact absurd (ip.mpr z) q
      have hj : pnd (μ 25) (nI j) := ⟨mm, j, hm, em, hlt, rfl, q2⟩
      split
      · exact ih (j + 1) _ (by omega) (by omega) (Or.inr hj)
      · rename_i hneg
        have hb2 : pnd (μ 25) bs := by
          rcases hb with ⟨a, _⟩ | hb
          · exact absurd a hneg
          · exact hb
        split
        · exact ih (j + 1) _ (by omega) (by omega) (Or.inr hb2)
        · exact ih (j + 1) _ (by omega) (by omega) (Or.inr hj)
theorem least_pnd {μ : Sg} {pol : Int32} (hM : MOKg (μ 25)) (hp : ¬ F_X10_pending μ = 0) : pnd (μ 25) (F_X10_least μ pol) := by
  obtain ⟨mm, hm, em⟩ := hM.2.1
  rw [pending_eq hm em] at hp
  have : 0 < pcnt (μ 25) mm := by
    rcases Nat.eq_zero_or_pos (pcnt (μ 25) mm) with q | q
    · exact absurd (by rw [q]; rfl) hp
    · exact q
  obtain ⟨j, a, b⟩ := pcnt_ex mm this
  unfold F_X10_least
  exact L_least_pnd hm em 81 0 (-1) (by omega) (by omega) (Or.inl ⟨by decide, j, by omega, a, b⟩)
theorem ch_25 {μ : Sg} {wd mi : Int32} (hM : MOKg (μ 25)) : F_X10_searches μ wd mi 6 25 = μ 25 := by
  obtain ⟨mm, hm, em⟩ := hM.2.1
  exact (searches_spec (m6 := 6) hm em (by omega) rfl).1
def F_X10_chosen (μ : Sg) : Int32 × Sg := (if (6 : Int32) ≤ (μ 25 4) then (if ((F_X10_searches μ (1 : Int32) (1 : Int32) (6 : Int32)) 24 7) ≤ 0 then (F_X10_least (F_X10_searches μ (1 : Int32) (1 : Int32) (6 : Int32)) (4 : Int32), (F_X10_searches μ (1 : Int32) (1 : Int32) (6 : Int32))) else (if ((F_X10_searches μ (1 : Int32) (1 : Int32) (6 : Int32)) 24 8) < 0 then (F_X10_least (F_X10_searches μ (1 : Int32) (1 : Int32) (6 : Int32)) (4 : Int32), (F_X10_searches μ (1 : Int32) (1 : Int32) (6 : Int32))) else ((F_X10_searches μ (1 : Int32) (1 : Int32) (6 : Int32)) 31 0, (F_X10_searches μ (1 : Int32) (1 : Int32) (6 : Int32))))) else (F_X10_least μ (μ 25 4), μ))
abbrev rm_X10_chosen : Room := { frames := 72, cells := 0, slots := 0, locals := 2850 }
theorem vi_0_12 : vp_in (0 : Int32) 12 := vp_lit tn_0 (by decide) (by decide)
theorem tn_4 : (4 : Int32).toNatClampNeg = 4 := by decide
theorem vi_4_1700 : vp_in (4 : Int32) 1700 := vp_lit tn_4 (by decide) (by decide)
set_option maxRecDepth 100000 in
set_option maxHeartbeats 4000000 in
theorem m_X10_chosen (l : Launch) (G : GG) (E : EE) (σ μ : Sg) (Y : va_W) (hM : MOKg (μ 25)) : KK l G yX10_chosen cX10_chosen 1 (some .int) rm_X10_chosen [.ref (E.1 24)] (Wd G E σ μ Y) (some (.int (F_X10_chosen μ).1)) (Wd G E σ (F_X10_chosen μ).2 Y) := by
  refine KE.of (by decide) (Nat.le_of_ble_eq_true rfl) ?_
  intro zp ze zs zm za zb zt zc zA C _
  generalize hQ : MQ zb _ za zs _ _ zA = Q
  show V zp l ze rm_X10_chosen zs zm za zb zt zc 1 G zA 0 0 Q 0 [(0, .ref (E.1 24))] [] (Wd G E σ μ Y)
  refine v_aload_n C 0 rfl dX10_chosen_0 ?_
  refine v_get (v := .ref (E.1 25)) C fl_RX10_7 24 g_24 rfl dX10_chosen_1 ?_
  refine v_iconst (v := (4 : Int32)) C (by decide) dX10_chosen_4 ?_
  refine v_iald (v := μ 25 4) C 25 g_25 vi_4_1700 (rdl tn_4 rfl) dX10_chosen_5 ?_
  refine v_bipush (v := (6 : Int32)) C (by decide) dX10_chosen_6 ?_
  refine v_icmp_ge (tgt := 22) C (by decide) dX10_chosen_8 (fun h1 => ?_) (fun h1 => ?_)
  · refine v_aload_n C 0 rfl dX10_chosen_22 ?_
    refine v_iconst (v := (1 : Int32)) C (by decide) dX10_chosen_23 ?_
    refine v_iconst (v := (1 : Int32)) C (by decide) dX10_chosen_24 ?_
    refine v_bipush (v := (6 : Int32)) C (by decide) dX10_chosen_25 ?_
    refine v_cV0 (rest := []) C mv_RX10_175 (m_X10_searches l G E σ μ Y (1 : Int32) (1 : Int32) (6 : Int32) hM (Or.inr rfl) (⟨6, by omega, rfl⟩)) 24 g_24 rfl rfl rfl rfl (Nat.le_of_ble_eq_true rfl) ⟨Nat.le_of_ble_eq_true rfl, Nat.le_of_ble_eq_true rfl⟩ ⟨rfl, rfl⟩ ⟨Nat.zero_le _, Nat.zero_le _⟩ dX10_chosen_27 ?_
    refine v_aload_n C 0 rfl dX10_chosen_30 ?_
    refine v_get (v := .int ((F_X10_searches μ (1 : Int32) (1 : Int32) (6 : Int32)) 24 7)) C fl_RX10_158 24 g_24 rfl dX10_chosen_31 ?_
    refine v_if_le (tgt := 53) C (by decide) dX10_chosen_34 (fun h2 => ?_) (fun h2 => ?_)
    · refine v_aload_n C 0 rfl dX10_chosen_53 ?_
      refine v_iconst (v := (4 : Int32)) C (by decide) dX10_chosen_54 ?_
      refine v_cV1 (rest := []) C mv_RX10_172 (m_X10_least l G E σ (F_X10_searches μ (1 : Int32) (1 : Int32) (6 : Int32)) Y (4 : Int32) (by rw [ch_25 hM]; exact hM)) 24 g_24 rfl rfl rfl rfl (Nat.le_of_ble_eq_true rfl) ⟨Nat.le_of_ble_eq_true rfl, Nat.le_of_ble_eq_true rfl⟩ ⟨rfl, rfl⟩ ⟨Nat.zero_le _, Nat.zero_le _⟩ dX10_chosen_55 ?_
      have e1 : F_X10_chosen μ = (F_X10_least (F_X10_searches μ (1 : Int32) (1 : Int32) (6 : Int32)) (4 : Int32), (F_X10_searches μ (1 : Int32) (1 : Int32) (6 : Int32))) := by rw [F_X10_chosen, if_pos h1, if_pos h2]
      exact v_Q hQ (v_iret C () trivial (by rw [e1]) (by rw [e1]) (Nat.zero_le _) (Nat.zero_le _) dX10_chosen_58)
    · refine v_aload_n C 0 rfl dX10_chosen_37 ?_
      refine v_get (v := .int ((F_X10_searches μ (1 : Int32) (1 : Int32) (6 : Int32)) 24 8)) C fl_RX10_161 24 g_24 rfl dX10_chosen_38 ?_
      refine v_if_lt (tgt := 53) C (by decide) dX10_chosen_41 (fun h3 => ?_) (fun h3 => ?_)
      · refine v_aload_n C 0 rfl dX10_chosen_53 ?_
        refine v_iconst (v := (4 : Int32)) C (by decide) dX10_chosen_54 ?_
        refine v_cV1 (rest := []) C mv_RX10_172 (m_X10_least l G E σ (F_X10_searches μ (1 : Int32) (1 : Int32) (6 : Int32)) Y (4 : Int32) (by rw [ch_25 hM]; exact hM)) 24 g_24 rfl rfl rfl rfl (Nat.le_of_ble_eq_true rfl) ⟨Nat.le_of_ble_eq_true rfl, Nat.le_of_ble_eq_true rfl⟩ ⟨rfl, rfl⟩ ⟨Nat.zero_le _, Nat.zero_le _⟩ dX10_chosen_55 ?_
        have e1 : F_X10_chosen μ = (F_X10_least (F_X10_searches μ (1 : Int32) (1 : Int32) (6 : Int32)) (4 : Int32), (F_X10_searches μ (1 : Int32) (1 : Int32) (6 : Int32))) := by rw [F_X10_chosen, if_pos h1, if_neg h2, if_pos h3]
        exact v_Q hQ (v_iret C () trivial (by rw [e1]) (by rw [e1]) (Nat.zero_le _) (Nat.zero_le _) dX10_chosen_58)
      · refine v_aload_n C 0 rfl dX10_chosen_44 ?_
        refine v_get (v := .ref (E.1 31)) C fl_RX10_32 24 g_24 rfl dX10_chosen_45 ?_
        refine v_iconst (v := (0 : Int32)) C (by decide) dX10_chosen_48 ?_
        refine v_iald (v := (F_X10_searches μ (1 : Int32) (1 : Int32) (6 : Int32)) 31 0) C 31 g_31 vi_0_12 (rdl tn_0 rfl) dX10_chosen_49 ?_
        refine v_goto (tgt := 58) C (by decide) dX10_chosen_50 ?_
        have e1 : F_X10_chosen μ = ((F_X10_searches μ (1 : Int32) (1 : Int32) (6 : Int32)) 31 0, (F_X10_searches μ (1 : Int32) (1 : Int32) (6 : Int32))) := by rw [F_X10_chosen, if_pos h1, if_neg h2, if_neg h3]
        exact v_Q hQ (v_iret C () trivial (by rw [e1]) (by rw [e1]) (Nat.zero_le _) (Nat.zero_le _) dX10_chosen_58)
  · refine v_aload_n C 0 rfl dX10_chosen_11 ?_
    refine v_aload_n C 0 rfl dX10_chosen_12 ?_
    refine v_get (v := .ref (E.1 25)) C fl_RX10_7 24 g_24 rfl dX10_chosen_13 ?_
    refine v_iconst (v := (4 : Int32)) C (by decide) dX10_chosen_16 ?_
    refine v_iald (v := μ 25 4) C 25 g_25 vi_4_1700 (rdl tn_4 rfl) dX10_chosen_17 ?_
    refine v_cV1 (rest := []) C mv_RX10_172 (m_X10_least l G E σ μ Y (μ 25 4) hM) 24 g_24 rfl rfl rfl rfl (Nat.le_of_ble_eq_true rfl) ⟨Nat.le_of_ble_eq_true rfl, Nat.le_of_ble_eq_true rfl⟩ ⟨rfl, rfl⟩ ⟨Nat.zero_le _, Nat.zero_le _⟩ dX10_chosen_18 ?_
    have e1 : F_X10_chosen μ = (F_X10_least μ (μ 25 4), μ) := by rw [F_X10_chosen, if_neg h1]
    exact v_Q hQ (v_iret C () trivial (by rw [e1]) (by rw [e1]) (Nat.zero_le _) (Nat.zero_le _) dX10_chosen_21)
theorem chosen_25 {μ : Sg} (hM : MOKg (μ 25)) : (F_X10_chosen μ).2 25 = μ 25 := by
  unfold F_X10_chosen
  split
  · split
    · exact ch_25 hM
    · split <;> exact ch_25 hM
  · rfl
theorem pend_25 {μ μ' : Sg} (hM : MOKg (μ 25)) (h : μ' 25 = μ 25) : F_X10_pending μ' = F_X10_pending μ := by
  obtain ⟨mm, hm, em⟩ := hM.2.1
  rw [pending_eq hm em, pending_eq hm (by rw [h]; exact em), h]
theorem chosen_pnd {μ : Sg} (hM : MOKg (μ 25)) (hp : ¬ F_X10_pending μ = 0) : pnd (μ 25) (F_X10_chosen μ).1 := by
  have hl : pnd (μ 25) (F_X10_least (F_X10_searches μ 1 1 6) 4) := by
    have e := ch_25 (wd := 1) (mi := 1) hM
    have hM' : MOKg (F_X10_searches μ 1 1 6 25) := by rw [e]; exact hM
    have := least_pnd (pol := 4) hM' (by rw [pend_25 hM e]; exact hp)
    rwa [e] at this
  unfold F_X10_chosen
  split
  · split
    · exact hl
    · split
      · exact hl
      · rename_i h1 h2
        show pnd (μ 25) (F_X10_searches μ 1 1 6 31 0)
        obtain ⟨mm, hm, em⟩ := hM.2.1
        obtain ⟨e25, fm, hfm, hF, e29, ord, b0, hB⟩ := searches_spec (μ := μ) (wd := 1) (mi := 1) (mo := 6) (m6 := 6) hm em (by omega) rfl
        generalize hL : gatL (selR (μ 25) 1) 6 mm 0 [] = L at hfm hF hB
        have hpos : 0 < L.length := by
          rcases Nat.eq_zero_or_pos L.length with q | q
          · rw [hF.2.1, q] at h1; exact absurd (by decide : nI 0 ≤ 0) h1
          · exact q
        have hall := RR_all (f := L.length) (en := enR (μ 25) fm) (cy := cyR (μ 25) fm) (ok := okR (μ 25) fm 1) (fm := fm) (pnd (μ 25)) (fun i hi => by
          have hmem : L.getD i 0 ∈ L := by rw [List.getD_eq_getElem?_getD, List.getElem?_eq_getElem hi]; simp
          rw [hfm i hi]
          generalize L.getD i 0 = x at hmem
          rw [← hL] at hmem
          rcases gatL_mem _ _ _ _ _ _ hmem with q | q
          · simp at q
          · refine ⟨mm, x, hm, em, by omega, rfl, ?_⟩
            have := q.2.2
            unfold selR at this
            simp at this
            exact this.1) 7 (fun _ => false) ord 0 (μ 25 8) (μ 25 9) (-1, b0) (by omega) (fun i hi => by omega) (Or.inl (show (-1 : Int32) < 0 by decide))
        rcases hall with z | z
        · rw [hB.1] at z; exact absurd z h2
        · have := z 0 hpos
          rwa [hB.2 0 hpos] at this
  · exact least_pnd hM hp
theorem MOKg.put10 {μ : Sg} {v : Int32} (h : MOKg (μ 25)) : MOKg (s2 μ 25 10 v 25) :=
  h.same (by rw [s2_n (by omega)]; exact h.2.2.1) (s2_n (by omega)) (s2_n (by omega)) (s2_n (by omega)) (s2_n (by omega)) (fun r hr => s2_n (by omega))
def F_X10_next (μ : Sg) : Int32 × Sg := (if (F_X10_pending (s2 μ 24 1 (0 : Int32))) = 0 then ((F_X10_fails (s2 μ 24 1 (0 : Int32)) (1 : Int32)).1, (F_X10_fails (s2 μ 24 1 (0 : Int32)) (1 : Int32)).2) else ((F_X10_chosen (s2 μ 24 1 (0 : Int32))).1, (F_X10_chosen (s2 μ 24 1 (0 : Int32))).2))
abbrev rm_X10_next : Room := { frames := 73, cells := 0, slots := 0, locals := 2870 }
set_option maxRecDepth 100000 in
set_option maxHeartbeats 4000000 in
theorem m_X10_next (l : Launch) (G : GG) (E : EE) (σ μ : Sg) (Y : va_W) (hM : MOKg (μ 25)) : KK l G yX10_next cX10_next 1 (some .int) rm_X10_next [.ref (E.1 24)] (Wd G E σ μ Y) (some (.int (F_X10_next μ).1)) (Wd G E σ (F_X10_next μ).2 Y) := by
  refine KE.of (by decide) (Nat.le_of_ble_eq_true rfl) ?_
  intro zp ze zs zm za zb zt zc zA C _
  generalize hQ : MQ zb _ za zs _ _ zA = Q
  show V zp l ze rm_X10_next zs zm za zb zt zc 1 G zA 0 0 Q 0 [(0, .ref (E.1 24))] [] (Wd G E σ μ Y)
  refine v_aload_n C 0 rfl dX10_next_0 ?_
  refine v_iconst (v := (0 : Int32)) C (by decide) dX10_next_1 ?_
  refine v_put C fp_RX10_39 24 g_24 rfl rfl (Nat.le_of_ble_eq_true rfl) (p_24_3 _) dX10_next_2 ?_
  refine v_aload_n C 0 rfl dX10_next_5 ?_
  refine v_cV1 (rest := []) C mv_RX10_103 (m_X10_pending l G E σ (s2 μ 24 1 (0 : Int32)) Y hM.2.1) 24 g_24 rfl rfl rfl rfl (Nat.le_of_ble_eq_true rfl) ⟨Nat.le_of_ble_eq_true rfl, Nat.le_of_ble_eq_true rfl⟩ ⟨rfl, rfl⟩ ⟨Nat.zero_le _, Nat.zero_le _⟩ dX10_next_6 ?_
  refine v_if_ne (tgt := 20) C (by decide) dX10_next_9 (fun h1 => ?_) (fun h1 => ?_)
  · refine v_aload_n C 0 rfl dX10_next_20 ?_
    refine v_cV1 (rest := []) C mv_RX10_179 (m_X10_chosen l G E σ (s2 μ 24 1 (0 : Int32)) Y hM) 24 g_24 rfl rfl rfl rfl (Nat.le_of_ble_eq_true rfl) ⟨Nat.le_of_ble_eq_true rfl, Nat.le_of_ble_eq_true rfl⟩ ⟨rfl, rfl⟩ ⟨Nat.zero_le _, Nat.zero_le _⟩ dX10_next_21 ?_
    have e1 : F_X10_next μ = ((F_X10_chosen (s2 μ 24 1 (0 : Int32))).1, (F_X10_chosen (s2 μ 24 1 (0 : Int32))).2) := by rw [F_X10_next, if_neg h1]
    exact v_Q hQ (v_iret C () trivial (by rw [e1]) (by rw [e1]) (Nat.zero_le _) (Nat.zero_le _) dX10_next_24)
  · refine v_aload_n C 0 rfl dX10_next_12 ?_
    refine v_iconst (v := (1 : Int32)) C (by decide) dX10_next_13 ?_
    refine v_cV1 (rest := []) C mv_RX10_78 (m_X10_fails l G E σ (s2 μ 24 1 (0 : Int32)) Y (1 : Int32)) 24 g_24 rfl rfl rfl rfl (Nat.le_of_ble_eq_true rfl) ⟨Nat.le_of_ble_eq_true rfl, Nat.le_of_ble_eq_true rfl⟩ ⟨rfl, rfl⟩ ⟨Nat.zero_le _, Nat.zero_le _⟩ dX10_next_14 ?_
    refine v_goto (tgt := 24) C (by decide) dX10_next_17 ?_
    have e1 : F_X10_next μ = ((F_X10_fails (s2 μ 24 1 (0 : Int32)) (1 : Int32)).1, (F_X10_fails (s2 μ 24 1 (0 : Int32)) (1 : Int32)).2) := by rw [F_X10_next, if_pos h1]
    exact v_Q hQ (v_iret C () trivial (by rw [e1]) (by rw [e1]) (Nat.zero_le _) (Nat.zero_le _) dX10_next_24)
def F_X10_serves (μ : Sg) : Int32 × Sg := (if ((F_X10_chosen μ).2 25 4) = (2 : Int32) then (if (F_X10_isAhead (F_X10_chosen μ).2 ((F_X10_chosen μ).1)) = 0 then ((F_X10_chosen μ).1, (s2 (s2 (F_X10_accesses (s2 (F_X10_chosen μ).2 25 10 ((1 : Int32) - ((F_X10_chosen μ).2 25 10))) (F_X10_place (s2 (F_X10_chosen μ).2 25 10 ((1 : Int32) - ((F_X10_chosen μ).2 25 10))) ((s2 (F_X10_chosen μ).2 25 10 ((1 : Int32) - ((F_X10_chosen μ).2 25 10))) 25 ((110 : Int32) + ((F_X10_chosen μ).1)).toNatClampNeg))) 25 ((350 : Int32) + ((F_X10_chosen μ).1)).toNatClampNeg (1 : Int32)) 25 ((430 : Int32) + ((F_X10_chosen μ).1)).toNatClampNeg ((s2 (F_X10_accesses (s2 (F_X10_chosen μ).2 25 10 ((1 : Int32) - ((F_X10_chosen μ).2 25 10))) (F_X10_place (s2 (F_X10_chosen μ).2 25 10 ((1 : Int32) - ((F_X10_chosen μ).2 25 10))) ((s2 (F_X10_chosen μ).2 25 10 ((1 : Int32) - ((F_X10_chosen μ).2 25 10))) 25 ((110 : Int32) + ((F_X10_chosen μ).1)).toNatClampNeg))) 25 ((350 : Int32) + ((F_X10_chosen μ).1)).toNatClampNeg (1 : Int32)) 25 8))) else ((F_X10_chosen μ).1, (s2 (s2 (F_X10_accesses (F_X10_chosen μ).2 (F_X10_place (F_X10_chosen μ).2 ((F_X10_chosen μ).2 25 ((110 : Int32) + ((F_X10_chosen μ).1)).toNatClampNeg))) 25 ((350 : Int32) + ((F_X10_chosen μ).1)).toNatClampNeg (1 : Int32)) 25 ((430 : Int32) + ((F_X10_chosen μ).1)).toNatClampNeg ((s2 (F_X10_accesses (F_X10_chosen μ).2 (F_X10_place (F_X10_chosen μ).2 ((F_X10_chosen μ).2 25 ((110 : Int32) + ((F_X10_chosen μ).1)).toNatClampNeg))) 25 ((350 : Int32) + ((F_X10_chosen μ).1)).toNatClampNeg (1 : Int32)) 25 8)))) else ((F_X10_chosen μ).1, (s2 (s2 (F_X10_accesses (F_X10_chosen μ).2 (F_X10_place (F_X10_chosen μ).2 ((F_X10_chosen μ).2 25 ((110 : Int32) + ((F_X10_chosen μ).1)).toNatClampNeg))) 25 ((350 : Int32) + ((F_X10_chosen μ).1)).toNatClampNeg (1 : Int32)) 25 ((430 : Int32) + ((F_X10_chosen μ).1)).toNatClampNeg ((s2 (F_X10_accesses (F_X10_chosen μ).2 (F_X10_place (F_X10_chosen μ).2 ((F_X10_chosen μ).2 25 ((110 : Int32) + ((F_X10_chosen μ).1)).toNatClampNeg))) 25 ((350 : Int32) + ((F_X10_chosen μ).1)).toNatClampNeg (1 : Int32)) 25 8))))
abbrev rm_X10_serves : Room := { frames := 73, cells := 0, slots := 0, locals := 2870 }
set_option maxRecDepth 100000 in
set_option maxHeartbeats 4000000 in
theorem m_X10_serves (l : Launch) (G : GG) (E : EE) (σ μ : Sg) (Y : va_W) (hM : MOKg (μ 25)) (hc : rq (F_X10_chosen μ).1) : KK l G yX10_serves cX10_serves 2 (some .int) rm_X10_serves [.ref (E.1 24)] (Wd G E σ μ Y) (some (.int (F_X10_serves μ).1)) (Wd G E σ (F_X10_serves μ).2 Y) := by
  refine KE.of (by decide) (Nat.le_of_ble_eq_true rfl) ?_
  intro zp ze zs zm za zb zt zc zA C _
  generalize hQ : MQ zb _ za zs _ _ zA = Q
  show V zp l ze rm_X10_serves zs zm za zb zt zc 2 G zA 0 0 Q 0 [(0, .ref (E.1 24))] [] (Wd G E σ μ Y)
  refine v_aload_n C 0 rfl dX10_serves_0 ?_
  refine v_cV1 (rest := []) C mv_RX10_179 (m_X10_chosen l G E σ μ Y hM) 24 g_24 rfl rfl rfl rfl (Nat.le_of_ble_eq_true rfl) ⟨Nat.le_of_ble_eq_true rfl, Nat.le_of_ble_eq_true rfl⟩ ⟨rfl, rfl⟩ ⟨Nat.zero_le _, Nat.zero_le _⟩ dX10_serves_1 ?_
  refine v_istore_n (lv' := [(1, .int ((F_X10_chosen μ).1)), (0, .ref (E.1 24))]) C (Nat.le_of_ble_eq_true rfl) rfl dX10_serves_4 ?_
  refine v_aload_n C 1 rfl dX10_serves_5 ?_
  refine v_get (v := .ref (E.1 25)) C fl_RX10_7 24 g_24 rfl dX10_serves_6 ?_
  refine v_iconst (v := (4 : Int32)) C (by decide) dX10_serves_9 ?_
  refine v_iald (v := (F_X10_chosen μ).2 25 4) C 25 g_25 vi_4_1700 (rdl tn_4 rfl) dX10_serves_10 ?_
  refine v_iconst (v := (2 : Int32)) C (by decide) dX10_serves_11 ?_
  refine v_icmp_ne (tgt := 39) C (by decide) dX10_serves_12 (fun h1 => ?_) (fun h1 => ?_)
  · refine v_aload_n C 1 rfl dX10_serves_39 ?_
    refine v_aload_n C 1 rfl dX10_serves_40 ?_
    refine v_aload_n C 1 rfl dX10_serves_41 ?_
    refine v_get (v := .ref (E.1 25)) C fl_RX10_7 24 g_24 rfl dX10_serves_42 ?_
    refine v_bipush (v := (110 : Int32)) C (by decide) dX10_serves_45 ?_
    refine v_iload_n C 0 rfl dX10_serves_47 ?_
    refine v_iadd C dX10_serves_48 ?_
    refine v_iald (v := (F_X10_chosen μ).2 25 ((110 : Int32) + ((F_X10_chosen μ).1)).toNatClampNeg) C 25 g_25 (by obtain ⟨j, hj, ej⟩ := hc; exact vi_add 110 ej (by omega) (by decide)) rfl dX10_serves_49 ?_
    refine v_cV1 (rest := [.ref (E.1 24)]) C mv_RX10_89 (m_X10_place l G E σ (F_X10_chosen μ).2 Y ((F_X10_chosen μ).2 25 ((110 : Int32) + ((F_X10_chosen μ).1)).toNatClampNeg) (by have hC : MOKg ((F_X10_chosen μ).2 25) := (by rw [chosen_25 hM]; exact hM); first | exact hC.1 | exact hC.put10.1)) 24 g_24 rfl rfl rfl rfl (Nat.le_of_ble_eq_true rfl) ⟨Nat.le_of_ble_eq_true rfl, Nat.le_of_ble_eq_true rfl⟩ ⟨rfl, rfl⟩ ⟨Nat.zero_le _, Nat.zero_le _⟩ dX10_serves_50 ?_
    refine v_cV0 (rest := []) C mv_RX10_182 (m_X10_accesses l G E σ (F_X10_chosen μ).2 Y (F_X10_place (F_X10_chosen μ).2 ((F_X10_chosen μ).2 25 ((110 : Int32) + ((F_X10_chosen μ).1)).toNatClampNeg)) (by have hC : MOKg ((F_X10_chosen μ).2 25) := (by rw [chosen_25 hM]; exact hM); first | exact geo_s (place_plc hC.1 (rq_blk hC hc)) | exact geo_s (place_plc hC.put10.1 (rq_blk hC.put10 hc))) (by have hC : MOKg ((F_X10_chosen μ).2 25) := (by rw [chosen_25 hM]; exact hM); first | exact hC.2.2.1 | exact hC.put10.2.2.1) (by have hC : MOKg ((F_X10_chosen μ).2 25) := (by rw [chosen_25 hM]; exact hM); first | exact geo_c (place_plc hC.1 (rq_blk hC hc)) | exact geo_c (place_plc hC.put10.1 (rq_blk hC.put10 hc))) (by have hC : MOKg ((F_X10_chosen μ).2 25) := (by rw [chosen_25 hM]; exact hM); first | exact place_plc hC.1 (rq_blk hC hc) | exact place_plc hC.put10.1 (rq_blk hC.put10 hc))) 24 g_24 rfl rfl rfl rfl (Nat.le_of_ble_eq_true rfl) ⟨Nat.le_of_ble_eq_true rfl, Nat.le_of_ble_eq_true rfl⟩ ⟨rfl, rfl⟩ ⟨Nat.zero_le _, Nat.zero_le _⟩ dX10_serves_53 ?_
    refine v_aload_n C 1 rfl dX10_serves_56 ?_
    refine v_get (v := .ref (E.1 25)) C fl_RX10_7 24 g_24 rfl dX10_serves_57 ?_
    refine v_sipush (v := (350 : Int32)) C (by decide) dX10_serves_60 ?_
    refine v_iload_n C 0 rfl dX10_serves_63 ?_
    refine v_iadd C dX10_serves_64 ?_
    refine v_iconst (v := (1 : Int32)) C (by decide) dX10_serves_65 ?_
    refine v_iast (ws' := Wd G E σ (s2 (F_X10_accesses (F_X10_chosen μ).2 (F_X10_place (F_X10_chosen μ).2 ((F_X10_chosen μ).2 25 ((110 : Int32) + ((F_X10_chosen μ).1)).toNatClampNeg))) 25 ((350 : Int32) + ((F_X10_chosen μ).1)).toNatClampNeg (1 : Int32)) Y) C 25 g_25 (by obtain ⟨j, hj, ej⟩ := hc; exact vi_add 350 ej (by omega) (by decide)) (p_25 _ _) dX10_serves_66 ?_
    refine v_aload_n C 1 rfl dX10_serves_67 ?_
    refine v_get (v := .ref (E.1 25)) C fl_RX10_7 24 g_24 rfl dX10_serves_68 ?_
    refine v_sipush (v := (430 : Int32)) C (by decide) dX10_serves_71 ?_
    refine v_iload_n C 0 rfl dX10_serves_74 ?_
    refine v_iadd C dX10_serves_75 ?_
    refine v_aload_n C 1 rfl dX10_serves_76 ?_
    refine v_get (v := .ref (E.1 25)) C fl_RX10_7 24 g_24 rfl dX10_serves_77 ?_
    refine v_bipush (v := (8 : Int32)) C (by decide) dX10_serves_80 ?_
    refine v_iald (v := (s2 (F_X10_accesses (F_X10_chosen μ).2 (F_X10_place (F_X10_chosen μ).2 ((F_X10_chosen μ).2 25 ((110 : Int32) + ((F_X10_chosen μ).1)).toNatClampNeg))) 25 ((350 : Int32) + ((F_X10_chosen μ).1)).toNatClampNeg (1 : Int32)) 25 8) C 25 g_25 vi_8_1700 (rdl tn_8 rfl) dX10_serves_82 ?_
    refine v_iast (ws' := Wd G E σ (s2 (s2 (F_X10_accesses (F_X10_chosen μ).2 (F_X10_place (F_X10_chosen μ).2 ((F_X10_chosen μ).2 25 ((110 : Int32) + ((F_X10_chosen μ).1)).toNatClampNeg))) 25 ((350 : Int32) + ((F_X10_chosen μ).1)).toNatClampNeg (1 : Int32)) 25 ((430 : Int32) + ((F_X10_chosen μ).1)).toNatClampNeg ((s2 (F_X10_accesses (F_X10_chosen μ).2 (F_X10_place (F_X10_chosen μ).2 ((F_X10_chosen μ).2 25 ((110 : Int32) + ((F_X10_chosen μ).1)).toNatClampNeg))) 25 ((350 : Int32) + ((F_X10_chosen μ).1)).toNatClampNeg (1 : Int32)) 25 8)) Y) C 25 g_25 (by obtain ⟨j, hj, ej⟩ := hc; exact vi_add 430 ej (by omega) (by decide)) (p_25 _ _) dX10_serves_83 ?_
    refine v_iload_n C 0 rfl dX10_serves_84 ?_
    have e1 : F_X10_serves μ = ((F_X10_chosen μ).1, (s2 (s2 (F_X10_accesses (F_X10_chosen μ).2 (F_X10_place (F_X10_chosen μ).2 ((F_X10_chosen μ).2 25 ((110 : Int32) + ((F_X10_chosen μ).1)).toNatClampNeg))) 25 ((350 : Int32) + ((F_X10_chosen μ).1)).toNatClampNeg (1 : Int32)) 25 ((430 : Int32) + ((F_X10_chosen μ).1)).toNatClampNeg ((s2 (F_X10_accesses (F_X10_chosen μ).2 (F_X10_place (F_X10_chosen μ).2 ((F_X10_chosen μ).2 25 ((110 : Int32) + ((F_X10_chosen μ).1)).toNatClampNeg))) 25 ((350 : Int32) + ((F_X10_chosen μ).1)).toNatClampNeg (1 : Int32)) 25 8))) := by rw [F_X10_serves, if_neg h1]
    exact v_Q hQ (v_iret C () trivial (by rw [e1]) (by rw [e1]) (Nat.zero_le _) (Nat.zero_le _) dX10_serves_85)
  · refine v_aload_n C 1 rfl dX10_serves_15 ?_
    refine v_iload_n C 0 rfl dX10_serves_16 ?_
    refine v_cV1 (rest := []) C mv_RX10_149 (m_X10_isAhead l G E σ (F_X10_chosen μ).2 Y ((F_X10_chosen μ).1) (by rw [chosen_25 hM]; exact hM) hc) 24 g_24 rfl rfl rfl rfl (Nat.le_of_ble_eq_true rfl) ⟨Nat.le_of_ble_eq_true rfl, Nat.le_of_ble_eq_true rfl⟩ ⟨rfl, rfl⟩ ⟨Nat.zero_le _, Nat.zero_le _⟩ dX10_serves_17 ?_
    refine v_if_ne (tgt := 39) C (by decide) dX10_serves_20 (fun h2 => ?_) (fun h2 => ?_)
    · refine v_aload_n C 1 rfl dX10_serves_39 ?_
      refine v_aload_n C 1 rfl dX10_serves_40 ?_
      refine v_aload_n C 1 rfl dX10_serves_41 ?_
      refine v_get (v := .ref (E.1 25)) C fl_RX10_7 24 g_24 rfl dX10_serves_42 ?_
      refine v_bipush (v := (110 : Int32)) C (by decide) dX10_serves_45 ?_
      refine v_iload_n C 0 rfl dX10_serves_47 ?_
      refine v_iadd C dX10_serves_48 ?_
      refine v_iald (v := (F_X10_chosen μ).2 25 ((110 : Int32) + ((F_X10_chosen μ).1)).toNatClampNeg) C 25 g_25 (by obtain ⟨j, hj, ej⟩ := hc; exact vi_add 110 ej (by omega) (by decide)) rfl dX10_serves_49 ?_
      refine v_cV1 (rest := [.ref (E.1 24)]) C mv_RX10_89 (m_X10_place l G E σ (F_X10_chosen μ).2 Y ((F_X10_chosen μ).2 25 ((110 : Int32) + ((F_X10_chosen μ).1)).toNatClampNeg) (by have hC : MOKg ((F_X10_chosen μ).2 25) := (by rw [chosen_25 hM]; exact hM); first | exact hC.1 | exact hC.put10.1)) 24 g_24 rfl rfl rfl rfl (Nat.le_of_ble_eq_true rfl) ⟨Nat.le_of_ble_eq_true rfl, Nat.le_of_ble_eq_true rfl⟩ ⟨rfl, rfl⟩ ⟨Nat.zero_le _, Nat.zero_le _⟩ dX10_serves_50 ?_
      refine v_cV0 (rest := []) C mv_RX10_182 (m_X10_accesses l G E σ (F_X10_chosen μ).2 Y (F_X10_place (F_X10_chosen μ).2 ((F_X10_chosen μ).2 25 ((110 : Int32) + ((F_X10_chosen μ).1)).toNatClampNeg)) (by have hC : MOKg ((F_X10_chosen μ).2 25) := (by rw [chosen_25 hM]; exact hM); first | exact geo_s (place_plc hC.1 (rq_blk hC hc)) | exact geo_s (place_plc hC.put10.1 (rq_blk hC.put10 hc))) (by have hC : MOKg ((F_X10_chosen μ).2 25) := (by rw [chosen_25 hM]; exact hM); first | exact hC.2.2.1 | exact hC.put10.2.2.1) (by have hC : MOKg ((F_X10_chosen μ).2 25) := (by rw [chosen_25 hM]; exact hM); first | exact geo_c (place_plc hC.1 (rq_blk hC hc)) | exact geo_c (place_plc hC.put10.1 (rq_blk hC.put10 hc))) (by have hC : MOKg ((F_X10_chosen μ).2 25) := (by rw [chosen_25 hM]; exact hM); first | exact place_plc hC.1 (rq_blk hC hc) | exact place_plc hC.put10.1 (rq_blk hC.put10 hc))) 24 g_24 rfl rfl rfl rfl (Nat.le_of_ble_eq_true rfl) ⟨Nat.le_of_ble_eq_true rfl, Nat.le_of_ble_eq_true rfl⟩ ⟨rfl, rfl⟩ ⟨Nat.zero_le _, Nat.zero_le _⟩ dX10_serves_53 ?_
      refine v_aload_n C 1 rfl dX10_serves_56 ?_
      refine v_get (v := .ref (E.1 25)) C fl_RX10_7 24 g_24 rfl dX10_serves_57 ?_
      refine v_sipush (v := (350 : Int32)) C (by decide) dX10_serves_60 ?_
      refine v_iload_n C 0 rfl dX10_serves_63 ?_
      refine v_iadd C dX10_serves_64 ?_
      refine v_iconst (v := (1 : Int32)) C (by decide) dX10_serves_65 ?_
      refine v_iast (ws' := Wd G E σ (s2 (F_X10_accesses (F_X10_chosen μ).2 (F_X10_place (F_X10_chosen μ).2 ((F_X10_chosen μ).2 25 ((110 : Int32) + ((F_X10_chosen μ).1)).toNatClampNeg))) 25 ((350 : Int32) + ((F_X10_chosen μ).1)).toNatClampNeg (1 : Int32)) Y) C 25 g_25 (by obtain ⟨j, hj, ej⟩ := hc; exact vi_add 350 ej (by omega) (by decide)) (p_25 _ _) dX10_serves_66 ?_
      refine v_aload_n C 1 rfl dX10_serves_67 ?_
      refine v_get (v := .ref (E.1 25)) C fl_RX10_7 24 g_24 rfl dX10_serves_68 ?_
      refine v_sipush (v := (430 : Int32)) C (by decide) dX10_serves_71 ?_
      refine v_iload_n C 0 rfl dX10_serves_74 ?_
      refine v_iadd C dX10_serves_75 ?_
      refine v_aload_n C 1 rfl dX10_serves_76 ?_
      refine v_get (v := .ref (E.1 25)) C fl_RX10_7 24 g_24 rfl dX10_serves_77 ?_
      refine v_bipush (v := (8 : Int32)) C (by decide) dX10_serves_80 ?_
      refine v_iald (v := (s2 (F_X10_accesses (F_X10_chosen μ).2 (F_X10_place (F_X10_chosen μ).2 ((F_X10_chosen μ).2 25 ((110 : Int32) + ((F_X10_chosen μ).1)).toNatClampNeg))) 25 ((350 : Int32) + ((F_X10_chosen μ).1)).toNatClampNeg (1 : Int32)) 25 8) C 25 g_25 vi_8_1700 (rdl tn_8 rfl) dX10_serves_82 ?_
      refine v_iast (ws' := Wd G E σ (s2 (s2 (F_X10_accesses (F_X10_chosen μ).2 (F_X10_place (F_X10_chosen μ).2 ((F_X10_chosen μ).2 25 ((110 : Int32) + ((F_X10_chosen μ).1)).toNatClampNeg))) 25 ((350 : Int32) + ((F_X10_chosen μ).1)).toNatClampNeg (1 : Int32)) 25 ((430 : Int32) + ((F_X10_chosen μ).1)).toNatClampNeg ((s2 (F_X10_accesses (F_X10_chosen μ).2 (F_X10_place (F_X10_chosen μ).2 ((F_X10_chosen μ).2 25 ((110 : Int32) + ((F_X10_chosen μ).1)).toNatClampNeg))) 25 ((350 : Int32) + ((F_X10_chosen μ).1)).toNatClampNeg (1 : Int32)) 25 8)) Y) C 25 g_25 (by obtain ⟨j, hj, ej⟩ := hc; exact vi_add 430 ej (by omega) (by decide)) (p_25 _ _) dX10_serves_83 ?_
      refine v_iload_n C 0 rfl dX10_serves_84 ?_
      have e1 : F_X10_serves μ = ((F_X10_chosen μ).1, (s2 (s2 (F_X10_accesses (F_X10_chosen μ).2 (F_X10_place (F_X10_chosen μ).2 ((F_X10_chosen μ).2 25 ((110 : Int32) + ((F_X10_chosen μ).1)).toNatClampNeg))) 25 ((350 : Int32) + ((F_X10_chosen μ).1)).toNatClampNeg (1 : Int32)) 25 ((430 : Int32) + ((F_X10_chosen μ).1)).toNatClampNeg ((s2 (F_X10_accesses (F_X10_chosen μ).2 (F_X10_place (F_X10_chosen μ).2 ((F_X10_chosen μ).2 25 ((110 : Int32) + ((F_X10_chosen μ).1)).toNatClampNeg))) 25 ((350 : Int32) + ((F_X10_chosen μ).1)).toNatClampNeg (1 : Int32)) 25 8))) := by rw [F_X10_serves, if_pos h1, if_neg h2]
      exact v_Q hQ (v_iret C () trivial (by rw [e1]) (by rw [e1]) (Nat.zero_le _) (Nat.zero_le _) dX10_serves_85)
    · refine v_aload_n C 1 rfl dX10_serves_23 ?_
      refine v_get (v := .ref (E.1 25)) C fl_RX10_7 24 g_24 rfl dX10_serves_24 ?_
      refine v_bipush (v := (10 : Int32)) C (by decide) dX10_serves_27 ?_
      refine v_iconst (v := (1 : Int32)) C (by decide) dX10_serves_29 ?_
      refine v_aload_n C 1 rfl dX10_serves_30 ?_
      refine v_get (v := .ref (E.1 25)) C fl_RX10_7 24 g_24 rfl dX10_serves_31 ?_
      refine v_bipush (v := (10 : Int32)) C (by decide) dX10_serves_34 ?_
      refine v_iald (v := (F_X10_chosen μ).2 25 10) C 25 g_25 vi_10_1700 (rdl tn_10 rfl) dX10_serves_36 ?_
      refine v_isub C dX10_serves_37 ?_
      refine v_iast (ws' := Wd G E σ (s2 (F_X10_chosen μ).2 25 10 ((1 : Int32) - ((F_X10_chosen μ).2 25 10))) Y) C 25 g_25 vi_10_1700 ((p_25 _ _).trans (by rw [tn_10])) dX10_serves_38 ?_
      refine v_aload_n C 1 rfl dX10_serves_39 ?_
      refine v_aload_n C 1 rfl dX10_serves_40 ?_
      refine v_aload_n C 1 rfl dX10_serves_41 ?_
      refine v_get (v := .ref (E.1 25)) C fl_RX10_7 24 g_24 rfl dX10_serves_42 ?_
      refine v_bipush (v := (110 : Int32)) C (by decide) dX10_serves_45 ?_
      refine v_iload_n C 0 rfl dX10_serves_47 ?_
      refine v_iadd C dX10_serves_48 ?_
      refine v_iald (v := (s2 (F_X10_chosen μ).2 25 10 ((1 : Int32) - ((F_X10_chosen μ).2 25 10))) 25 ((110 : Int32) + ((F_X10_chosen μ).1)).toNatClampNeg) C 25 g_25 (by obtain ⟨j, hj, ej⟩ := hc; exact vi_add 110 ej (by omega) (by decide)) rfl dX10_serves_49 ?_
      refine v_cV1 (rest := [.ref (E.1 24)]) C mv_RX10_89 (m_X10_place l G E σ (s2 (F_X10_chosen μ).2 25 10 ((1 : Int32) - ((F_X10_chosen μ).2 25 10))) Y ((s2 (F_X10_chosen μ).2 25 10 ((1 : Int32) - ((F_X10_chosen μ).2 25 10))) 25 ((110 : Int32) + ((F_X10_chosen μ).1)).toNatClampNeg) (by have hC : MOKg ((F_X10_chosen μ).2 25) := (by rw [chosen_25 hM]; exact hM); first | exact hC.1 | exact hC.put10.1)) 24 g_24 rfl rfl rfl rfl (Nat.le_of_ble_eq_true rfl) ⟨Nat.le_of_ble_eq_true rfl, Nat.le_of_ble_eq_true rfl⟩ ⟨rfl, rfl⟩ ⟨Nat.zero_le _, Nat.zero_le _⟩ dX10_serves_50 ?_
      refine v_cV0 (rest := []) C mv_RX10_182 (m_X10_accesses l G E σ (s2 (F_X10_chosen μ).2 25 10 ((1 : Int32) - ((F_X10_chosen μ).2 25 10))) Y (F_X10_place (s2 (F_X10_chosen μ).2 25 10 ((1 : Int32) - ((F_X10_chosen μ).2 25 10))) ((s2 (F_X10_chosen μ).2 25 10 ((1 : Int32) - ((F_X10_chosen μ).2 25 10))) 25 ((110 : Int32) + ((F_X10_chosen μ).1)).toNatClampNeg)) (by have hC : MOKg ((F_X10_chosen μ).2 25) := (by rw [chosen_25 hM]; exact hM); first | exact geo_s (place_plc hC.1 (rq_blk hC hc)) | exact geo_s (place_plc hC.put10.1 (rq_blk hC.put10 hc))) (by have hC : MOKg ((F_X10_chosen μ).2 25) := (by rw [chosen_25 hM]; exact hM); first | exact hC.2.2.1 | exact hC.put10.2.2.1) (by have hC : MOKg ((F_X10_chosen μ).2 25) := (by rw [chosen_25 hM]; exact hM); first | exact geo_c (place_plc hC.1 (rq_blk hC hc)) | exact geo_c (place_plc hC.put10.1 (rq_blk hC.put10 hc))) (by have hC : MOKg ((F_X10_chosen μ).2 25) := (by rw [chosen_25 hM]; exact hM); first | exact place_plc hC.1 (rq_blk hC hc) | exact place_plc hC.put10.1 (rq_blk hC.put10 hc))) 24 g_24 rfl rfl rfl rfl (Nat.le_of_ble_eq_true rfl) ⟨Nat.le_of_ble_eq_true rfl, Nat.le_of_ble_eq_true rfl⟩ ⟨rfl, rfl⟩ ⟨Nat.zero_le _, Nat.zero_le _⟩ dX10_serves_53 ?_
      refine v_aload_n C 1 rfl dX10_serves_56 ?_
      refine v_get (v := .ref (E.1 25)) C fl_RX10_7 24 g_24 rfl dX10_serves_57 ?_
      refine v_sipush (v := (350 : Int32)) C (by decide) dX10_serves_60 ?_
      refine v_iload_n C 0 rfl dX10_serves_63 ?_
      refine v_iadd C dX10_serves_64 ?_
      refine v_iconst (v := (1 : Int32)) C (by decide) dX10_serves_65 ?_
      refine v_iast (ws' := Wd G E σ (s2 (F_X10_accesses (s2 (F_X10_chosen μ).2 25 10 ((1 : Int32) - ((F_X10_chosen μ).2 25 10))) (F_X10_place (s2 (F_X10_chosen μ).2 25 10 ((1 : Int32) - ((F_X10_chosen μ).2 25 10))) ((s2 (F_X10_chosen μ).2 25 10 ((1 : Int32) - ((F_X10_chosen μ).2 25 10))) 25 ((110 : Int32) + ((F_X10_chosen μ).1)).toNatClampNeg))) 25 ((350 : Int32) + ((F_X10_chosen μ).1)).toNatClampNeg (1 : Int32)) Y) C 25 g_25 (by obtain ⟨j, hj, ej⟩ := hc; exact vi_add 350 ej (by omega) (by decide)) (p_25 _ _) dX10_serves_66 ?_
      refine v_aload_n C 1 rfl dX10_serves_67 ?_
      refine v_get (v := .ref (E.1 25)) C fl_RX10_7 24 g_24 rfl dX10_serves_68 ?_
      refine v_sipush (v := (430 : Int32)) C (by decide) dX10_serves_71 ?_
      refine v_iload_n C 0 rfl dX10_serves_74 ?_
      refine v_iadd C dX10_serves_75 ?_
      refine v_aload_n C 1 rfl dX10_serves_76 ?_
      refine v_get (v := .ref (E.1 25)) C fl_RX10_7 24 g_24 rfl dX10_serves_77 ?_
      refine v_bipush (v := (8 : Int32)) C (by decide) dX10_serves_80 ?_
      refine v_iald (v := (s2 (F_X10_accesses (s2 (F_X10_chosen μ).2 25 10 ((1 : Int32) - ((F_X10_chosen μ).2 25 10))) (F_X10_place (s2 (F_X10_chosen μ).2 25 10 ((1 : Int32) - ((F_X10_chosen μ).2 25 10))) ((s2 (F_X10_chosen μ).2 25 10 ((1 : Int32) - ((F_X10_chosen μ).2 25 10))) 25 ((110 : Int32) + ((F_X10_chosen μ).1)).toNatClampNeg))) 25 ((350 : Int32) + ((F_X10_chosen μ).1)).toNatClampNeg (1 : Int32)) 25 8) C 25 g_25 vi_8_1700 (rdl tn_8 rfl) dX10_serves_82 ?_
      refine v_iast (ws' := Wd G E σ (s2 (s2 (F_X10_accesses (s2 (F_X10_chosen μ).2 25 10 ((1 : Int32) - ((F_X10_chosen μ).2 25 10))) (F_X10_place (s2 (F_X10_chosen μ).2 25 10 ((1 : Int32) - ((F_X10_chosen μ).2 25 10))) ((s2 (F_X10_chosen μ).2 25 10 ((1 : Int32) - ((F_X10_chosen μ).2 25 10))) 25 ((110 : Int32) + ((F_X10_chosen μ).1)).toNatClampNeg))) 25 ((350 : Int32) + ((F_X10_chosen μ).1)).toNatClampNeg (1 : Int32)) 25 ((430 : Int32) + ((F_X10_chosen μ).1)).toNatClampNeg ((s2 (F_X10_accesses (s2 (F_X10_chosen μ).2 25 10 ((1 : Int32) - ((F_X10_chosen μ).2 25 10))) (F_X10_place (s2 (F_X10_chosen μ).2 25 10 ((1 : Int32) - ((F_X10_chosen μ).2 25 10))) ((s2 (F_X10_chosen μ).2 25 10 ((1 : Int32) - ((F_X10_chosen μ).2 25 10))) 25 ((110 : Int32) + ((F_X10_chosen μ).1)).toNatClampNeg))) 25 ((350 : Int32) + ((F_X10_chosen μ).1)).toNatClampNeg (1 : Int32)) 25 8)) Y) C 25 g_25 (by obtain ⟨j, hj, ej⟩ := hc; exact vi_add 430 ej (by omega) (by decide)) (p_25 _ _) dX10_serves_83 ?_
      refine v_iload_n C 0 rfl dX10_serves_84 ?_
      have e1 : F_X10_serves μ = ((F_X10_chosen μ).1, (s2 (s2 (F_X10_accesses (s2 (F_X10_chosen μ).2 25 10 ((1 : Int32) - ((F_X10_chosen μ).2 25 10))) (F_X10_place (s2 (F_X10_chosen μ).2 25 10 ((1 : Int32) - ((F_X10_chosen μ).2 25 10))) ((s2 (F_X10_chosen μ).2 25 10 ((1 : Int32) - ((F_X10_chosen μ).2 25 10))) 25 ((110 : Int32) + ((F_X10_chosen μ).1)).toNatClampNeg))) 25 ((350 : Int32) + ((F_X10_chosen μ).1)).toNatClampNeg (1 : Int32)) 25 ((430 : Int32) + ((F_X10_chosen μ).1)).toNatClampNeg ((s2 (F_X10_accesses (s2 (F_X10_chosen μ).2 25 10 ((1 : Int32) - ((F_X10_chosen μ).2 25 10))) (F_X10_place (s2 (F_X10_chosen μ).2 25 10 ((1 : Int32) - ((F_X10_chosen μ).2 25 10))) ((s2 (F_X10_chosen μ).2 25 10 ((1 : Int32) - ((F_X10_chosen μ).2 25 10))) 25 ((110 : Int32) + ((F_X10_chosen μ).1)).toNatClampNeg))) 25 ((350 : Int32) + ((F_X10_chosen μ).1)).toNatClampNeg (1 : Int32)) 25 8))) := by rw [F_X10_serves, if_pos h1, if_pos h2]
      exact v_Q hQ (v_iret C () trivial (by rw [e1]) (by rw [e1]) (Nat.zero_le _) (Nat.zero_le _) dX10_serves_85)
def F_X10_serve (μ : Sg) : Int32 × Sg := (if (F_X10_pending (s2 μ 24 1 (0 : Int32))) = 0 then ((F_X10_fails (s2 μ 24 1 (0 : Int32)) (1 : Int32)).1, (F_X10_fails (s2 μ 24 1 (0 : Int32)) (1 : Int32)).2) else (if (μ 25 8) ≤ (100000 : Int32) then ((F_X10_serves (s2 μ 24 1 (0 : Int32))).1, (F_X10_serves (s2 μ 24 1 (0 : Int32))).2) else ((F_X10_fails (s2 μ 24 1 (0 : Int32)) (2 : Int32)).1, (F_X10_fails (s2 μ 24 1 (0 : Int32)) (2 : Int32)).2)))
abbrev rm_X10_serve : Room := { frames := 74, cells := 0, slots := 0, locals := 2891 }
set_option maxRecDepth 100000 in
set_option maxHeartbeats 4000000 in
theorem m_X10_serve (l : Launch) (G : GG) (E : EE) (σ μ : Sg) (Y : va_W) (hM : MOKg (μ 25)) : KK l G yX10_serve cX10_serve 1 (some .int) rm_X10_serve [.ref (E.1 24)] (Wd G E σ μ Y) (some (.int (F_X10_serve μ).1)) (Wd G E σ (F_X10_serve μ).2 Y) := by
  refine KE.of (by decide) (Nat.le_of_ble_eq_true rfl) ?_
  intro zp ze zs zm za zb zt zc zA C _
  generalize hQ : MQ zb _ za zs _ _ zA = Q
  show V zp l ze rm_X10_serve zs zm za zb zt zc 1 G zA 0 0 Q 0 [(0, .ref (E.1 24))] [] (Wd G E σ μ Y)
  refine v_aload_n C 0 rfl dX10_serve_0 ?_
  refine v_iconst (v := (0 : Int32)) C (by decide) dX10_serve_1 ?_
  refine v_put C fp_RX10_39 24 g_24 rfl rfl (Nat.le_of_ble_eq_true rfl) (p_24_3 _) dX10_serve_2 ?_
  refine v_aload_n C 0 rfl dX10_serve_5 ?_
  refine v_cV1 (rest := []) C mv_RX10_103 (m_X10_pending l G E σ (s2 μ 24 1 (0 : Int32)) Y hM.2.1) 24 g_24 rfl rfl rfl rfl (Nat.le_of_ble_eq_true rfl) ⟨Nat.le_of_ble_eq_true rfl, Nat.le_of_ble_eq_true rfl⟩ ⟨rfl, rfl⟩ ⟨Nat.zero_le _, Nat.zero_le _⟩ dX10_serve_6 ?_
  refine v_if_ne (tgt := 18) C (by decide) dX10_serve_9 (fun h1 => ?_) (fun h1 => ?_)
  · refine v_aload_n C 0 rfl dX10_serve_18 ?_
    refine v_get (v := .ref (E.1 25)) C fl_RX10_7 24 g_24 rfl dX10_serve_19 ?_
    refine v_bipush (v := (8 : Int32)) C (by decide) dX10_serve_22 ?_
    refine v_iald (v := μ 25 8) C 25 g_25 vi_8_1700 (rdl tn_8 rfl) dX10_serve_24 ?_
    refine v_ldc (v := (100000 : Int32)) C w_1351 dX10_serve_25 ?_
    refine v_icmp_le (tgt := 38) C (by decide) dX10_serve_27 (fun h2 => ?_) (fun h2 => ?_)
    · refine v_aload_n C 0 rfl dX10_serve_38 ?_
      refine v_cV1 (rest := []) C mv_RX10_186 (m_X10_serves l G E σ (s2 μ 24 1 (0 : Int32)) Y hM ((chosen_pnd (μ := s2 μ 24 1 0) hM h1).rq)) 24 g_24 rfl rfl rfl rfl (Nat.le_of_ble_eq_true rfl) ⟨Nat.le_of_ble_eq_true rfl, Nat.le_of_ble_eq_true rfl⟩ ⟨rfl, rfl⟩ ⟨Nat.zero_le _, Nat.zero_le _⟩ dX10_serve_39 ?_
      have e1 : F_X10_serve μ = ((F_X10_serves (s2 μ 24 1 (0 : Int32))).1, (F_X10_serves (s2 μ 24 1 (0 : Int32))).2) := by rw [F_X10_serve, if_neg h1, if_pos h2]
      exact v_Q hQ (v_iret C () trivial (by rw [e1]) (by rw [e1]) (Nat.zero_le _) (Nat.zero_le _) dX10_serve_42)
    · refine v_aload_n C 0 rfl dX10_serve_30 ?_
      refine v_iconst (v := (2 : Int32)) C (by decide) dX10_serve_31 ?_
      refine v_cV1 (rest := []) C mv_RX10_78 (m_X10_fails l G E σ (s2 μ 24 1 (0 : Int32)) Y (2 : Int32)) 24 g_24 rfl rfl rfl rfl (Nat.le_of_ble_eq_true rfl) ⟨Nat.le_of_ble_eq_true rfl, Nat.le_of_ble_eq_true rfl⟩ ⟨rfl, rfl⟩ ⟨Nat.zero_le _, Nat.zero_le _⟩ dX10_serve_32 ?_
      refine v_goto (tgt := 42) C (by decide) dX10_serve_35 ?_
      have e1 : F_X10_serve μ = ((F_X10_fails (s2 μ 24 1 (0 : Int32)) (2 : Int32)).1, (F_X10_fails (s2 μ 24 1 (0 : Int32)) (2 : Int32)).2) := by rw [F_X10_serve, if_neg h1, if_neg h2]
      exact v_Q hQ (v_iret C () trivial (by rw [e1]) (by rw [e1]) (Nat.zero_le _) (Nat.zero_le _) dX10_serve_42)
  · refine v_aload_n C 0 rfl dX10_serve_12 ?_
    refine v_iconst (v := (1 : Int32)) C (by decide) dX10_serve_13 ?_
    refine v_cV1 (rest := []) C mv_RX10_78 (m_X10_fails l G E σ (s2 μ 24 1 (0 : Int32)) Y (1 : Int32)) 24 g_24 rfl rfl rfl rfl (Nat.le_of_ble_eq_true rfl) ⟨Nat.le_of_ble_eq_true rfl, Nat.le_of_ble_eq_true rfl⟩ ⟨rfl, rfl⟩ ⟨Nat.zero_le _, Nat.zero_le _⟩ dX10_serve_14 ?_
    have e1 : F_X10_serve μ = ((F_X10_fails (s2 μ 24 1 (0 : Int32)) (1 : Int32)).1, (F_X10_fails (s2 μ 24 1 (0 : Int32)) (1 : Int32)).2) := by rw [F_X10_serve, if_pos h1]
    exact v_Q hQ (v_iret C () trivial (by rw [e1]) (by rw [e1]) (Nat.zero_le _) (Nat.zero_le _) dX10_serve_17)

