theorem mkD_o {σ : Sg} {bk : Int32} {c : Nat} (h8 : c ≠ 8) (h9 : c ≠ 9) : F_X0_makeDirty σ bk c = σ c := by
  unfold F_X0_makeDirty
  split
  · split
    · rfl
    · rw [s2_f h8, s2_f h9]
  · rfl
theorem RCa.held {σ : Sg} {g g' : Nat → Int32} {b : Nat} (h : RCa σ g) (hd : g (510 + b) = 1) (h7 : g' 7 = g 7) (hg : ∀ i, 510 ≤ i → i < 1100 → i ≠ 510 + b → g' i = g i) (h1 : g' (510 + b) = 1) : RCa σ g' := by
  refine RCa.same h rfl rfl h7 (fun i h2 h3 => ?_)
  by_cases z : i = 510 + b
  · rw [z, h1, hd]
  · exact hg i h2 h3 z
theorem RCa.dirt {σ : Sg} {g g' : Nat → Int32} {b : Nat} (h : RCa σ g) (hb : b ≤ 571) (hr : g (510 + b) = 1 ∨ ¬ (8 : Int32) ≤ σ 8 1) (h7 : g' 7 = g 7) (hg : ∀ i, 510 ≤ i → i < 1100 → i ≠ 510 + b → g' i = g i) (h1 : g' (510 + b) = 1) : RCa (F_X0_makeDirty σ (nI b)) g' := by
  rcases holds_eq h hb with ⟨q1, q2⟩ | ⟨q1, q2⟩
  · have e : F_X0_makeDirty σ (nI b) = σ := by unfold F_X0_makeDirty; rw [q1, if_neg (by decide)]
    rw [e]
    exact h.held q2 h7 hg h1
  · have hr2 : ¬ (8 : Int32) ≤ σ 8 1 := hr.resolve_left (by rw [q2]; decide)
    obtain ⟨c1, c2, c, c3, c4, c5, c6, c7⟩ := h
    rw [c4] at hr2
    have hc := gt_of_nle (x := 8) (a := 8) rfl rfl (by omega) (by omega) hr2
    have hw : ¬ F_X9_isWithin (nI c) 0 7 = 0 := by
      unfold F_X9_isWithin
      rw [if_neg (nI_nlt0 (by omega)), if_neg (by rw [show (7 : Int32) = nI 7 from rfl, nI_ltI (by omega) (by omega)]; omega)]
      decide
    have e : F_X0_makeDirty σ (nI b) = s2 (s2 σ 9 c (nI b)) 8 1 (nI (c + 1)) := by
      unfold F_X0_makeDirty; rw [q1, if_pos rfl, c4, if_neg hw, nI_clamp (by omega), nI_1 c]
    rw [e]
    have nb : ∀ i, i < c → ¬ σ 9 i = nI b := fun i hi ei => by
      have := (c7 b hb).2.mpr ⟨i, hi, ei⟩
      rw [q2] at this
      exact absurd this (by decide)
    have e9 : ∀ i, s2 (s2 σ 9 c (nI b)) 8 1 (nI (c + 1)) 9 i = s2 σ 9 c (nI b) 9 i := fun i => rfl
    refine ⟨by rw [h7]; exact c1, by rw [h7]; exact c2, c + 1, by omega, s2_e, fun i j hi hj => ?_, fun i hi => ?_, fun x hx => ?_⟩
    · rw [e9, e9]
      by_cases z1 : i = c
      · by_cases z2 : j = c
        · intro _; omega
        · rw [z1, s2_e, s2_n z2]; intro q; exact absurd q.symm (nb j (by omega))
      · by_cases z2 : j = c
        · rw [z2, s2_e, s2_n z1]; intro q; exact absurd q (nb i (by omega))
        · rw [s2_n z1, s2_n z2]; exact c5 i j (by omega) (by omega)
    · rw [e9]
      by_cases z1 : i = c
      · rw [z1, s2_e]; exact ⟨b, hb, rfl⟩
      · rw [s2_n z1]; exact c6 i (by omega)
    · by_cases z : x = b
      · subst z
        rw [h1]
        exact ⟨Or.inr rfl, fun _ => ⟨c, by omega, by rw [e9, s2_e]⟩, fun _ => rfl⟩
      · rw [hg _ (by omega) (by omega) (by omega)]
        refine ⟨(c7 x hx).1, fun q => ?_, fun ⟨i, hi, ei⟩ => ?_⟩
        · obtain ⟨i, hi, ei⟩ := (c7 x hx).2.mp q
          exact ⟨i, by omega, by rw [e9, s2_n (by omega)]; exact ei⟩
        · rw [e9] at ei
          by_cases z1 : i = c
          · rw [z1, s2_e] at ei
            exact absurd ((nI_eq (by omega) (by omega)).mp ei).symm z
          · rw [s2_n z1] at ei
            exact (c7 x hx).2.mpr ⟨i, by omega, ei⟩
theorem pcnt_ext {g g' : Nat → Int32} {m : Nat} (h : ∀ i, i < m → g' (350 + i) = g (350 + i)) : pcnt g' m = pcnt g m := pcnt_same m (fun i hi => by rw [h i hi])
/-- a row comes, pending -/
theorem add_sim {σ μ : Sg} {m b : Nat} {kd al : Int32} (h : SIM σ μ) (hm : m < 80) (em : μ 25 12 = nI m) (hb : b ≤ 571) : SIM (F_X6_add σ m (nI b) (σ 2 4) (if al = 0 then -1 else σ 2 4 + al)) (cmB μ m kd b al) := by
  obtain ⟨q1, q2⟩ := h.1.2.2.2.1
  obtain ⟨q3, q4⟩ := q2 m (by omega) em
  have e4 : σ 2 4 = μ 25 8 := h.1.1.2.1.1
  have ep : pcnt (cmB μ m kd b al 25) (m + 1) = pcnt (μ 25) m + 1 := by
    show pcnt (cmB μ m kd b al 25) m + _ = _
    rw [pcnt_ext (g := μ 25) (fun i hi => by unfold cmB; simp (disch := omega) only [s2_n]), if_pos (by unfold cmB; simp (disch := omega) only [s2_n, s2_e])]
  refine SIM.req (m := m + 1) h (by omega) (by unfold cmB; simp (disch := omega) only [s2_n, s2_e]) (fun i hi => by unfold cmB; simp (disch := omega) only [s2_n]) rfl rfl rfl rfl ?_ ?_ (fun i hi => ?_) (fun r hr => ?_) ?_ h.2
  · show σ 5 0 + 1 = _
    rw [q1, em, nI_1 m]
  · show σ 5 1 + 1 = _
    rw [ep, q3, nI_1]
  · show s2 σ 40 m (nI b) 40 i = _ ∧ s2 σ 41 m (σ 2 4) 41 i = _ ∧ s2 σ 42 m (if al = 0 then -1 else σ 2 4 + al) 42 i = _ ∧ (_ → s2 σ 43 m (-1) 43 i = _) ∧ s2 σ 44 m 0 44 i = _
    by_cases z : i = m
    · subst z
      unfold cmB cmD
      rw [e4]
      simp (disch := omega) only [s2_n, s2_e]
      exact ⟨trivial, trivial, trivial, fun q => absurd q (by decide), trivial⟩
    · unfold cmB
      simp (disch := omega) only [s2_n]
      exact q4 i (by omega)
  · by_cases z : r = m
    · subst z
      unfold cmB; simp (disch := omega) only [s2_n, s2_e]; exact ⟨b, hb, rfl⟩
    · unfold cmB; simp (disch := omega) only [s2_n]; exact h.1.2.1.2.2.2.2.2 r hr
  · exact RCa.same h.1.2.2.2.2.2 rfl rfl (by unfold cmB; simp (disch := omega) only [s2_n]) (fun i h1 h2 => by unfold cmB; simp (disch := omega) only [s2_n])
/-- a row comes, finished at once -/
theorem fin_sim {σ μ σ' : Sg} {m b : Nat} {kd al : Int32} (h : SIM σ μ) (hm : m < 80) (em : μ 25 12 = nI m) (hb : b ≤ 571) (hs : ∀ c, c ≠ 8 → c ≠ 9 → σ' c = F_X6_finishPending (F_X6_add σ m (nI b) (σ 2 4) (if al = 0 then -1 else σ 2 4 + al)) m (σ 2 4) c) (hc : RCa σ' (cmF μ m kd b al 25)) : SIM σ' (cmF μ m kd b al) := by
  obtain ⟨q1, q2⟩ := h.1.2.2.2.1
  obtain ⟨q3, q4⟩ := q2 m (by omega) em
  have e4 : σ 2 4 = μ 25 8 := h.1.1.2.1.1
  have ep : pcnt (cmF μ m kd b al 25) (m + 1) = pcnt (μ 25) m := by
    show pcnt (cmF μ m kd b al 25) m + _ = _
    rw [pcnt_ext (g := μ 25) (fun i hi => by unfold cmF cmB; simp (disch := omega) only [s2_n]), if_neg (by unfold cmF cmB; simp (disch := omega) only [s2_n, s2_e]; decide)]
    rfl
  refine SIM.req (m := m + 1) h (by omega) (by unfold cmF cmB; simp (disch := omega) only [s2_n, s2_e]) (fun i hi => by unfold cmF cmB; simp (disch := omega) only [s2_n]) ((hs 2 (by decide) (by decide)).trans rfl) ((hs 3 (by decide) (by decide)).trans rfl) ((hs 4 (by decide) (by decide)).trans rfl) ((hs 7 (by decide) (by decide)).trans rfl) ?_ ?_ (fun i hi => ?_) (fun r hr => ?_) hc ?_
  · rw [hs 5 (by decide) (by decide)]
    show σ 5 0 + 1 = _
    rw [q1, em, nI_1 m]
  · rw [hs 5 (by decide) (by decide)]
    show (σ 5 1 + 1) - 1 = _
    rw [ep, q3]
    grind
  · rw [hs 40 (by decide) (by decide), hs 41 (by decide) (by decide), hs 42 (by decide) (by decide), hs 43 (by decide) (by decide), hs 44 (by decide) (by decide)]
    show s2 σ 40 m (nI b) 40 i = _ ∧ s2 σ 41 m (σ 2 4) 41 i = _ ∧ s2 σ 42 m (if al = 0 then -1 else σ 2 4 + al) 42 i = _ ∧ (_ → s2 (s2 σ 43 m (-1)) 43 m (σ 2 4) 43 i = _) ∧ s2 (s2 σ 44 m 0) 44 m 1 44 i = _
    by_cases z : i = m
    · subst z
      unfold cmF cmB cmD
      rw [e4]
      simp (disch := omega) only [s2_n, s2_e]
      exact ⟨trivial, trivial, trivial, fun _ => trivial, trivial⟩
    · unfold cmF cmB
      simp (disch := omega) only [s2_n]
      exact q4 i (by omega)
  · by_cases z : r = m
    · subst z
      unfold cmF cmB; simp (disch := omega) only [s2_n, s2_e]; exact ⟨b, hb, rfl⟩
    · unfold cmF cmB; simp (disch := omega) only [s2_n]; exact h.1.2.1.2.2.2.2.2 r hr
  · unfold RTx
    rw [hs 19 (by decide) (by decide), hs 23 (by decide) (by decide)]
    exact h.2
