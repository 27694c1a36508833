/-- a change of requests and dirty blocks -/
theorem SIM.req {σ μ σ' μ' : Sg} {m : Nat} (h : SIM σ μ) (hm : m ≤ 80) (em : μ' 25 12 = nI m) (hg : ∀ i, (i < 30 ∧ i ≠ 12) ∨ 1100 ≤ i → μ' 25 i = μ 25 i) (h2 : σ' 2 = σ 2) (h3 : σ' 3 = σ 3) (h4 : σ' 4 = σ 4) (h7 : σ' 7 = σ 7) (h50 : σ' 5 0 = nI m) (h51 : σ' 5 1 = nI (pcnt (μ' 25) m)) (q : ∀ i, i < m → σ' 40 i = μ' 25 (110 + i) ∧ σ' 41 i = μ' 25 (190 + i) ∧ σ' 42 i = μ' 25 (270 + i) ∧ (μ' 25 (350 + i) = 1 → σ' 43 i = μ' 25 (430 + i)) ∧ σ' 44 i = μ' 25 (350 + i)) (hb : ∀ r : Nat, r < 80 → blk (μ' 25 (110 + r))) (hc : RCa σ' (μ' 25)) (ht : RTx σ' μ') : SIM σ' μ' := by
  obtain ⟨⟨⟨d1, d2, d3, ds, da⟩, ⟨m1, m2, m3, m4, m5, m6⟩, hu, -, hs, -⟩, -⟩ := h
  have g : ∀ i, i < 30 → i ≠ 12 → μ' 25 i = μ 25 i := fun i h1 h2 => hg i (Or.inl ⟨h1, h2⟩)
  refine ⟨⟨⟨?_, ?_, ?_, fun k hk => ?_, fun p hp => ?_⟩, ⟨?_, ⟨m, hm, em⟩, ?_, ?_, ?_, hb⟩, ?_, ⟨h50.trans em.symm, fun n hn en => ?_⟩, ?_, hc⟩, ht⟩
  · rw [h2, g 0 (by omega) (by omega), g 1 (by omega) (by omega), g 2 (by omega) (by omega), g 3 (by omega) (by omega)]; exact d1
  · rw [h2, g 8 (by omega) (by omega), g 9 (by omega) (by omega), g 11 (by omega) (by omega)]; exact d2
  · rw [h2, g 13 (by omega) (by omega), g 14 (by omega) (by omega), g 15 (by omega) (by omega), g 16 (by omega) (by omega)]; exact d3
  · rw [h3, g (20 + k) (by omega) (by omega)]; exact ds k hk
  · rw [h4, hg (1100 + p) (Or.inr (by omega))]; exact da p hp
  · rw [g 11 (by omega) (by omega)]; exact m1
  · rw [g 9 (by omega) (by omega)]; exact m3
  · rw [g 5 (by omega) (by omega)]; exact m4
  · rw [g 6 (by omega) (by omega)]; exact m5
  · unfold NU; rw [g 0 (by omega) (by omega), g 1 (by omega) (by omega), g 2 (by omega) (by omega), g 3 (by omega) (by omega), g 8 (by omega) (by omega)]; exact hu
  · have e : n = m := (nI_eq (by omega) (by omega)).mp (en.symm.trans em)
    subst e
    exact ⟨h51, q⟩
  · unfold RSc; rw [h7, g 4 (by omega) (by omega), g 10 (by omega) (by omega), g 5 (by omega) (by omega), g 6 (by omega) (by omega)]; exact hs
theorem RCa.same {σ σ' : Sg} {g g' : Nat → Int32} (h : RCa σ g) (h8 : σ' 8 = σ 8) (h9 : σ' 9 = σ 9) (h7 : g' 7 = g 7) (hg : ∀ i, 510 ≤ i → i < 1100 → g' i = g i) : RCa σ' g' := by
  obtain ⟨c1, c2, c, c3, c4, c5, c6, c7⟩ := h
  unfold RCa
  rw [h8, h9, h7]
  exact ⟨c1, c2, c, c3, c4, c5, c6, fun b hb => by rw [hg _ (by omega) (by omega)]; exact c7 b hb⟩
theorem pcnt_pos {g : Nat → Int32} {i m : Nat} (hi : i < m) (h : g (350 + i) = 0) : 1 ≤ pcnt g m := by
  have := pcnt_clear (g := g) (g' := fun k => if k = 350 + i then 1 else g k) h (by show ¬ (if 350 + i = 350 + i then (1 : Int32) else g (350 + i)) = 0; rw [if_pos rfl]; decide) m hi (fun x hx _ => by
    show (if 350 + x = 350 + i then (1 : Int32) else g (350 + x)) = _
    rw [if_neg (by omega)])
  omega
theorem nI_prd {n : Nat} (h : 1 ≤ n) : nI n - 1 = nI (n - 1) := by
  have e : nI n = nI (n - 1) + 1 := by rw [nI_1]; congr 1; omega
  rw [e]
  grind
theorem S_cancel {σ μ : Sg} {n : Int32} (h : SIM σ μ) : hcd [3, 2] (X_X9_cancel σ n) = F_X10_cancel μ n 24 1 ∧ SIM (F_X9_cancel σ n) (F_X10_cancel μ n) := by
  unfold X_X9_cancel F_X9_cancel F_X10_cancel F_X10_isPending
  rcases find_isR (n := n) h with ⟨e1, e2⟩ | ⟨m, i, hm, em, hi, rfl, e1, e2, e40, e41, e42, e43, e44⟩
  · rw [e1, if_pos e2]; exact ⟨rfl, h.t 1⟩
  · rw [e1, if_neg (by rw [e2]; decide), show ((350 : Int32) + nI i).toNatClampNeg = 350 + i from tnA (c := 350) (by omega)]
    show hcd [3, 2] (if σ 44 i = 0 then 0 else 2) = _ ∧ SIM (if σ 44 i = 0 then F_X6_cancelPending σ i else σ) _
    rw [e44]
    by_cases c : μ 25 (350 + i) = 0
    · have n1 : ¬ (1 : Int32) = 0 := by decide
      rw [if_pos c, if_pos c, if_pos c, if_neg n1]
      refine ⟨rfl, ?_⟩
      obtain ⟨q3, q4⟩ := h.1.2.2.2.1.2 m hm em
      have hp := pcnt_clear (g := μ 25) (g' := s2 (s2 μ 24 1 0) 25 (350 + i) 2 25) c (by rw [s2_e]; decide) m hi (fun x hx _ => (s2_n (by omega)).trans rfl)
      unfold F_X6_cancelPending
      refine SIM.req (m := m) h hm ((s2_n (by omega)).trans em) (fun j hj => (s2_n (by omega)).trans rfl) rfl rfl rfl rfl (h.1.2.2.2.1.1.trans em) ?_ (fun j hj => ?_) (fun r hr => ?_) ?_ h.2
      · rw [s2_e, q3, nI_prd (pcnt_pos hi c)]
        congr 1
        omega
      · obtain ⟨a0, a1, a2, a3, a4⟩ := q4 j hj
        rw [s2_n (show 110 + j ≠ 350 + i by omega), s2_n (show 190 + j ≠ 350 + i by omega), s2_n (show 270 + j ≠ 350 + i by omega), s2_n (show 430 + j ≠ 350 + i by omega)]
        refine ⟨a0, a1, a2, ?_, ?_⟩
        · by_cases z : j = i
          · subst z; rw [s2_e]; intro q; exact absurd q (by decide)
          · rw [s2_n (by omega)]; exact a3
        · show s2 σ 44 i 2 44 j = _
          by_cases z : j = i
          · subst z; rw [s2_e, s2_e]
          · rw [s2_n z, s2_n (by omega)]; exact a4
      · rw [s2_n (show 110 + r ≠ 350 + i by omega)]; exact h.1.2.1.2.2.2.2.2 r hr
      · exact RCa.same h.1.2.2.2.2.2 rfl rfl (s2_n (by omega)) (fun j h1 h2 => s2_n (by omega))
    · rw [if_neg c, if_neg c, if_neg c, if_pos rfl]; exact ⟨rfl, h.t 2⟩
theorem A_cancel {σ μ : Sg} {n : Int32} (h : SIM σ μ) (ha : AR (μ 25)) : AR (F_X10_cancel μ n 25) := by
  unfold F_X10_cancel F_X10_isPending
  rcases find_isR (n := n) h with ⟨e1, e2⟩ | ⟨m, i, hm, em, hi, rfl, e1, e2, -⟩
  · rw [if_pos e2]; exact ha
  · rw [if_neg (by rw [e2]; decide), show ((350 : Int32) + nI i).toNatClampNeg = 350 + i from tnA (c := 350) (by omega)]
    by_cases c : μ 25 (350 + i) = 0
    · have n1 : ¬ (1 : Int32) = 0 := by decide
      rw [if_pos c, if_neg n1]
      refine ha.same (s2_n (by omega)) (s2_n (by omega)) (s2_n (by omega)) (s2_n (by omega)) (Int.le_of_eq (congrArg _ (s2_n (by omega)).symm)) (fun j h1 h2 => s2_n (by omega)) (fun k hk => ?_)
      by_cases z : i < k
      · have := pcnt_clear (g := μ 25) (g' := s2 (s2 μ 24 1 0) 25 (350 + i) 2 25) c (by rw [s2_e]; decide) k z (fun x hx _ => (s2_n (by omega)).trans rfl)
        omega
      · rw [pcnt_same (g := μ 25) k (fun x hx => by rw [s2_n (by omega)]; rfl)]; exact Nat.le_refl _
    · rw [if_neg c, if_pos rfl]; exact ha
/-- held means dirty -/
theorem holds_L {σ : Sg} {bk : Int32} {c : Nat} (hc : c ≤ 8) (ec : σ 8 1 = nI c) : ∀ n j : Nat, j + n = 9 → j ≤ 8 → (L_X0_holds_2 σ bk n (nI j) = 1 ∧ ∃ i, i < c ∧ σ 9 i = bk) ∨ (L_X0_holds_2 σ bk n (nI j) = 0 ∧ ∀ i, j ≤ i → i < c → ¬ σ 9 i = bk) := by
  intro n
  induction n with
  | zero => intro j h1 h2; omega
  | succ n ih =>
    intro j h1 h2
    rw [L_X0_holds_2, ec]
    by_cases c1 : nI c ≤ nI j
    · rw [if_pos c1]
      have := le_of_le rfl rfl (by omega) (by omega) c1
      exact Or.inr ⟨rfl, fun i h3 h4 => by omega⟩
    · have hj := gt_of_nle rfl rfl (by omega) (by omega) c1
      rw [if_neg c1, if_neg (by rw [show (8 : Int32) = nI 8 from rfl, nI_leI (by omega) (by omega)]; omega), nI_clamp (by omega)]
      by_cases c2 : σ 9 j = bk
      · rw [if_pos c2]; exact Or.inl ⟨rfl, j, hj, c2⟩
      · rw [if_neg c2, nI_1 j]
        rcases ih (j + 1) (by omega) (by omega) with q | ⟨q1, q2⟩
        · exact Or.inl q
        · refine Or.inr ⟨q1, fun i h3 h4 => ?_⟩
          by_cases z : i = j
          · subst z; exact c2
          · exact q2 i (by omega) h4
theorem holds_eq {σ : Sg} {g : Nat → Int32} {b : Nat} (h : RCa σ g) (hb : b ≤ 571) : (F_X0_holds σ (nI b) = 1 ∧ g (510 + b) = 1) ∨ (F_X0_holds σ (nI b) = 0 ∧ g (510 + b) = 0) := by
  obtain ⟨-, -, c, c3, c4, c5, c6, c7⟩ := h
  rcases holds_L (bk := nI b) c3 c4 9 0 (by omega) (by omega) with ⟨q1, q2⟩ | ⟨q1, q2⟩
  · exact Or.inl ⟨q1, (c7 b hb).2.mpr q2⟩
  · refine Or.inr ⟨q1, (c7 b hb).1.resolve_right (fun z => ?_)⟩
    obtain ⟨i, hi, ei⟩ := (c7 b hb).2.mp z
    exact q2 i (by omega) hi ei
