/-- the relation looks only at these cells -/
theorem SIMg.cells {σ σ' : Sg} {g : Nat → Int32} (h : SIMg σ g) (hs : ∀ c, c < 10 ∨ 40 ≤ c → σ' c = σ c) : SIMg σ' g := by
  obtain ⟨⟨d1, d2, d3, ds, da⟩, hm, hu, ⟨q1, q2⟩, hs', ⟨c1, c2, c, c3, c4, c5, c6, c7⟩⟩ := h
  have e2 := hs 2 (by omega)
  have e3 := hs 3 (by omega)
  have e4 := hs 4 (by omega)
  have e5 := hs 5 (by omega)
  have e7 := hs 7 (by omega)
  have e8 := hs 8 (by omega)
  have e9 := hs 9 (by omega)
  refine ⟨?_, hm, hu, ?_, ?_, ?_⟩
  · unfold RD; rw [e2, e3, e4]; exact ⟨d1, d2, d3, ds, da⟩
  · unfold RQs; rw [e5, hs 40 (by omega), hs 41 (by omega), hs 42 (by omega), hs 43 (by omega), hs 44 (by omega)]; exact ⟨q1, q2⟩
  · unfold RSc; rw [e7]; exact hs'
  · unfold RCa; rw [e8, e9]; exact ⟨c1, c2, c, c3, c4, c5, c6, c7⟩
theorem sub_L {μ : Sg} {k : Nat} (hk : k ≤ 14) : ∀ (f x y : Nat) (σ1 μ1 : Sg), x + f = 15 → x ≤ k → SIM σ1 μ1 → AR (μ1 25) → σ1 19 2 = nI k → μ1 24 6 = nI k → (∀ i, i < k → TXPi σ1 μ1 i) →
    (L_X9_submitText f (nI y) (nI x) σ1).1 = (L_X10_submitText_35 μ f (nI y) (nI x) μ1).1 ∧ SIM (L_X9_submitText f (nI y) (nI x) σ1).2 (L_X10_submitText_35 μ f (nI y) (nI x) μ1).2 ∧ AR ((L_X10_submitText_35 μ f (nI y) (nI x) μ1).2 25) ∧ ∀ c, c ≠ 25 → (L_X10_submitText_35 μ f (nI y) (nI x) μ1).2 c = μ1 c := by
  intro f
  induction f with
  | zero => intro x y σ1 μ1 h1 h2; omega
  | succ f ih =>
    intro x y σ1 μ1 h1 h2 h ha e1 e2 hit
    rw [L_X9_submitText, L_X10_submitText_35, e1, e2]
    by_cases c1 : nI k ≤ nI x
    · rw [if_pos c1, if_pos c1]; exact ⟨rfl, h, ha, fun _ _ => rfl⟩
    have hx := gt_of_nle (x := nI k) (y := nI x) rfl rfl (by omega) (by omega) c1
    rw [if_neg c1, if_neg c1, if_neg (by rw [show (14 : Int32) = nI 14 from rfl, nI_leI (by omega) (by omega)]; omega), nI_clamp (by omega), t3k0 (by omega), t3k1 (by omega), t3k2 (by omega)]
    obtain ⟨i1, i2, i3, i4, ⟨B, hB, eB⟩, ⟨A, hA, eA⟩⟩ := hit x hx
    rw [← i1, ← i2, ← i3, nI_1 x, nI_1 y]
    have kr : ¬ F_X10_in (σ1 20 x) 0 1 = 0 := by rcases i4 with q | q <;> rw [q] <;> decide
    have ar : ¬ F_X10_in (σ1 22 x) 0 9999 = 0 := by
      rw [eA]
      unfold F_X10_in
      rw [if_neg (nI_nlt0 (by omega)), if_neg (by rw [show (9999 : Int32) = nI 9999 from rfl, nI_ltI (by omega) (by omega)]; omega)]
      decide
    rw [show F_X9_isBlock (σ1 21 x) = F_X10_isBlock (σ1 21 x) from rfl]
    by_cases c2 : F_X10_isBlock (σ1 21 x) = 0
    · have er : F_X10_refusal μ1 (σ1 20 x) (σ1 21 x) (σ1 22 x) = 2 := by unfold F_X10_refusal; rw [if_neg kr, if_neg ar, if_pos c2]
      rw [if_pos c2, er, if_neg (by decide)]
      exact ih (x + 1) y σ1 μ1 (by omega) (by omega) h ha e1 e2 hit
    rw [if_neg c2]
    obtain ⟨b, hb, eb⟩ := in_bd (B := 571) (by decide) rfl c2
    have re := room_eq (b := b) h ha hb i4 ⟨A, hA, eA⟩
    rw [← eb] at re
    by_cases c3 : F_X8_hasRoomFor σ1 (σ1 20 x) (σ1 21 x) = 0
    · rw [if_pos c3] at re
      rw [if_pos c3, re, if_neg (by decide)]
      exact ih (x + 1) y σ1 μ1 (by omega) (by omega) h ha e1 e2 hit
    · rw [if_neg c3] at re
      rw [if_neg c3, re, if_pos rfl]
      obtain ⟨m, hm, em⟩ := h.1.2.1.2.1
      have e5 : (σ1 5 0).toNatClampNeg = m := by rw [h.1.2.2.2.1.1, em, nI_clamp (by omega)]
      have c3' : ¬ F_X8_hasRoomFor σ1 (σ1 20 x) (nI b) = 0 := by rw [← eb]; exact c3
      have acc := accept_sim h ha hb i4 ⟨A, hA, eA⟩ hm em c3'
      rw [← eb] at acc
      obtain ⟨a1, a2, a3, a4, a5, a6⟩ := acc
      rw [e5]
      have hit' : ∀ i, i < k → TXPi (F_X8_accept σ1 m (σ1 20 x) (σ1 21 x) (σ1 22 x)).2 (F_X10_comes μ1 (σ1 20 x) (σ1 21 x) (σ1 22 x)).2 i := fun i hi => by
        unfold TXPi
        rw [a6 20 (by omega) (by omega), a6 21 (by omega) (by omega), a6 22 (by omega) (by omega), a5 28 (by omega)]
        exact hit i hi
      obtain ⟨z1, z2, z3, z4⟩ := ih (x + 1) (y + 1) _ _ (by omega) (by omega) a2 a3 (by rw [a6 19 (by omega) (by omega)]; exact e1) (by rw [a5 24 (by omega)]; exact e2) hit'
      exact ⟨z1, z2, z3, fun c hc => (z4 c hc).trans (a5 c hc)⟩
theorem S_submitText {σ μ : Sg} (h : SIM σ μ) (ha : AR (μ 25)) : hcd [1] (X_X9_submitText σ) = (F_X10_submitText μ).2 24 1 ∧ (X_X9_submitText σ = 0 → (F_X9_submitText σ).1 = (F_X10_submitText μ).1) ∧ SIM (F_X9_submitText σ).2 (F_X10_submitText μ).2 ∧ AR ((F_X10_submitText μ).2 25) ∧ (F_X10_submitText μ).2 26 = μ 26 ∧ (F_X10_submitText μ).2 24 0 = μ 24 0 ∧ ∃ q : Nat, q ≤ 40 ∧ (F_X10_submitText μ).2 24 3 = nI q := by
  obtain ⟨t1, t2, ⟨n, hn, en⟩, t3⟩ := h.2
  have hT : TXP (s2 (s2 σ 19 3 0) 19 2 0) (s2 (s2 (s2 μ 24 1 0) 24 3 0) 24 6 0) n 0 0 (s2 (s2 σ 19 3 0) 19 2 0) (s2 (s2 (s2 μ 24 1 0) 24 3 0) 24 6 0) := ⟨t1.trans en, en, rfl, rfl, rfl, rfl, Nat.zero_le _, rfl, rfl, fun i hi => absurd hi (Nat.not_lt_zero _), fun _ _ => rfl, fun _ _ _ => rfl, rfl, fun _ _ _ _ => rfl⟩
  obtain ⟨p', k', hk', hT2, hr⟩ := items_L (σ0 := s2 (s2 σ 19 3 0) 19 2 0) (μ0 := s2 (s2 (s2 μ 24 1 0) 24 3 0) 24 6 0) (σ := s2 (s2 σ 19 3 0) 19 2 0) (μ := s2 μ 24 1 0) hn (fun j hj => t3 j hj) 15 0 0 _ _ (by omega) (by omega) hT
  rw [show nI 0 = (0 : Int32) from rfl] at hT2 hr
  have fc : F_X5_readItems (s2 (s2 σ 19 3 0) 19 2 0) = L_X5_readItems_2 (s2 (s2 σ 19 3 0) 19 2 0) 15 0 (s2 (s2 σ 19 3 0) 19 2 0) := rfl
  have fm : F_X10_faultOf (s2 μ 24 1 0) = L_X10_faultOf_10 (s2 μ 24 1 0) 15 (s2 (s2 (s2 μ 24 1 0) 24 3 0) 24 6 0) := rfl
  generalize hra : L_X5_readItems_2 (s2 (s2 σ 19 3 0) 19 2 0) 15 0 (s2 (s2 σ 19 3 0) 19 2 0) = ra at hT2 hr fc
  generalize hrb : L_X10_faultOf_10 (s2 μ 24 1 0) 15 (s2 (s2 (s2 μ 24 1 0) 24 3 0) 24 6 0) = rb at hT2 hr fm
  obtain ⟨a, σ2⟩ := ra
  obtain ⟨b, μ2⟩ := rb
  replace hT2 : TXP (s2 (s2 σ 19 3 0) 19 2 0) (s2 (s2 (s2 μ 24 1 0) 24 3 0) 24 6 0) n p' k' σ2 μ2 := hT2
  have n10 : ¬ (1 : Int32) = 0 := by decide
  have g25 : μ2 25 = μ 25 := (hT2.o2 25 (by omega) (by omega)).trans rfl
  have t24 : μ2 24 1 = 0 := (hT2.o4 1 (by omega) (by omega) (by omega)).trans rfl
  have hpn := hT2.pn
  have g26 : μ2 26 = μ 26 := (hT2.o2 26 (by omega) (by omega)).trans rfl
  have t240 : μ2 24 0 = μ 24 0 := (hT2.o4 0 (by omega) (by omega) (by omega)).trans rfl
  have hS : ∀ v : Int32, SIM (s2 (s2 σ2 19 1 v) 19 0 0) (s2 (s2 μ2 24 5 v) 24 2 0) := fun v => by
    refine ⟨?_, rfl, rfl, ⟨0, by omega, rfl⟩, fun j hj => ?_⟩
    · show SIMg (s2 (s2 σ2 19 1 v) 19 0 0) (μ2 25)
      rw [g25]
      exact SIMg.cells h.1 (fun c hc => ((s2_f (by omega)).trans (s2_f (by omega))).trans ((hT2.o1 c (by omega)).trans ((s2_f (by omega)).trans (s2_f (by omega)))))
    · show σ2 23 j = μ2 27 j
      rw [hT2.c1, hT2.c2]
      exact t3 j hj
  rcases hr with ⟨x1, x2⟩ | ⟨x1, x2⟩
  · replace x1 : a = 0 := x1
    replace x2 : b = nI p' := x2
    subst x1; subst x2
    have er : F_X5_read σ = (0, s2 (s2 σ2 19 1 (σ2 19 3)) 19 0 0) := by unfold F_X5_read; rw [fc]; exact if_pos rfl
    have eX : X_X9_submitText σ = 1 := by unfold X_X9_submitText; rw [er]; exact if_pos rfl
    have eF : F_X9_submitText σ = (0, s2 (s2 σ2 19 1 (σ2 19 3)) 19 0 0) := by unfold F_X9_submitText; rw [er]; exact if_pos rfl
    have eM : F_X10_submitText μ = F_X10_fails (s2 (s2 μ2 24 5 (nI p')) 24 2 0) 1 := by unfold F_X10_submitText; rw [fm]; exact if_neg (nI_nlt0 (by omega))
    rw [eX, eF, eM, hT2.p1]
    refine ⟨rfl, fun h0 => absurd h0 (by decide), (hS (nI p')).t 1, ?_, g26, t240, p', by omega, hT2.p2⟩
    show AR (μ2 25)
    rw [g25]; exact ha
  · replace x1 : a = 1 := x1
    replace x2 : b = -1 := x2
    subst x1; subst x2
    have er : F_X5_read σ = (1, s2 (s2 σ2 19 1 (-1)) 19 0 0) := by unfold F_X5_read; rw [fc]; exact if_neg n10
    have eX : X_X9_submitText σ = 0 := by unfold X_X9_submitText; rw [er]; exact if_neg n10
    have eF : F_X9_submitText σ = L_X9_submitText 15 0 0 (s2 (s2 σ2 19 1 (-1)) 19 0 0) := by unfold F_X9_submitText; rw [er]; exact if_neg n10
    have eM : F_X10_submitText μ = L_X10_submitText_35 μ 15 0 0 (s2 (s2 μ2 24 5 (-1)) 24 2 0) := by unfold F_X10_submitText; rw [fm]; exact if_pos (show (-1 : Int32) < 0 by decide)
    rw [eX, eF, eM]
    obtain ⟨z1, z2, z3, z4⟩ := sub_L (μ := μ) hk' 15 0 0 (s2 (s2 σ2 19 1 (-1)) 19 0 0) (s2 (s2 μ2 24 5 (-1)) 24 2 0) (by omega) (by omega) (hS (-1)) (by show AR (μ2 25); rw [g25]; exact ha) hT2.k1 hT2.k2 (fun i hi => hT2.it i hi)
    refine ⟨?_, fun _ => z1, z2, z3, (z4 26 (by omega)).trans g26, ?_, p', by omega, ?_⟩
    · show (0 : Int32) = (L_X10_submitText_35 μ 15 (nI 0) (nI 0) (s2 (s2 μ2 24 5 (-1)) 24 2 0)).2 24 1
      rw [z4 24 (by omega)]
      exact t24.symm
    · show (L_X10_submitText_35 μ 15 (nI 0) (nI 0) (s2 (s2 μ2 24 5 (-1)) 24 2 0)).2 24 0 = _
      rw [z4 24 (by omega)]
      exact t240
    · show (L_X10_submitText_35 μ 15 (nI 0) (nI 0) (s2 (s2 μ2 24 5 (-1)) 24 2 0)).2 24 3 = _
      rw [z4 24 (by omega)]
      exact hT2.p2
