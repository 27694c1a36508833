theorem SIM.low {σ μ σ' μ' : Sg} (h : SIM σ μ) (hg : ∀ i, (17 ≤ i ∨ i = 11 ∨ i = 12) → μ' 25 i = μ 25 i) (hσ : ∀ c, c ≠ 2 → c ≠ 7 → c ≠ 8 → σ' c = σ c) (h10 : σ' 2 10 = σ 2 10) (h81 : σ' 8 1 = σ 8 1)
    (d1 : σ' 2 0 = μ' 25 0 ∧ σ' 2 1 = μ' 25 1 ∧ σ' 2 2 = μ' 25 2 ∧ σ' 2 3 = μ' 25 3) (d2 : σ' 2 4 = μ' 25 8 ∧ σ' 2 5 = μ' 25 9) (d3 : σ' 2 6 = μ' 25 13 ∧ σ' 2 7 = μ' 25 14 ∧ σ' 2 8 = μ' 25 15 ∧ σ' 2 9 = μ' 25 16)
    (m3 : cyl (μ' 25 9)) (m4 : ¬ μ' 25 5 = 0) (m5 : ¬ μ' 25 6 = 0) (hn : NU (μ' 25)) (hs : RSc σ' (μ' 25)) (h8 : σ' 8 0 = μ' 25 7 ∧ (μ' 25 7 = 0 ∨ μ' 25 7 = 1)) (ht : RTx σ' μ') : SIM σ' μ' := by
  obtain ⟨⟨⟨-, ⟨-, -, dq⟩, -, ds, da⟩, ⟨m1, m2, -, -, -, m6⟩, -, ⟨q1, q2⟩, -, ⟨-, -, c, c3, c4, c5, c6, c7⟩⟩, -⟩ := h
  have g17 : ∀ i, 17 ≤ i → μ' 25 i = μ 25 i := fun i hi => hg i (Or.inl hi)
  have g11 := hg 11 (Or.inr (Or.inl rfl))
  have g12 := hg 12 (Or.inr (Or.inr rfl))
  refine ⟨⟨⟨d1, ⟨d2.1, d2.2, by rw [h10, g11]; exact dq⟩, d3, fun k hk => by rw [hσ 3 (by decide) (by decide) (by decide), g17 _ (by omega)]; exact ds k hk, fun p hp => by rw [hσ 4 (by decide) (by decide) (by decide), g17 _ (by omega)]; exact da p hp⟩,
    ⟨by rw [g11]; exact m1, by rw [g12]; exact m2, m3, m4, m5, fun r hr => by rw [g17 _ (by omega)]; exact m6 r hr⟩, hn, ⟨by rw [hσ 5 (by decide) (by decide) (by decide), g12]; exact q1, fun m hm em => ?_⟩, hs,
    ⟨h8.1, h8.2, c, c3, by rw [h81]; exact c4, fun i j hi hj => by rw [hσ 9 (by decide) (by decide) (by decide)]; exact c5 i j hi hj, fun i hi => by rw [hσ 9 (by decide) (by decide) (by decide)]; exact c6 i hi, fun b hb => by rw [hσ 9 (by decide) (by decide) (by decide), g17 _ (by omega)]; exact c7 b hb⟩⟩, ht⟩
  rw [g12] at em
  obtain ⟨q3, q4⟩ := q2 m hm em
  refine ⟨by rw [hσ 5 (by decide) (by decide) (by decide), pcnt_cong (fun i h1 h2 => g17 i (by omega)) m hm]; exact q3, fun i hi => ?_⟩
  rw [hσ 40 (by decide) (by decide) (by decide), hσ 41 (by decide) (by decide) (by decide), hσ 42 (by decide) (by decide) (by decide), hσ 43 (by decide) (by decide) (by decide), hσ 44 (by decide) (by decide) (by decide), g17 _ (by omega), g17 _ (by omega), g17 _ (by omega), g17 _ (by omega), g17 _ (by omega)]
  exact q4 i hi
theorem in_bd {v : Int32} {B : Nat} {hi : Int32} (hB : B < 2 ^ 31) (e : hi = nI B) (h : ¬ F_X10_in v 0 hi = 0) : ∃ a : Nat, a ≤ B ∧ v = nI a := by
  obtain ⟨a, b⟩ := in_of h
  rw [e] at b
  obtain ⟨j, hj, ej⟩ := nI_rng hB ⟨a, b⟩
  exact ⟨j, by omega, ej⟩
theorem S_setSkew {σ μ : Sg} {s : Int32} (h : SIM σ μ) : hcd [1] (X_X9_setSkew σ s) = (F_X10_setSkew μ s).2 24 1 ∧ (X_X9_setSkew σ s = 0 → (F_X9_setSkew σ s).1 = (F_X10_setSkew μ s).1) ∧ SIM (F_X9_setSkew σ s).2 (F_X10_setSkew μ s).2 := by
  unfold X_X9_setSkew F_X9_setSkew F_X10_setSkew
  rw [in_eq]
  by_cases c : F_X10_in s 0 40 = 0
  · rw [if_pos c, if_pos c, if_pos c]
    exact ⟨rfl, fun h0 => absurd h0 (by decide), (h.t 0).t 1⟩
  · rw [if_neg c, if_neg c, if_neg c]
    obtain ⟨a, ha, rfl⟩ := in_bd (B := 40) (by decide) rfl c
    exact ⟨rfl, fun _ => h.1.1.1.2.2.2, (h.t 0).skew ha⟩
