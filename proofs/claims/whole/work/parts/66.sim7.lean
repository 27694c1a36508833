theorem SIM.clk {σ μ : Sg} {c : Nat} (h : SIM σ μ) (hc : c ≤ 200000) : SIM (s2 σ 2 4 (nI c)) (s2 μ 25 8 (nI c)) := by
  obtain ⟨⟨hd, hm, hu, hq, hs, hca⟩, ht⟩ := h
  exact SIM.low (σ := σ) (μ := μ) ⟨⟨hd, hm, hu, hq, hs, hca⟩, ht⟩ (fun i hi => s2_n (by omega)) (fun c h2 _ _ => s2_f h2) rfl rfl hd.1 ⟨rfl, hd.2.1.2.1⟩ hd.2.2.1 hm.2.2.1 hm.2.2.2.1 hm.2.2.2.2.1 ⟨hu.1, hu.2.1, hu.2.2.1, hu.2.2.2.1, c, hc, rfl⟩ hs ⟨hca.1, hca.2.1⟩ ht
theorem S_idle {σ μ : Sg} {tk : Int32} (h : SIM σ μ) : hcd [1, 2] (X_X9_idle σ tk) = (F_X10_idle μ tk).2 24 1 ∧ (X_X9_idle σ tk = 0 → (F_X9_idle σ tk).1 = (F_X10_idle μ tk).1) ∧ SIM (F_X9_idle σ tk).2 (F_X10_idle μ tk).2 := by
  unfold X_X9_idle F_X9_idle F_X10_idle
  rw [in_eq]
  by_cases c : F_X10_in tk 1 1000 = 0
  · rw [if_pos c, if_pos c, if_pos c]
    exact ⟨rfl, fun h0 => absurd h0 (by decide), (h.t 0).t 1⟩
  rw [if_neg c, if_neg c, if_neg c]
  obtain ⟨a, ha, ha2, rfl⟩ := in1_bd (B := 1000) (by decide) rfl c
  obtain ⟨k, hk, ek⟩ := h.1.2.2.1.2.2.2.2
  have e4 : σ 2 4 = μ 25 8 := h.1.1.2.1.1
  have hsub : (100000 : Int32) - nI a = nI (100000 - a) := by
    apply i32_toInt_inj
    rw [Int32.toInt_sub, nI_toInt (by omega), nI_toInt (by omega), show (100000 : Int32).toInt = 100000 by decide, bm32 (by omega) (by omega)]
    omega
  have hl : (σ 2 4 ≤ (100000 : Int32) - nI a) ↔ k + a ≤ 100000 := by rw [e4, ek, hsub, nI_leI (by omega) (by omega)]; omega
  have hr : (μ 25 8 + nI a ≤ (100000 : Int32)) ↔ k + a ≤ 100000 := by rw [ek, nI_add, show (100000 : Int32) = nI 100000 from rfl, nI_leI (by omega) (by omega)]
  by_cases c2 : k + a ≤ 100000
  · rw [if_pos (hl.mpr c2), if_pos (hl.mpr c2), if_pos (hr.mpr c2)]
    refine ⟨rfl, fun _ => by rw [e4], ?_⟩
    show SIM (s2 σ 2 4 (σ 2 4 + nI a)) (s2 (s2 μ 24 1 0) 25 8 (μ 25 8 + nI a))
    rw [e4, ek, nI_add]
    exact (h.t 0).clk (by omega)
  · rw [if_neg (fun z => c2 (hl.mp z)), if_neg (fun z => c2 (hl.mp z)), if_neg (fun z => c2 (hr.mp z))]
    exact ⟨rfl, fun h0 => absurd h0 (by decide), (h.t 0).t 2⟩
theorem S_total {σ μ : Sg} {wh : Int32} (h : SIM σ μ) : hcd [1] (X_X9_total σ wh) = (F_X10_total μ wh).2 24 1 ∧ (X_X9_total σ wh = 0 → F_X9_total σ wh = (F_X10_total μ wh).1) ∧ SIM σ (F_X10_total μ wh).2 := by
  obtain ⟨t0, t1, t2, t3⟩ := h.1.1.2.2.1
  unfold X_X9_total F_X9_total F_X10_total
  by_cases c : F_X10_in wh 0 3 = 0
  · rw [if_pos c]
    have n0 : ¬ wh = 0 := fun z => by rw [z] at c; exact absurd c (by decide)
    have n1 : ¬ wh = 1 := fun z => by rw [z] at c; exact absurd c (by decide)
    have n2 : ¬ wh = 2 := fun z => by rw [z] at c; exact absurd c (by decide)
    have n3 : ¬ wh = 3 := fun z => by rw [z] at c; exact absurd c (by decide)
    rw [if_neg n0, if_neg n1, if_neg n2, if_neg n3]
    exact ⟨rfl, fun h0 => absurd h0 (by decide), (h.t 0).t 1⟩
  · rw [if_neg c]
    obtain ⟨a, ha, rfl⟩ := in_bd (B := 3) (by decide) rfl c
    rcases (show a = 0 ∨ a = 1 ∨ a = 2 ∨ a = 3 by omega) with rfl | rfl | rfl | rfl
    · exact ⟨rfl, fun _ => t0, h.t 0⟩
    · exact ⟨rfl, fun _ => t1, h.t 0⟩
    · exact ⟨rfl, fun _ => t2, h.t 0⟩
    · exact ⟨rfl, fun _ => t3, h.t 0⟩
/-- a spare taken -/
theorem SIM.spare {σ μ : Sg} {m : Nat} {b : Int32} (h : SIM σ μ) (hm4 : m < 4) (em : μ 25 11 = nI m) : SIM (s2 (s2 σ 3 m b) 2 10 (nI (m + 1))) (s2 (s2 μ 25 (20 + m) b) 25 11 (nI (m + 1))) := by
  obtain ⟨⟨⟨d1, ⟨d4, d5, -⟩, d3, ds, da⟩, ⟨m1, m2, m3, m4, m5, m6⟩, hu, ⟨q1, q2⟩, hs, ⟨c1, c2, c, c3, c4, c5, c6, c7⟩⟩, ht⟩ := h
  have e : ∀ i, (i < 11 ∨ 24 ≤ i ∨ i = 12 ∨ i = 13 ∨ i = 14 ∨ i = 15 ∨ i = 16) → s2 (s2 μ 25 (20 + m) b) 25 11 (nI (m + 1)) 25 i = μ 25 i := fun i hi => (s2_n (by omega)).trans (s2_n (by omega))
  have e24 : ∀ i, 24 ≤ i → s2 (s2 μ 25 (20 + m) b) 25 11 (nI (m + 1)) 25 i = μ 25 i := fun i hi => e i (Or.inr (Or.inl hi))
  refine ⟨⟨⟨?_, ⟨?_, ?_, ?_⟩, ?_, fun k hk => ?_, fun p hp => ?_⟩, ⟨⟨m + 1, by omega, by rw [s2_e]⟩, ?_, ?_, ?_, ?_, fun r hr => ?_⟩, ?_, ⟨?_, fun n hn en => ?_⟩, ?_, ⟨?_, ?_, c, c3, c4, c5, c6, fun b hb => ?_⟩⟩, ht⟩
  · rw [e 0 (by omega), e 1 (by omega), e 2 (by omega), e 3 (by omega)]; exact d1
  · rw [e 8 (by omega)]; exact d4
  · rw [e 9 (by omega)]; exact d5
  · rw [s2_e, s2_e]
  · rw [e 13 (by omega), e 14 (by omega), e 15 (by omega), e 16 (by omega)]; exact d3
  · show s2 σ 3 m b 3 k = _
    rw [show s2 (s2 μ 25 (20 + m) b) 25 11 (nI (m + 1)) 25 (20 + k) = s2 μ 25 (20 + m) b 25 (20 + k) from s2_n (by omega)]
    by_cases hkm : k = m
    · subst hkm; rw [s2_e, s2_e]
    · rw [s2_n hkm, s2_n (by omega)]; exact ds k hk
  · rw [e24 _ (by omega)]; exact da p hp
  · rw [e 12 (by omega)]; exact m2
  · rw [e 9 (by omega)]; exact m3
  · rw [e 5 (by omega)]; exact m4
  · rw [e 6 (by omega)]; exact m5
  · rw [e24 _ (by omega)]; exact m6 r hr
  · unfold NU; rw [e 0 (by omega), e 1 (by omega), e 2 (by omega), e 3 (by omega), e 8 (by omega)]; exact hu
  · rw [e 12 (by omega)]; exact q1
  · rw [e 12 (by omega)] at en
    obtain ⟨q3, q4⟩ := q2 n hn en
    refine ⟨?_, fun i hi => ?_⟩
    · rw [pcnt_cong (fun i h1 h2 => e24 i (by omega)) n hn]; exact q3
    · rw [e24 _ (by omega), e24 _ (by omega), e24 _ (by omega), e24 _ (by omega), e24 _ (by omega)]; exact q4 i hi
  · unfold RSc; rw [e 4 (by omega), e 10 (by omega), e 5 (by omega), e 6 (by omega)]; exact hs
  · rw [e 7 (by omega)]; exact c1
  · rw [e 7 (by omega)]; exact c2
  · rw [e24 _ (by omega)]; exact c7 b hb
