theorem SIM.clk {σ μ : Sg} {c : Nat} (h : SIM σ μ) (hc : c ≤ 200000) : SIM (s2 σ 2 4 (nI c)) (s2 μ 25 8 (nI c)) := by
  obtain ⟨⟨hd, hm, hu, hq, hs, hca⟩, ht⟩ := h
  exact SIM.low (σ := σ) (μ := μ) ⟨⟨hd, hm, hu, hq, hs, hca⟩, ht⟩ (fun i hi => s2_n (by omega)) (fun c h2 _ _ => s2_f h2) rfl rfl hd.1 ⟨rfl, hd.2.1.2.1⟩ hd.2.2.1 hm.2.2.1 hm.2.2.2.1 hm.2.2.2.2.1 ⟨hu.1, hu.2.1, hu.2.2.1, hu.2.2.2.1, c, hc, rfl⟩ hs ⟨hca.1, hca.2.1⟩ ht
theorem S_idle {σ μ : Sg} {tk : Int32} (h : SIM σ μ) : hcd [1, 2] (X_X9_idle σ tk) = (F_X10_idle μ tk).2 24 1 ∧ (X_X9_idle σ tk = 0 → (F_X9_idle σ tk).1 = (F_X10_idle μ tk).1) ∧ SIM (F_X9_idle σ tk).2 (F_X10_idle μ tk).2 := by
  unfold X_X9_idle F_X9_idle F_X10_idle
  rw [in_eq]
  by_cases c : F_X10_in tk 1 1000 = 0
  · rw [if_pos c, if_pos c, if_pos c]
    exact ⟨rfl, fun h0 => absurd h0 (by decide), (h.t 0).t 1⟩
  rw [if_neg c, if_neg c, if_neg c]
  obtain ⟨a, ha, ha2, rfl⟩ := in1_bd (B := 1000) (by decide) rfl c
  obtain ⟨k, hk, ek⟩ := h.1.2.2.1.2.2.2.2
  have e4 : σ 2 4 = μ 25 8 := h.1.1.2.1.1
  have hsub : (100000 : Int32) - nI a = nI (100000 - a) := by
    apply i32_toInt_inj
    rw [Int32.toInt_sub, nI_toInt (by omega), nI_toInt (by omega), show (100000 : Int32).toInt = 100000 by decide, bm32 (by omega) (by omega)]
    omega
  have hl : (σ 2 4 ≤ (100000 : Int32) - nI a) ↔ k + a ≤ 100000 := by rw [e4, ek, hsub, nI_leI (by omega) (by omega)]; omega
  have hr : (μ 25 8 + nI a ≤ (100000 : Int32)) ↔ k + a ≤ 100000 := by rw [ek, nI_add, show (100000 : Int32) = nI 100000 from rfl, nI_leI (by omega) (by omega)]
  by_cases c2 : k + a ≤ 100000
  · rw [if_pos (hl.mpr c2), if_pos (hl.mpr c2), if_pos (hr.mpr c2)]
    refine ⟨rfl, fun _ => by rw [e4], ?_⟩
    show SIM (s2 σ 2 4 (σ 2 4 + nI a)) (s2 (s2 μ 24 1 0) 25 8 (μ 25 8 + nI a))
    rw [e4, ek, nI_add]
    exact (h.t 0).clk (by omega)
  · rw [if_neg (fun z => c2 (hl.mp z)), if_neg (fun z => c2 (hl.mp z)), if_neg (fun z => c2 (hr.mp z))]
    exact ⟨rfl, fun h0 => absurd h0 (by decide), (h.t 0).t 2⟩
