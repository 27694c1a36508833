theorem vi_0_1 : vp_in (0 : Int32) 1 := by unfold vp_in; decide
theorem n_utilization {σ : Sg} (hF : FNN) (hX : X_X9_utilization σ = 0) : vf_n64 (F_X9_utilization σ) := by
  unfold X_X9_utilization at hX
  unfold F_X9_utilization
  split
  · rename_i h; rw [if_pos h] at hX; exact absurd hX (by decide)
  · rename_i h; exact hF.1 _ _ h
theorem n_averageResponse {σ : Sg} (hF : FNN) (hX : X_X9_averageResponse σ = 0) : vf_n64 (F_X9_averageResponse σ) := by
  unfold X_X9_averageResponse at hX
  unfold F_X9_averageResponse
  split
  · rename_i h; rw [if_pos h] at hX; exact absurd hX (by decide)
  · rename_i h; exact hF.1 _ _ h
theorem sub_fx {σ μ : Sg} (h : SIM σ μ) (k b a : Int32) : (F_X10_submit μ k b a).2 26 = μ 26 ∧ (F_X10_submit μ k b a).2 24 0 = μ 24 0 ∧ (F_X10_submit μ k b a).2 24 3 = μ 24 3 := by
  unfold F_X10_submit
  split
  · have o : ∀ c, c ≠ 25 → (F_X10_comes (s2 μ 24 1 0) k b a).2 c = s2 μ 24 1 0 c := fun c hc => by
      unfold F_X10_comes
      (repeat' split) <;> simp only [s2_f hc]
    show (F_X10_comes (s2 μ 24 1 0) k b a).2 26 = _ ∧ (F_X10_comes (s2 μ 24 1 0) k b a).2 24 0 = _ ∧ (F_X10_comes (s2 μ 24 1 0) k b a).2 24 3 = _
    rw [o 26 (by omega), o 24 (by omega)]
    exact ⟨rfl, rfl, rfl⟩
  · exact ⟨rfl, rfl, rfl⟩
theorem sub_5 {σ : Sg} {cn : Nat} {k b a : Int32} (hcn : σ 5 0 = nI cn) (h80 : cn ≤ 80) : (X_X9_submit σ cn k b a = 0 ∧ (F_X9_submit σ cn k b a).2 5 0 = nI (cn + 1) ∧ cn + 1 ≤ 80) ∨ (F_X9_submit σ cn k b a).2 5 0 = nI cn := by
  unfold X_X9_submit F_X9_submit
  by_cases c1 : F_X9_isWithin k 0 1 = 0
  · rw [if_pos c1, if_pos c1]; exact Or.inr hcn
  rw [if_neg c1, if_neg c1]
  by_cases c2 : F_X9_isWithin a 0 9999 = 0
  · rw [if_pos c2, if_pos c2]; exact Or.inr hcn
  rw [if_neg c2, if_neg c2]
  by_cases c3 : X_X9_requireBlock b = 0
  · rw [if_pos c3, if_pos c3]
    by_cases c4 : F_X8_hasRoomFor σ k b = 0
    · rw [if_pos c4, if_pos c4]; exact Or.inr hcn
    · rw [if_neg c4, if_neg c4]
      have := room_80 hcn h80 c4
      refine Or.inl ⟨rfl, ?_, by omega⟩
      show (F_X8_accept σ cn k b a).2 5 0 = _
      rw [accept_5, hcn]
      exact nI_1 cn
  · rw [if_neg c3, if_neg c3]; exact Or.inr hcn
theorem sub_cnt {σ : Sg} {E : EE} {cn : Nat} {k b a : Int32} {u : (Nat → Nat) × Nat} {w : Int64} (h80 : cn ≤ 80) (hjK : cn ≤ E.2.2.1) (hcn : σ 5 0 = nI cn) (hu : E.2.2.1 ≤ u.2 ∧ (X_X9_submit σ cn k b a = 0 → cn + 1 ≤ u.2)) : ∃ n : Nat, n ≤ 80 ∧ n ≤ (EO (EK E u.1 u.2) w).2.2.1 ∧ (F_X9_submit σ cn k b a).2 5 0 = nI n := by
  rcases sub_5 (k := k) (b := b) (a := a) hcn h80 with ⟨q1, q2, q3⟩ | q
  · exact ⟨cn + 1, q3, hu.2 q1, q2⟩
  · exact ⟨cn, h80, Nat.le_trans hjK hu.1, q⟩
theorem subt_cnt {σ : Sg} {E : EE} {u : (Nat → Nat) × Nat} {w : Int64} (hK : CNT E σ) (hu : E.2.2.1 ≤ u.2 ∧ (X_X9_submitText σ = 0 → ∃ n : Nat, n ≤ 80 ∧ n ≤ u.2 ∧ (F_X9_submitText σ).2 5 0 = nI n)) : ∃ n : Nat, n ≤ 80 ∧ n ≤ (EO (EK E u.1 u.2) w).2.2.1 ∧ (F_X9_submitText σ).2 5 0 = nI n := by
  by_cases c : X_X9_submitText σ = 0
  · exact hu.2 c
  · obtain ⟨n, n8, nE, n5⟩ := hK
    refine ⟨n, n8, Nat.le_trans nE hu.1, ?_⟩
    unfold X_X9_submitText at c
    unfold F_X9_submitText
    generalize hr : F_X5_read σ = r at c
    have r5 : r.2 5 0 = σ 5 0 := read_5 hr
    simp only [] at c ⊢
    by_cases z : r.1 = 0
    · rw [if_pos z]; exact r5.trans n5
    · rw [if_neg z] at c; exact absurd rfl c
theorem up_2 (μ : Sg) : (F_X10_isUpward μ).2 = s2 μ 24 1 0 := by unfold F_X10_isUpward; split <;> rfl
