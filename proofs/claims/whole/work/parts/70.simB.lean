theorem S_clock {σ μ : Sg} (h : SIM σ μ) : F_X9_clock σ = (F_X10_clock μ).1 ∧ SIM σ (F_X10_clock μ).2 := ⟨h.1.1.2.1.1, h.t 0⟩
theorem S_arm {σ μ : Sg} (h : SIM σ μ) : F_X9_arm σ = (F_X10_arm μ).1 ∧ SIM σ (F_X10_arm μ).2 := ⟨h.1.1.2.1.2.1, h.t 0⟩
theorem S_isUpward {σ μ : Sg} (h : SIM σ μ) : F_X9_isUpward σ = (F_X10_isUpward μ).1 ∧ SIM σ (F_X10_isUpward μ).2 := by
  have h1 : σ 7 1 = μ 25 10 := h.1.2.2.2.2.1.2.1
  unfold F_X9_isUpward F_X10_isUpward
  rcases h.1.2.2.2.2.1.2.2.2.2 with e | e
  · rw [if_neg (by rw [e]; decide), h1, e]; exact ⟨rfl, h.t 0⟩
  · rw [if_pos e, h1, e]; exact ⟨rfl, h.t 0⟩
theorem S_faultPosition {σ μ : Sg} (h : SIM σ μ) : F_X9_faultPosition σ = (F_X10_faultPosition μ).1 ∧ SIM σ (F_X10_faultPosition μ).2 := ⟨h.2.2.1, h.t 0⟩
theorem S_pendingRequests {σ μ : Sg} (h : SIM σ μ) : F_X9_pendingRequests σ = (F_X10_pendingRequests μ).1 ∧ SIM σ (F_X10_pendingRequests μ).2 := by
  obtain ⟨m, hm, em⟩ := h.1.2.1.2.1
  refine ⟨?_, h.t 0⟩
  show σ 5 1 = F_X10_pending (s2 μ 24 1 0)
  rw [pending_eq (μ := s2 μ 24 1 0) hm em]
  exact (h.1.2.2.2.1.2 m hm em).1
