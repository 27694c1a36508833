theorem spare_L {σ : Sg} {b : Int32} : ∀ n j : Nat, j + n = 5 → j ≤ 4 → L_X1_spareOfBlock_2 σ b n (nI j) = -1 ∨ ∃ k : Nat, k < 4 ∧ L_X1_spareOfBlock_2 σ b n (nI j) = nI (572 + k) := by
  intro n
  induction n with
  | zero => intro j h1 h2; omega
  | succ n ih =>
    intro j h1 h2
    rw [L_X1_spareOfBlock_2]
    by_cases c1 : σ 2 10 ≤ nI j
    · rw [if_pos c1]; exact Or.inl rfl
    rw [if_neg c1]
    by_cases c2 : (4 : Int32) ≤ nI j
    · rw [if_pos c2]; exact Or.inl rfl
    have hj := gt_of_nle (a := 4) (b := j) rfl rfl (by omega) (by omega) c2
    rw [if_neg c2]
    by_cases c3 : σ 3 (nI j).toNatClampNeg = b
    · rw [if_pos c3]; exact Or.inr ⟨j, hj, by rw [show (572 : Int32) = nI 572 from rfl, nI_add]⟩
    · rw [if_neg c3, nI_1 j]; exact ih (j + 1) (by omega) (by omega)
theorem spare_place {σ μ : Sg} {b : Int32} (h : RD σ (μ 25)) (hm : ∃ m : Nat, m ≤ 4 ∧ μ 25 11 = nI m) (hb : blk b) : (F_X1_spareOfBlock σ b = -1) ↔ F_X10_place μ b < 572 := by
  have e := place_eq (σ := σ) (μ := μ) (b := b) h hm
  unfold F_X1_placeOfBlock at e
  obtain ⟨k, hk, rfl⟩ := hb
  rcases spare_L (σ := σ) (b := nI k) 5 0 rfl (by omega) with c | ⟨q, hq, c⟩
  · have c : F_X1_spareOfBlock σ (nI k) = -1 := c
    rw [if_pos c] at e
    rw [← e]
    exact ⟨fun _ => by rw [show (572 : Int32) = nI 572 from rfl, nI_ltI (by omega) (by omega)]; omega, fun _ => c⟩
  · have c : F_X1_spareOfBlock σ (nI k) = nI (572 + q) := c
    have hn : ¬ F_X1_spareOfBlock σ (nI k) = -1 := by rw [c]; exact nI_nm1 (by omega)
    rw [if_neg hn, c] at e
    rw [← e]
    exact ⟨fun z => absurd z hn, fun z => by rw [show (572 : Int32) = nI 572 from rfl, nI_ltI (by omega) (by omega)] at z; omega⟩
theorem S_moveToSpare {σ μ : Sg} {b : Int32} (h : SIM σ μ) : hcd [3, 2, 4] (X_X9_moveToSpare σ b) = (F_X10_moveToSpare μ b).2 24 1 ∧ (X_X9_moveToSpare σ b = 0 → (F_X9_moveToSpare σ b).1 = (F_X10_moveToSpare μ b).1) ∧ SIM (F_X9_moveToSpare σ b).2 (F_X10_moveToSpare μ b).2 := by
  unfold X_X9_moveToSpare F_X9_moveToSpare F_X10_moveToSpare X_X9_requireBlock
  rw [show F_X9_isBlock b = F_X10_isBlock b from rfl]
  by_cases c : F_X10_isBlock b = 0
  · rw [if_pos c, if_pos c, if_neg (by decide), if_neg (by decide)]
    exact ⟨rfl, fun h0 => absurd h0 (by decide), (h.t 0).t 1⟩
  rw [if_neg c, if_neg c, if_pos rfl, if_pos rfl]
  have hb : blk b := in_bd (B := 571) (by decide) rfl c
  have sp := spare_place (σ := σ) (μ := s2 μ 24 1 0) (b := b) h.1.1 h.1.2.1.1 hb
  obtain ⟨m, hm, em⟩ := h.1.2.1.1
  have e10 : σ 2 10 = nI m := h.1.1.2.1.2.2.trans em
  by_cases c2 : F_X1_spareOfBlock σ b = -1
  · rw [if_pos c2, if_pos c2, if_pos (sp.mp c2)]
    by_cases c3 : m = 4
    · subst c3
      have ht : F_X1_takeSpare σ b = (-1, σ) := by unfold F_X1_takeSpare; rw [e10, if_pos (by decide)]
      rw [ht, if_pos rfl, if_pos rfl, if_pos (show μ 25 11 = 4 from em)]
      exact ⟨rfl, fun h0 => absurd h0 (by decide), (h.t 0).t 3⟩
    · have hw : ¬ F_X9_isWithin (nI m) 0 3 = 0 := by
        unfold F_X9_isWithin
        rw [if_neg (by rw [show (0 : Int32) = nI 0 from rfl, nI_ltI (by omega) (by omega)]; omega), if_neg (by rw [show (3 : Int32) = nI 3 from rfl, nI_ltI (by omega) (by omega)]; omega)]
        decide
      have hv : ((572 : Int32) + (nI m + 1)) - 1 = nI (572 + m) := by
        rw [nI_1 m, show (572 : Int32) = nI 572 from rfl, nI_add, show 572 + (m + 1) = 572 + m + 1 by omega]
        have := pk_m1 (572 + m)
        grind
      have ht : F_X1_takeSpare σ b = (nI (572 + m), s2 (s2 σ 3 m b) 2 10 (nI (m + 1))) := by
        unfold F_X1_takeSpare
        rw [e10, if_neg hw, hv, nI_clamp (by omega), nI_1 m]
      have h4 : ¬ μ 25 11 = 4 := by
        rw [em]
        intro z
        have := (nI_eq (by omega) (by omega)).mp (z.trans (show (4 : Int32) = nI 4 from rfl))
        exact c3 this
      rw [ht, if_neg (nI_nm1 (by omega)), if_neg (nI_nm1 (by omega)), if_neg h4]
      have e20 : ((20 : Int32) + μ 25 11).toNatClampNeg = 20 + m := by rw [em]; exact tnA (c := 20) (by omega)
      have e11 : (s2 (s2 μ 24 1 0) 25 (20 + m) b) 25 11 = nI m := (s2_n (by omega)).trans em
      refine ⟨?_, fun _ => ?_, ?_⟩
      · show (0 : Int32) = _
        rw [e20]; rfl
      · show nI (572 + m) = ((572 : Int32) + ((s2 (s2 μ 24 1 0) 25 ((20 : Int32) + μ 25 11).toNatClampNeg b) 25 11 + 1)) - 1
        rw [e20, e11, hv]
      · show SIM _ (s2 (s2 (s2 μ 24 1 0) 25 ((20 : Int32) + μ 25 11).toNatClampNeg b) 25 11 ((s2 (s2 μ 24 1 0) 25 ((20 : Int32) + μ 25 11).toNatClampNeg b) 25 11 + 1))
        rw [e20, e11, nI_1 m]
        exact (h.t 0).spare (by omega) em
  · rw [if_neg c2, if_neg c2, if_neg (fun z => c2 (sp.mpr z))]
    exact ⟨rfl, fun h0 => absurd h0 (by decide), (h.t 0).t 2⟩
