theorem serveFor_L {σ μ : Sg} {tk : Int32} {m Ee : Nat} (hm : m ≤ 80) (hE : Ee ≤ 110000) : ∀ (n N x : Nat) (σ1 μ1 : Sg), x + n = 13 → SIM σ1 μ1 → AR (μ1 25) → μ1 25 12 = nI m → pcnt (μ1 25) m + x ≤ 12 → pcnt (μ1 25) m < N → (∃ k : Nat, k ≤ 120000 ∧ μ1 25 8 = nI k) →
    (L_X9_serveFor_40 σ tk n (nI Ee) (nI x) σ1).1 = (L_X10_serveFor_52 μ tk N (nI Ee) (nI x) μ1).1 ∧ SIM (L_X9_serveFor_40 σ tk n (nI Ee) (nI x) σ1).2 (L_X10_serveFor_52 μ tk N (nI Ee) (nI x) μ1).2 ∧ AR ((L_X10_serveFor_52 μ tk N (nI Ee) (nI x) μ1).2 25) ∧ (L_X10_serveFor_52 μ tk N (nI Ee) (nI x) μ1).2 24 1 = μ1 24 1 := by
  intro n
  induction n with
  | zero => intro N x σ1 μ1 h1 _ _ _ h2; omega
  | succ n ih =>
    intro N x σ1 μ1 h1 h ha em hx hN hk
    cases N with
    | zero => omega
    | succ N =>
      rw [L_X9_serveFor_40, L_X10_serveFor_52]
      have ep : F_X10_pending μ1 = nI (pcnt (μ1 25) m) := pending_eq hm em
      have e51 : σ1 5 1 = nI (pcnt (μ1 25) m) := (h.1.2.2.2.1.2 m hm em).1
      have e24 : σ1 2 4 = μ1 25 8 := h.1.1.2.1.1
      have hpl := pcnt_le (μ1 25) m
      rw [ep, e51, e24]
      by_cases c1 : pcnt (μ1 25) m = 0
      · rw [c1, if_pos (show nI 0 ≤ 0 by decide), if_pos (show nI 0 ≤ 0 by decide), ite_self]
        exact ⟨rfl, h, ha, rfl⟩
      · rw [if_neg (show ¬ (12 : Int32) ≤ nI x by rw [show (12 : Int32) = nI 12 from rfl, nI_leI (by omega) (by omega)]; omega)]
        have n0 : ¬ nI (pcnt (μ1 25) m) ≤ 0 := by rw [show (0 : Int32) = nI 0 from rfl, nI_leI (by omega) (by omega)]; omega
        rw [if_neg n0, if_neg n0]
        obtain ⟨k, hk2, ek⟩ := hk
        by_cases c2 : nI Ee ≤ μ1 25 8
        · rw [if_pos c2, if_pos c2]
          exact ⟨rfl, h, ha, rfl⟩
        · rw [if_neg c2, if_neg c2, nI_1 x]
          rw [ek] at c2
          have hkE := gt_of_nle rfl rfl (by omega) (by omega) c2
          obtain ⟨s1, s2', s3, s4, ⟨d, hd, s5⟩, s6, s7⟩ := serve_step h ha ⟨k, by omega, ek⟩ hm em (by omega)
          obtain ⟨z1, z2, z3, z4⟩ := ih N (x + 1) _ _ (by omega) s2' s3 s7 (by omega) (by omega) ⟨k + d, by omega, by rw [s5, ek, nI_add]⟩
          exact ⟨z1, z2, z3, z4.trans s4⟩
theorem S_serveFor {σ μ : Sg} {tk : Int32} (h : SIM σ μ) (ha : AR (μ 25)) : hcd [1, 2] (X_X9_serveFor σ tk) = (F_X10_serveFor μ tk).2 24 1 ∧ (X_X9_serveFor σ tk = 0 → (F_X9_serveFor σ tk).1 = (F_X10_serveFor μ tk).1) ∧ SIM (F_X9_serveFor σ tk).2 (F_X10_serveFor μ tk).2 ∧ AR ((F_X10_serveFor μ tk).2 25) := by
  obtain ⟨m, hm, em⟩ := h.1.2.1.2.1
  unfold X_X9_serveFor F_X9_serveFor F_X10_serveFor
  rw [in_eq]
  by_cases c : F_X10_in tk 1 9999 = 0
  · rw [if_pos c, if_pos c, if_pos c]
    exact ⟨rfl, fun h0 => absurd h0 (by decide), (h.t 0).t 1, ha⟩
  rw [if_neg c, if_neg c, if_neg c]
  obtain ⟨a, ha1, ha2, rfl⟩ := in1_bd (B := 9999) (by decide) rfl c
  rcases time_eq h with ⟨c1, c2, k, hk, ek⟩ | ⟨c1, c2⟩
  · rw [c1, if_pos rfl, if_pos rfl, if_pos c2]
    have e24 : σ 2 4 = μ 25 8 := h.1.1.2.1.1
    have hp12 := (ha.2.2.2 m hm em).1
    rw [e24, ek, nI_add]
    obtain ⟨z1, z2, z3, z4⟩ := serveFor_L (σ := σ) (μ := μ) (tk := nI a) (Ee := k + a) hm (by omega) 13 81 0 σ (s2 μ 24 1 0) (by omega) (h.t 0) ha em (by show pcnt (μ 25) m + 0 ≤ 12; omega) (by show pcnt (μ 25) m < 81; omega) ⟨k, by omega, ek⟩
    exact ⟨z4.symm, fun _ => z1, z2, z3⟩
  · rw [c1, if_neg (show ¬ (2 : Nat) = 0 by decide), if_neg (show ¬ (2 : Nat) = 0 by decide), if_neg c2]
    exact ⟨rfl, fun h0 => absurd h0 (by decide), (h.t 0).t 2, ha⟩
