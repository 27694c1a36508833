/-! THE RELATION of the class's numbers σ and the reference's μ -/
def RQs (σ : Sg) (g : Nat → Int32) : Prop := σ 5 0 = g 12 ∧ (∀ m : Nat, m ≤ 80 → g 12 = nI m → σ 5 1 = nI (pcnt g m) ∧ ∀ i, i < m → σ 40 i = g (110 + i) ∧ σ 41 i = g (190 + i) ∧ σ 42 i = g (270 + i) ∧ (g (350 + i) = 1 → σ 43 i = g (430 + i)) ∧ σ 44 i = g (350 + i))
def RSc (σ : Sg) (g : Nat → Int32) : Prop := σ 7 0 = g 4 ∧ σ 7 1 = g 10 ∧ σ 7 2 = g 5 ∧ σ 7 3 = g 6 ∧ (g 10 = 0 ∨ g 10 = 1)
def RCa (σ : Sg) (g : Nat → Int32) : Prop := σ 8 0 = g 7 ∧ (g 7 = 0 ∨ g 7 = 1) ∧ ∃ c : Nat, c ≤ 8 ∧ σ 8 1 = nI c ∧ (∀ i j, i < c → j < c → σ 9 i = σ 9 j → i = j) ∧ (∀ i, i < c → blk (σ 9 i)) ∧ ∀ b : Nat, b ≤ 571 → (g (510 + b) = 0 ∨ g (510 + b) = 1) ∧ (g (510 + b) = 1 ↔ ∃ i, i < c ∧ σ 9 i = nI b)
def RTx (σ μ : Sg) : Prop := σ 19 0 = μ 24 2 ∧ σ 19 1 = μ 24 5 ∧ (∃ n : Nat, n ≤ 40 ∧ μ 24 2 = nI n) ∧ ∀ k, k < 40 → σ 23 k = μ 27 k
/-- of a state alone -/
def SIMg (σ : Sg) (g : Nat → Int32) : Prop := RD σ g ∧ MOKg g ∧ NU g ∧ RQs σ g ∧ RSc σ g ∧ RCa σ g
def SIM (σ μ : Sg) : Prop := SIMg σ (μ 25) ∧ RTx σ μ
theorem hcd0 (ks : List Nat) : hcd ks 0 = 0 := rfl
/-- one number of the drive's curve, or of the policy -/
theorem SIM.t {σ μ : Sg} (h : SIM σ μ) (v : Int32) : SIM σ (s2 μ 24 1 v) := by
  obtain ⟨h1, h2⟩ := h
  exact ⟨h1, h2⟩
theorem pcnt_cong {g g' : Nat → Int32} (h : ∀ i, 350 ≤ i → i < 430 → g' i = g i) : ∀ m : Nat, m ≤ 80 → pcnt g' m = pcnt g m := by
  intro m
  induction m with
  | zero => intro _; rfl
  | succ m ih =>
    intro hm
    show pcnt g' m + _ = pcnt g m + _
    rw [ih (by omega), h (350 + m) (by omega) (by omega)]
theorem SIM.skew {σ μ : Sg} {a : Nat} (h : SIM σ μ) (ha : a ≤ 40) : SIM (s2 σ 2 3 (nI a)) (s2 μ 25 3 (nI a)) := by
  obtain ⟨⟨⟨⟨d0, d1, d2, d3⟩, dc, dt, ds, da⟩, ⟨m1, m2, m3, m4, m5, m6⟩, ⟨n0, n1, n2, n3, n4⟩, ⟨q1, q2⟩, hs, ⟨c1, c2, c, c3, c4, c5, c6, c7⟩⟩, ht⟩ := h
  have e : ∀ i, i ≠ 3 → s2 μ 25 3 (nI a) 25 i = μ 25 i := fun i hi => s2_n hi
  have e2 : ∀ i, 3 < i → s2 μ 25 3 (nI a) 25 i = μ 25 i := fun i hi => s2_n (by omega)
  refine ⟨⟨⟨⟨d0, d1, d2, ?_⟩, dc, dt, fun k hk => ?_, fun p hp => ?_⟩, ⟨m1, m2, m3, m4, m5, fun r hr => ?_⟩, ⟨n0, n1, n2, ⟨a, ha, ?_⟩, n4⟩, ⟨q1, fun m hm em => ?_⟩, hs, ⟨c1, c2, c, c3, c4, c5, c6, fun b hb => ?_⟩⟩, ht⟩
  · rw [s2_e, s2_e]
  · rw [e2 _ (by omega)]; exact ds k hk
  · rw [e2 _ (by omega)]; exact da p hp
  · rw [e2 _ (by omega)]; exact m6 r hr
  · rw [s2_e]
  · obtain ⟨q3, q4⟩ := q2 m hm em
    refine ⟨?_, fun i hi => ?_⟩
    · rw [pcnt_cong (fun i h1 h2 => e2 i (by omega)) m hm]; exact q3
    · rw [e2 _ (by omega), e2 _ (by omega), e2 _ (by omega), e2 _ (by omega), e2 _ (by omega)]; exact q4 i hi
  · rw [e2 _ (by omega)]; exact c7 b hb
