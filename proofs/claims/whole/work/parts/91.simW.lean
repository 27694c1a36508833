/-! SAVING: what is copied -/
def AGR (d s : Sg) : Prop := ((d 2 0 = s 2 0 ∧ d 2 1 = s 2 1 ∧ d 2 2 = s 2 2 ∧ d 2 3 = s 2 3) ∧ (d 2 4 = s 2 4 ∧ d 2 5 = s 2 5 ∧ d 2 10 = s 2 10) ∧ (d 2 6 = s 2 6 ∧ d 2 7 = s 2 7 ∧ d 2 8 = s 2 8 ∧ d 2 9 = s 2 9)) ∧ (∀ k, k < 4 → d 3 k = s 3 k) ∧ (∀ p, p < 576 → d 4 p = s 4 p) ∧ (d 5 0 = s 5 0 ∧ d 5 1 = s 5 1) ∧ (d 7 0 = s 7 0 ∧ d 7 1 = s 7 1 ∧ d 7 2 = s 7 2 ∧ d 7 3 = s 7 3) ∧ (d 8 0 = s 8 0 ∧ d 8 1 = s 8 1 ∧ ∀ i, i < 8 → d 9 i = s 9 i) ∧ ∀ m : Nat, m ≤ 80 → s 5 0 = nI m → ∀ i, i < m → d 40 i = s 40 i ∧ d 41 i = s 41 i ∧ d 42 i = s 42 i ∧ d 43 i = s 43 i ∧ d 44 i = s 44 i
theorem SIMg.agr {d s : Sg} {g : Nat → Int32} (h : SIMg s g) (a : AGR d s) : SIMg d g := by
  obtain ⟨⟨⟨d0, d1, d2, d3⟩, ⟨d4, d5, d10⟩, ⟨d6, d7, d8, d9⟩, ds, da⟩, hm, hu, ⟨q1, q2⟩, ⟨s0, s1, s2', s3, s4⟩, ⟨c1, c2, c, c3, c4, c5, c6, c7⟩⟩ := h
  obtain ⟨⟨⟨a0, a1, a2, a3⟩, ⟨a4, a5, a10⟩, ⟨a6, a7, a8, a9⟩⟩, as, aa, ⟨b0, b1⟩, ⟨e0, e1, e2, e3⟩, ⟨f0, f1, f9⟩, ar⟩ := a
  refine ⟨⟨⟨a0.trans d0, a1.trans d1, a2.trans d2, a3.trans d3⟩, ⟨a4.trans d4, a5.trans d5, a10.trans d10⟩, ⟨a6.trans d6, a7.trans d7, a8.trans d8, a9.trans d9⟩, fun k hk => (as k hk).trans (ds k hk), fun p hp => (aa p hp).trans (da p hp)⟩, hm, hu, ⟨b0.trans q1, fun m hm em => ?_⟩, ⟨e0.trans s0, e1.trans s1, e2.trans s2', e3.trans s3, s4⟩, ⟨f0.trans c1, c2, c, c3, f1.trans c4, fun i j hi hj => ?_, fun i hi => ?_, fun b hb => ⟨(c7 b hb).1, ?_⟩⟩⟩
  · obtain ⟨q3, q4⟩ := q2 m hm em
    refine ⟨b1.trans q3, fun i hi => ?_⟩
    obtain ⟨r0, r1, r2, r3, r4⟩ := ar m hm (q1.trans em) i hi
    rw [r0, r1, r2, r3, r4]
    exact q4 i hi
  · rw [f9 i (by omega), f9 j (by omega)]; exact c5 i j hi hj
  · rw [f9 i (by omega)]; exact c6 i hi
  · rw [(c7 b hb).2]
    exact ⟨fun ⟨i, hi, ei⟩ => ⟨i, hi, by rw [f9 i (by omega)]; exact ei⟩, fun ⟨i, hi, ei⟩ => ⟨i, hi, by rw [← f9 i (by omega)]; exact ei⟩⟩
theorem L6R_fr {τ : Sg} {c : Nat} (h5 : c ≠ 5) (hc : c < 40 ∨ 44 < c) : ∀ (n j : Nat) (σ1 : Sg), L_X6_copyFromR τ n j σ1 c = σ1 c := by
  intro n
  induction n with
  | zero => intro j σ1; rfl
  | succ n ih =>
    intro j σ1
    rw [L_X6_copyFromR]
    split
    · rw [s2_f h5, s2_f h5]
    · split
      · rw [s2_f h5, s2_f h5]
      · rw [ih]
        unfold F_rowR
        rw [s2_f (by omega), s2_f (by omega), s2_f (by omega), s2_f (by omega), s2_f (by omega)]
theorem L6R_rows {τ : Sg} {m : Nat} (hm : m ≤ 80) (em : τ 5 0 = nI m) : ∀ (n j : Nat) (σ1 : Sg), j + n = 81 → j ≤ m → (∀ i, i < j → σ1 40 i = τ 40 i ∧ σ1 41 i = τ 41 i ∧ σ1 42 i = τ 42 i ∧ σ1 43 i = τ 43 i ∧ σ1 44 i = τ 44 i) → (L_X6_copyFromR τ n j σ1 5 0 = τ 5 0 ∧ L_X6_copyFromR τ n j σ1 5 1 = τ 5 1) ∧ ∀ i, i < m → L_X6_copyFromR τ n j σ1 40 i = τ 40 i ∧ L_X6_copyFromR τ n j σ1 41 i = τ 41 i ∧ L_X6_copyFromR τ n j σ1 42 i = τ 42 i ∧ L_X6_copyFromR τ n j σ1 43 i = τ 43 i ∧ L_X6_copyFromR τ n j σ1 44 i = τ 44 i := by
  intro n
  induction n with
  | zero => intro j σ1 h1 h2; omega
  | succ n ih =>
    intro j σ1 h1 h2 h3
    rw [L_X6_copyFromR]
    by_cases c : τ 5 0 ≤ nI j
    · rw [if_pos c]
      rw [em] at c
      have := le_of_le rfl rfl (by omega) (by omega) c
      exact ⟨⟨rfl, rfl⟩, fun i hi => h3 i (by omega)⟩
    · rw [if_neg c]
      rw [em] at c
      have hj := gt_of_nle rfl rfl (by omega) (by omega) c
      rw [if_neg (by rw [show (80 : Int32) = nI 80 from rfl, nI_leI (by omega) (by omega)]; omega)]
      refine ih (j + 1) _ (by omega) (by omega) (fun i hi => ?_)
      unfold F_rowR
      show s2 σ1 40 j (τ 40 j) 40 i = _ ∧ s2 σ1 41 j (τ 41 j) 41 i = _ ∧ s2 σ1 42 j (τ 42 j) 42 i = _ ∧ s2 σ1 43 j (τ 43 j) 43 i = _ ∧ s2 σ1 44 j (τ 44 j) 44 i = _
      by_cases z : i = j
      · subst z; rw [s2_e, s2_e, s2_e, s2_e, s2_e]; exact ⟨rfl, rfl, rfl, rfl, rfl⟩
      · rw [s2_n z, s2_n z, s2_n z, s2_n z, s2_n z]; exact h3 i (by omega)
theorem cpy_lt {α : Type} {f g : Nat → α} {n k : Nat} (h : k < n) : va_cpy f g 0 0 n k = f k := by
  unfold va_cpy
  rw [if_pos (by omega), show 0 + (k - 0) = k by omega]
theorem copyR_agr {σ τ : Sg} {m : Nat} (hm : m ≤ 80) (em : τ 5 0 = nI m) : AGR (F_X8_copyFromR σ τ) τ := by
  have fr : ∀ c, c ≠ 5 → (c < 40 ∨ 44 < c) → F_X6_copyFromR (F_X1_copyFromR σ τ) τ c = F_X1_copyFromR σ τ c := fun c h5 hc => L6R_fr h5 hc 81 0 _
  obtain ⟨⟨r50, r51⟩, rr⟩ := L6R_rows hm em 81 0 (F_X1_copyFromR σ τ) (by omega) (by omega) (fun i hi => absurd hi (Nat.not_lt_zero _))
  have e2 : F_X8_copyFromR σ τ 2 = F_X1_copyFromR σ τ 2 := (show F_X8_copyFromR σ τ 2 = F_X6_copyFromR (F_X1_copyFromR σ τ) τ 2 from rfl).trans (fr 2 (by omega) (by omega))
  have e3 : F_X8_copyFromR σ τ 3 = F_X1_copyFromR σ τ 3 := (show F_X8_copyFromR σ τ 3 = F_X6_copyFromR (F_X1_copyFromR σ τ) τ 3 from rfl).trans (fr 3 (by omega) (by omega))
  have e4 : F_X8_copyFromR σ τ 4 = F_X1_copyFromR σ τ 4 := (show F_X8_copyFromR σ τ 4 = F_X6_copyFromR (F_X1_copyFromR σ τ) τ 4 from rfl).trans (fr 4 (by omega) (by omega))
  refine ⟨?_, fun k hk => ?_, fun p hp => ?_, ⟨r50, r51⟩, ⟨rfl, rfl, rfl, rfl⟩, ⟨rfl, rfl, fun i hi => ?_⟩, fun m' hm' em' i hi => ?_⟩
  · rw [e2]; exact ⟨⟨rfl, rfl, rfl, rfl⟩, ⟨rfl, rfl, rfl⟩, rfl, rfl, rfl, rfl⟩
  · rw [e3]; exact cpy_lt hk
  · rw [e4]; exact cpy_lt hp
  · exact cpy_lt hi
  · have : m' = m := (nI_eq (by omega) (by omega)).mp (em'.symm.trans em)
    subst this
    exact rr i hi
theorem L6S_fr {σ : Sg} {c : Nat} (h5 : c ≠ 5) (hc : c < 40 ∨ 44 < c) : ∀ (n j : Nat) (τ1 : Sg), L_X6_copyFromS σ n j τ1 c = τ1 c := by
  intro n
  induction n with
  | zero => intro j τ1; rfl
  | succ n ih =>
    intro j τ1
    rw [L_X6_copyFromS]
    split
    · rw [s2_f h5, s2_f h5]
    · split
      · rw [s2_f h5, s2_f h5]
      · rw [ih]
        unfold F_rowS
        rw [s2_f (by omega), s2_f (by omega), s2_f (by omega), s2_f (by omega), s2_f (by omega)]
theorem L6S_rows {σ : Sg} {m : Nat} (hm : m ≤ 80) (em : σ 5 0 = nI m) : ∀ (n j : Nat) (τ1 : Sg), j + n = 81 → j ≤ m → (∀ i, i < j → τ1 40 i = σ 40 i ∧ τ1 41 i = σ 41 i ∧ τ1 42 i = σ 42 i ∧ τ1 43 i = σ 43 i ∧ τ1 44 i = σ 44 i) → (L_X6_copyFromS σ n j τ1 5 0 = σ 5 0 ∧ L_X6_copyFromS σ n j τ1 5 1 = σ 5 1) ∧ ∀ i, i < m → L_X6_copyFromS σ n j τ1 40 i = σ 40 i ∧ L_X6_copyFromS σ n j τ1 41 i = σ 41 i ∧ L_X6_copyFromS σ n j τ1 42 i = σ 42 i ∧ L_X6_copyFromS σ n j τ1 43 i = σ 43 i ∧ L_X6_copyFromS σ n j τ1 44 i = σ 44 i := by
  intro n
  induction n with
  | zero => intro j τ1 h1 h2; omega
  | succ n ih =>
    intro j τ1 h1 h2 h3
    rw [L_X6_copyFromS]
    by_cases c : σ 5 0 ≤ nI j
    · rw [if_pos c]
      rw [em] at c
      have := le_of_le rfl rfl (by omega) (by omega) c
      exact ⟨⟨rfl, rfl⟩, fun i hi => h3 i (by omega)⟩
    · rw [if_neg c]
      rw [em] at c
      have hj := gt_of_nle rfl rfl (by omega) (by omega) c
      rw [if_neg (by rw [show (80 : Int32) = nI 80 from rfl, nI_leI (by omega) (by omega)]; omega)]
      refine ih (j + 1) _ (by omega) (by omega) (fun i hi => ?_)
      unfold F_rowS
      show s2 τ1 40 j (σ 40 j) 40 i = _ ∧ s2 τ1 41 j (σ 41 j) 41 i = _ ∧ s2 τ1 42 j (σ 42 j) 42 i = _ ∧ s2 τ1 43 j (σ 43 j) 43 i = _ ∧ s2 τ1 44 j (σ 44 j) 44 i = _
      by_cases z : i = j
      · subst z; rw [s2_e, s2_e, s2_e, s2_e, s2_e]; exact ⟨rfl, rfl, rfl, rfl, rfl⟩
      · rw [s2_n z, s2_n z, s2_n z, s2_n z, s2_n z]; exact h3 i (by omega)
theorem copyS_agr {σ τ : Sg} {m : Nat} (hm : m ≤ 80) (em : σ 5 0 = nI m) : AGR (F_X8_copyFromS σ τ) σ := by
  have fr : ∀ c, c ≠ 5 → (c < 40 ∨ 44 < c) → F_X6_copyFromS σ (F_X1_copyFromS σ τ) c = F_X1_copyFromS σ τ c := fun c h5 hc => L6S_fr h5 hc 81 0 _
  obtain ⟨⟨r50, r51⟩, rr⟩ := L6S_rows hm em 81 0 (F_X1_copyFromS σ τ) (by omega) (by omega) (fun i hi => absurd hi (Nat.not_lt_zero _))
  have e2 : F_X8_copyFromS σ τ 2 = F_X1_copyFromS σ τ 2 := (show F_X8_copyFromS σ τ 2 = F_X6_copyFromS σ (F_X1_copyFromS σ τ) 2 from rfl).trans (fr 2 (by omega) (by omega))
  have e3 : F_X8_copyFromS σ τ 3 = F_X1_copyFromS σ τ 3 := (show F_X8_copyFromS σ τ 3 = F_X6_copyFromS σ (F_X1_copyFromS σ τ) 3 from rfl).trans (fr 3 (by omega) (by omega))
  have e4 : F_X8_copyFromS σ τ 4 = F_X1_copyFromS σ τ 4 := (show F_X8_copyFromS σ τ 4 = F_X6_copyFromS σ (F_X1_copyFromS σ τ) 4 from rfl).trans (fr 4 (by omega) (by omega))
  refine ⟨?_, fun k hk => ?_, fun p hp => ?_, ⟨r50, r51⟩, ⟨rfl, rfl, rfl, rfl⟩, ⟨rfl, rfl, fun i hi => ?_⟩, fun m' hm' em' i hi => ?_⟩
  · rw [e2]; exact ⟨⟨rfl, rfl, rfl, rfl⟩, ⟨rfl, rfl, rfl⟩, rfl, rfl, rfl, rfl⟩
  · rw [e3]; exact cpy_lt hk
  · rw [e4]; exact cpy_lt hp
  · exact cpy_lt hi
  · have : m' = m := (nI_eq (by omega) (by omega)).mp (em'.symm.trans em)
    subst this
    exact rr i hi
/-- the reference's copies -/
theorem save_L {μ : Sg} : ∀ (n j : Nat) (μ1 : Sg), j + n = 1701 → j ≤ 1700 → (∀ i, i < j → μ1 26 i = μ1 25 i) → (∀ i, i < 1700 → L_X10_save_12 μ n (nI j) μ1 26 i = μ1 25 i) ∧ ∀ c, c ≠ 26 → L_X10_save_12 μ n (nI j) μ1 c = μ1 c := by
  intro n
  induction n with
  | zero => intro j μ1 h1 h2; omega
  | succ n ih =>
    intro j μ1 h1 h2 h3
    rw [L_X10_save_12]
    by_cases c : (1700 : Int32) ≤ nI j
    · rw [if_pos c]
      have := le_of_le (x := 1700) (a := 1700) rfl rfl (by omega) (by omega) c
      exact ⟨fun i hi => h3 i (by omega), fun _ _ => rfl⟩
    · rw [if_neg c]
      have hj := gt_of_nle (x := 1700) (a := 1700) rfl rfl (by omega) (by omega) c
      rw [nI_clamp (by omega), nI_1 j]
      obtain ⟨a, b⟩ := ih (j + 1) (s2 μ1 26 j (μ1 25 j)) (by omega) (by omega) (fun i hi => by
        show s2 μ1 26 j (μ1 25 j) 26 i = μ1 25 i
        by_cases z : i = j
        · subst z; rw [s2_e]
        · rw [s2_n z]; exact h3 i (by omega))
      exact ⟨a, fun c hc => (b c hc).trans (s2_f hc)⟩
theorem restore_L {μ : Sg} : ∀ (n j : Nat) (μ1 : Sg), j + n = 1701 → j ≤ 1700 → (∀ i, i < j → μ1 25 i = μ1 26 i) → ((∀ i, i < 1700 → (L_X10_restore_20 μ n (nI j) μ1).2 25 i = μ1 26 i) ∧ (∀ c, c ≠ 25 → (L_X10_restore_20 μ n (nI j) μ1).2 c = μ1 c) ∧ (L_X10_restore_20 μ n (nI j) μ1).1 = (L_X10_restore_20 μ n (nI j) μ1).2 25 8) := by
  intro n
  induction n with
  | zero => intro j μ1 h1 h2; omega
  | succ n ih =>
    intro j μ1 h1 h2 h3
    rw [L_X10_restore_20]
    by_cases c : (1700 : Int32) ≤ nI j
    · rw [if_pos c]
      have := le_of_le (x := 1700) (a := 1700) rfl rfl (by omega) (by omega) c
      exact ⟨fun i hi => h3 i (by omega), fun _ _ => rfl, rfl⟩
    · rw [if_neg c]
      have hj := gt_of_nle (x := 1700) (a := 1700) rfl rfl (by omega) (by omega) c
      rw [nI_clamp (by omega), nI_1 j]
      obtain ⟨a, b, d⟩ := ih (j + 1) (s2 μ1 25 j (μ1 26 j)) (by omega) (by omega) (fun i hi => by
        show s2 μ1 25 j (μ1 26 j) 25 i = μ1 26 i
        by_cases z : i = j
        · subst z; rw [s2_e]
        · rw [s2_n z]; exact h3 i (by omega))
      exact ⟨a, fun c hc => (b c hc).trans (s2_f hc), d⟩
theorem pcnt_80 {g g' : Nat → Int32} (h : ∀ i, i < 1700 → g' i = g i) {m : Nat} (hm : m ≤ 80) : pcnt g' m = pcnt g m := pcnt_ext (fun i hi => h _ (by omega))
theorem SIMg.ref {σ : Sg} {g g' : Nat → Int32} (h : SIMg σ g) (e : ∀ i, i < 1700 → g' i = g i) : SIMg σ g' := by
  obtain ⟨⟨d1, d2, d3, ds, da⟩, ⟨m1, m2, m3, m4, m5, m6⟩, ⟨n0, n1, n2, n3, n4⟩, ⟨q1, q2⟩, hs, ⟨c1, c2, c, c3, c4, c5, c6, c7⟩⟩ := h
  refine ⟨⟨?_, ?_, ?_, fun k hk => ?_, fun p hp => ?_⟩, ⟨?_, ?_, ?_, ?_, ?_, fun r hr => ?_⟩, ⟨?_, ?_, ?_, ?_, ?_⟩, ⟨?_, fun m hm em => ?_⟩, ?_, ⟨?_, ?_, c, c3, c4, c5, c6, fun b hb => ?_⟩⟩
  · rw [e 0 (by omega), e 1 (by omega), e 2 (by omega), e 3 (by omega)]; exact d1
  · rw [e 8 (by omega), e 9 (by omega), e 11 (by omega)]; exact d2
  · rw [e 13 (by omega), e 14 (by omega), e 15 (by omega), e 16 (by omega)]; exact d3
  · rw [e _ (by omega)]; exact ds k hk
  · rw [e _ (by omega)]; exact da p hp
  · rw [e _ (by omega)]; exact m1
  · rw [e _ (by omega)]; exact m2
  · rw [e _ (by omega)]; exact m3
  · rw [e _ (by omega)]; exact m4
  · rw [e _ (by omega)]; exact m5
  · rw [e _ (by omega)]; exact m6 r hr
  · rw [e _ (by omega)]; exact n0
  · rw [e _ (by omega)]; exact n1
  · rw [e _ (by omega)]; exact n2
  · rw [e _ (by omega)]; exact n3
  · rw [e _ (by omega)]; exact n4
  · rw [e _ (by omega)]; exact q1
  · rw [e _ (by omega)] at em
    obtain ⟨q3, q4⟩ := q2 m hm em
    refine ⟨by rw [pcnt_80 e hm]; exact q3, fun i hi => ?_⟩
    rw [e _ (by omega), e _ (by omega), e _ (by omega), e _ (by omega), e _ (by omega)]
    exact q4 i hi
  · unfold RSc; rw [e 4 (by omega), e 10 (by omega), e 5 (by omega), e 6 (by omega)]; exact hs
  · rw [e _ (by omega)]; exact c1
  · rw [e _ (by omega)]; exact c2
  · rw [e _ (by omega)]; exact c7 b hb
theorem AR.ref {g g' : Nat → Int32} (h : AR g) (e : ∀ i, i < 1700 → g' i = g i) : AR g' := h.same (e _ (by omega)) (e _ (by omega)) (e _ (by omega)) (e _ (by omega)) (Int.le_of_eq (congrArg _ (e 8 (by omega)).symm)) (fun i _ hi => e i (by omega)) (fun m hm => Nat.le_of_eq (pcnt_80 e hm))
/-- the saved state: τ in the class, cell 26 of the reference -/
def SAV (τ μ : Sg) : Prop := SIMg τ (μ 26) ∧ AR (μ 26)
theorem S_save {σ μ τ : Sg} (h : SIM σ μ) (ha : AR (μ 25)) : SIM σ (F_X10_save μ) ∧ AR (F_X10_save μ 25) ∧ SAV (F_X8_copyFromS σ τ) (F_X10_save μ) ∧ F_X10_save μ 24 0 = 1 := by
  obtain ⟨m, hm, em⟩ := h.1.2.1.2.1
  obtain ⟨a, b⟩ := save_L (μ := μ) 1701 0 (s2 (s2 μ 24 1 0) 24 0 1) (by omega) (by omega) (fun i hi => absurd hi (Nat.not_lt_zero _))
  have e25 : F_X10_save μ 25 = μ 25 := (b 25 (by omega)).trans rfl
  have e24 : F_X10_save μ 24 = s2 (s2 μ 24 1 0) 24 0 1 24 := b 24 (by omega)
  have e27 : F_X10_save μ 27 = μ 27 := (b 27 (by omega)).trans rfl
  refine ⟨⟨by rw [e25]; exact h.1, ?_⟩, by rw [e25]; exact ha, ⟨?_, ?_⟩, by rw [e24]; rfl⟩
  · unfold RTx; rw [e24, e27]; exact h.2
  · exact (h.1.agr (copyS_agr hm (h.1.2.2.2.1.1.trans em))).ref a
  · exact ha.ref a
theorem S_restore {σ μ τ : Sg} (h : SIM σ μ) (hs : SAV τ μ) (h0 : μ 24 0 = 1) : (F_X10_restore μ).2 24 1 = 0 ∧ F_X8_copyFromR σ τ 2 4 = (F_X10_restore μ).1 ∧ SIM (F_X8_copyFromR σ τ) (F_X10_restore μ).2 ∧ AR ((F_X10_restore μ).2 25) ∧ (F_X10_restore μ).2 26 = μ 26 ∧ (F_X10_restore μ).2 24 0 = 1 := by
  obtain ⟨m, hm, em⟩ := hs.1.2.1.2.1
  obtain ⟨a, b, d⟩ := restore_L (μ := μ) 1701 0 (s2 μ 24 1 0) (by omega) (by omega) (fun i hi => absurd hi (Nat.not_lt_zero _))
  have hg := copyR_agr (σ := σ) (τ := τ) hm (hs.1.2.2.2.1.1.trans em)
  have e1 : F_X10_restore μ = L_X10_restore_20 μ 1701 (nI 0) (s2 μ 24 1 0) := by unfold F_X10_restore; rw [if_neg (by rw [h0]; decide)]; rfl
  rw [e1]
  have hS : SIMg (F_X8_copyFromR σ τ) ((L_X10_restore_20 μ 1701 (nI 0) (s2 μ 24 1 0)).2 25) := (hs.1.agr hg).ref a
  refine ⟨by rw [b 24 (by omega)]; rfl, by rw [d]; exact hS.1.2.1.1, ⟨hS, ?_⟩, hs.2.ref a, b 26 (by omega), by rw [b 24 (by omega)]; exact h0⟩
  unfold RTx
  rw [b 24 (by omega), b 27 (by omega)]
  have o19 : F_X8_copyFromR σ τ 19 = σ 19 := (show F_X8_copyFromR σ τ 19 = F_X6_copyFromR (F_X1_copyFromR σ τ) τ 19 from rfl).trans (L6R_fr (by omega) (by omega) 81 0 _)
  have o23 : F_X8_copyFromR σ τ 23 = σ 23 := (show F_X8_copyFromR σ τ 23 = F_X6_copyFromR (F_X1_copyFromR σ τ) τ 23 from rfl).trans (L6R_fr (by omega) (by omega) 81 0 _)
  rw [o19, o23]
  exact h.2
