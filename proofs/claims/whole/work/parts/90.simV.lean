theorem place_c {μ μ' : Sg} {b : Int32} (hm : ∃ m : Nat, m ≤ 4 ∧ μ 25 11 = nI m) (h11 : μ' 25 11 = μ 25 11) (h : ∀ i, i < 4 → μ' 25 (20 + i) = μ 25 (20 + i)) : F_X10_place μ' b = F_X10_place μ b := by
  obtain ⟨m, hm4, em⟩ := hm
  have key : ∀ n j : Nat, j + n = 5 → j ≤ 4 → L_X10_place_2 μ' b n (nI j) = L_X10_place_2 μ b n (nI j) := by
    intro n
    induction n with
    | zero => intro j h1 h2; omega
    | succ n ih =>
      intro j h1 h2
      rw [L_X10_place_2, L_X10_place_2, h11, em]
      by_cases c1 : nI m ≤ nI j
      · rw [if_pos c1, if_pos c1]
      · have hj := gt_of_nle rfl rfl (by omega) (by omega) c1
        rw [if_neg c1, if_neg c1, show ((20 : Int32) + nI j).toNatClampNeg = 20 + j from tnA (c := 20) (by omega), h j (by omega), nI_1 j, ih (j + 1) (by omega) (by omega)]
  exact key 5 0 (by omega) (by omega)
theorem dcnt_ex {g : Nat → Int32} : ∀ n, 0 < dcnt g n → ∃ j, j < n ∧ g (510 + j) = 1 := by
  intro n
  induction n with
  | zero => intro h; exact absurd h (Nat.lt_irrefl 0)
  | succ n ih =>
    intro h
    by_cases q : g (510 + n) = 1
    · exact ⟨n, by omega, q⟩
    · unfold dcnt at h; rw [if_neg q] at h
      obtain ⟨j, a, b⟩ := ih (by omega)
      exact ⟨j, by omega, b⟩
theorem min_ex {P : Nat → Prop} {k : Nat → Nat} : ∀ K : Nat, (∃ b, P b ∧ k b ≤ K) → ∃ b0, P b0 ∧ ∀ b, P b → k b0 ≤ k b := by
  intro K
  induction K with
  | zero =>
    intro ⟨b, h1, h2⟩
    exact ⟨b, h1, fun x _ => by omega⟩
  | succ K ih =>
    intro ⟨b, h1, h2⟩
    by_cases c : ∃ b, P b ∧ k b ≤ K
    · exact ih c
    · refine ⟨b, h1, fun x hx => ?_⟩
      by_cases z : k x ≤ K
      · exact absurd ⟨x, hx, z⟩ c
      · omega
def kNf (pN : Nat → Nat) (mid : Nat) (b : Nat) : Nat := if mid ≤ pN b then pN b else pN b + 576
def FI (c : Nat) (bl pN : Nat → Nat) (mid L : Nat) (σ1 μ1 μh : Sg) : Prop :=
  SIM σ1 μh ∧ AR (μh 25) ∧ σ1 8 1 = nI c ∧ (∀ i, i < c → σ1 9 i = nI (bl i) ∧ bl i ≤ 571) ∧ (∀ x, x ≠ 25 → μ1 x = μh x) ∧ (∀ i, i < 510 ∨ 1082 ≤ i → μ1 25 i = μh 25 i) ∧ (∀ b, b ≤ 571 → F_X10_place μh (nI b) = nI (pN b) ∧ pN b ≤ 575) ∧ ∀ b, b ≤ 571 → (μ1 25 (510 + b) = 1 ↔ (∃ i, i < c ∧ bl i = b) ∧ L ≤ kNf pN mid b) ∧ (μ1 25 (510 + b) = 0 ∨ μ1 25 (510 + b) = 1)
theorem FI.inj {c : Nat} {bl pN : Nat → Nat} {mid L : Nat} {σ1 μ1 μh : Sg} (h : FI c bl pN mid L σ1 μ1 μh) : ∀ a b, a ≤ 571 → b ≤ 571 → pN a = pN b → a = b := fun a b ha hb e => by
  obtain ⟨h1, -, -, -, -, -, hp, -⟩ := h
  refine place_inj (μ := μh) h1.1.2.1.1 ha hb ?_
  rw [(hp a ha).1, (hp b hb).1, e]
theorem FI.injk {c : Nat} {bl pN : Nat → Nat} {mid L : Nat} {σ1 μ1 μh : Sg} (h : FI c bl pN mid L σ1 μ1 μh) : ∀ a b, a ≤ 571 → b ≤ 571 → kNf pN mid a = kNf pN mid b → a = b := fun a b ha hb e => by
  have hi := h.inj a b ha hb
  obtain ⟨h1, -, -, -, -, -, hp, -⟩ := h
  have p1 := (hp a ha).2
  have p2 := (hp b hb).2
  unfold kNf at e
  by_cases c1 : mid ≤ pN a
  · rw [if_pos c1] at e
    by_cases c2 : mid ≤ pN b
    · rw [if_pos c2] at e; exact hi e
    · rw [if_neg c2] at e; omega
  · rw [if_neg c1] at e
    by_cases c2 : mid ≤ pN b
    · rw [if_pos c2] at e; omega
    · rw [if_neg c2] at e; exact hi (by omega)
theorem FI.pl {c : Nat} {bl pN : Nat → Nat} {mid L : Nat} {σ1 μ1 μh : Sg} (h : FI c bl pN mid L σ1 μ1 μh) : ∀ b, b ≤ 571 → F_X10_place μ1 (nI b) = nI (pN b) ∧ pN b ≤ 575 := fun b hb => by
  obtain ⟨h1, -, -, -, -, h25, hp, -⟩ := h
  rw [place_c (μ := μh) h1.1.2.1.1 (h25 11 (by omega)) (fun i hi => h25 _ (by omega))]
  exact hp b hb
theorem FI.least {c : Nat} {bl pN : Nat → Nat} {mid L b0 arm : Nat} {σ1 μ1 μh : Sg} {ky : Int32} (h : FI c bl pN mid L σ1 μ1 μh) (hc : c ≤ 8) (hmid : mid ≤ 575) (harm : arm ≤ 63) (efst : F_X10_firstOf (nI arm) = nI mid) (hky : ky.toInt = (L : Int) - 1) (hb0 : b0 ≤ 571) (hf : μ1 25 (510 + b0) = 1) (hmin : ∀ b, b ≤ 571 → μ1 25 (510 + b) = 1 → kNf pN mid b0 ≤ kNf pN mid b) : F_X0_leastKeyAbove σ1 ky (nI arm) = nI (kNf pN mid b0) := by
  obtain ⟨h1, h2, h3, h4, h5, h6, h7, h8⟩ := h
  have hk : ∀ i, i < c → keyC σ1 (nI arm) i = nI (kNf pN mid (bl i)) ∧ kNf pN mid (bl i) ≤ 1151 := fun i hi => by
    obtain ⟨e9, hbl⟩ := h4 i hi
    obtain ⟨ep, hp⟩ := h7 (bl i) hbl
    have epc : F_X1_placeOfBlock σ1 (nI (bl i)) = nI (pN (bl i)) := (place_eq h1.1.1 h1.1.2.1.1).trans ep
    have gm : (F_X2_cylinderOfPlace (nI (pN (bl i))) < nI arm) = (nI (pN (bl i)) < F_X10_firstOf (nI arm)) := geoM_ ⟨arm, by omega⟩ ⟨pN (bl i), by omega⟩
    unfold keyC kNf
    rw [e9, epc]
    by_cases z : mid ≤ pN (bl i)
    · rw [if_pos z, if_neg (by rw [gm, efst, nI_ltI (by omega) (by omega)]; omega)]
      exact ⟨rfl, by omega⟩
    · rw [if_neg z, if_pos (by rw [gm, efst, nI_ltI (by omega) (by omega)]; omega)]
      exact ⟨nI_add _ 576, by omega⟩
  obtain ⟨⟨i0, hi0, ei0⟩, hL⟩ := (h8 b0 hb0).1.mp hf
  have hp0 := (h7 b0 hb0).2
  have hKm : kNf pN mid b0 ≤ 1151 := by unfold kNf; split <;> omega
  refine lk_L (c := c) (L := L) (K := kNf pN mid b0) (kk := fun i => kNf pN mid (bl i)) hc h3 hky hk (fun i hi hLi => ?_) hL hKm 9 0 1000000000 (by omega) (by omega) (by omega) (by omega) (Or.inr ⟨i0, by omega, hi0, by show kNf pN mid (bl i0) = _; rw [ei0]⟩)
  exact hmin (bl i) (h4 i hi).2 ((h8 (bl i) (h4 i hi).2).1.mpr ⟨⟨i, hi, rfl⟩, hLi⟩)
theorem FI.next {c : Nat} {bl pN : Nat → Nat} {mid L b0 k : Nat} {σ1 μ1 μh : Sg} (h : FI c bl pN mid L σ1 μ1 μh) (hk : k ≤ 199000) (ek : μ1 25 8 = nI k) (hb0 : b0 ≤ 571) (hf : μ1 25 (510 + b0) = 1) (hmin : ∀ b, b ≤ 571 → μ1 25 (510 + b) = 1 → kNf pN mid b0 ≤ kNf pN mid b) :
    FI c bl pN mid (kNf pN mid b0 + 1) (F_X1_access σ1 (nI (pN b0))) (s2 (F_X10_accesses μ1 (nI (pN b0))) 25 (510 + b0) 0) (F_X10_accesses μh (nI (pN b0))) ∧ dcnt (s2 (F_X10_accesses μ1 (nI (pN b0))) 25 (510 + b0) 0 25) 572 + 1 = dcnt (μ1 25) 572 ∧ (∃ d : Nat, d ≤ 916 ∧ s2 (F_X10_accesses μ1 (nI (pN b0))) 25 (510 + b0) 0 25 8 = nI (k + d)) ∧ s2 (F_X10_accesses μ1 (nI (pN b0))) 25 (510 + b0) 0 24 1 = μ1 24 1 := by
  have hin := h.injk
  obtain ⟨h1, h2, h3, h4, h5, h6, h7, h8⟩ := h
  have hp0 := (h7 b0 hb0).2
  have ekh : μh 25 8 = nI k := (h6 8 (by omega)).symm.trans ek
  obtain ⟨aS, d, hd, ad⟩ := h1.acc ⟨pN b0, hp0, rfl⟩ ⟨k, hk, ekh⟩
  have hcg := acc_cong (μ := μh) (μ' := μ1) hp0 h6
  have afr : ∀ i, i ≠ 8 → i ≠ 9 → (i < 13 ∨ 16 < i) → i < 1100 → F_X10_accesses μh (nI (pN b0)) 25 i = μh 25 i := fun i h1 h2 h3 h4 => acc_fr hp0 h1 h2 h3 h4
  have afr1 : ∀ i, i ≠ 8 → i ≠ 9 → (i < 13 ∨ 16 < i) → i < 1100 → F_X10_accesses μ1 (nI (pN b0)) 25 i = μ1 25 i := fun i h1 h2 h3 h4 => acc_fr hp0 h1 h2 h3 h4
  have e89 : ∀ i, F_X1_access σ1 (nI (pN b0)) 8 i = σ1 8 i ∧ F_X1_access σ1 (nI (pN b0)) 9 i = σ1 9 i := fun i => by rw [access_form h1 hp0]; exact ⟨rfl, rfl⟩
  obtain ⟨⟨i0, hi0, ei0⟩, hL⟩ := (h8 b0 hb0).1.mp hf
  refine ⟨⟨aS, ?_, (e89 1).1.trans h3, fun i hi => ⟨(e89 i).2.trans (h4 i hi).1, (h4 i hi).2⟩, fun x hx => ?_, fun i hi => ?_, fun b hb => ?_, fun b hb => ?_⟩, ?_, ⟨d, hd, ?_⟩, ?_⟩
  · refine h2.same (afr 5 (by omega) (by omega) (by omega) (by omega)) (afr 6 (by omega) (by omega) (by omega) (by omega)) (afr 4 (by omega) (by omega) (by omega) (by omega)) (afr 12 (by omega) (by omega) (by omega) (by omega)) ?_ (fun i h1 h2 => afr i (by omega) (by omega) (by omega) (by omega)) (fun m hm => ?_)
    · rw [ad, ekh, nI_add, nI_toInt (by omega), nI_toInt (by omega)]; omega
    · rw [pcnt_ext (g := μh 25) (fun i hi => afr _ (by omega) (by omega) (by omega) (by omega))]; exact Nat.le_refl _
  · rw [s2_f hx, acc_o hx, acc_o hx]; exact h5 x hx
  · rw [s2_n (by omega)]; exact hcg i hi
  · rw [place_c (μ := μh) (μ' := F_X10_accesses μh (nI (pN b0))) h1.1.2.1.1 (afr 11 (by omega) (by omega) (by omega) (by omega)) (fun i hi => afr _ (by omega) (by omega) (by omega) (by omega))]
    exact h7 b hb
  · by_cases z : b = b0
    · subst z
      rw [s2_e]
      refine ⟨⟨fun q => absurd q (by decide), fun q => ?_⟩, Or.inl rfl⟩
      have := q.2
      omega
    · rw [s2_n (by omega), afr1 _ (by omega) (by omega) (by omega) (by omega)]
      refine ⟨⟨fun q => ?_, fun q => ?_⟩, (h8 b hb).2⟩
      · have w := (h8 b hb).1.mp q
        have w2 := hmin b hb q
        have w3 : kNf pN mid b0 ≠ kNf pN mid b := fun e => z (hin b0 b hb0 hb e).symm
        exact ⟨w.1, by omega⟩
      · exact (h8 b hb).1.mpr ⟨q.1, by have := q.2; omega⟩
  · exact dcnt_clear hf (by rw [s2_e]; decide) 572 (by omega) (fun x hx hx2 => by rw [s2_n (by omega), afr1 _ (by omega) (by omega) (by omega) (by omega)])
  · rw [s2_n (by omega), hcg 8 (by omega), ad, ekh, nI_add]
  · show F_X10_accesses μ1 (nI (pN b0)) 24 1 = _
    rw [acc_o (by decide)]
/-- one access of both flushes -/
theorem FI.cstep {c : Nat} {bl pN : Nat → Nat} {mid L b0 arm n i : Nat} {σ σ1 μ1 μh : Sg} {ky : Int32} (h : FI c bl pN mid L σ1 μ1 μh) (hc : c ≤ 8) (hi : i < c) (hmid : mid ≤ 575) (harm : arm ≤ 63) (e5 : σ 2 5 = nI arm) (efst : F_X10_firstOf (nI arm) = nI mid) (hky : ky.toInt = (L : Int) - 1) (hb0 : b0 ≤ 571) (hf : μ1 25 (510 + b0) = 1) (hmin : ∀ b, b ≤ 571 → μ1 25 (510 + b) = 1 → kNf pN mid b0 ≤ kNf pN mid b) : L_X0_writeAll_10 σ (n + 1) ky (nI i) σ1 = L_X0_writeAll_10 σ n (nI (kNf pN mid b0)) (nI (i + 1)) (F_X1_access σ1 (nI (pN b0))) := by
  have hl := h.least hc hmid harm efst hky hb0 hf hmin
  have hp0 := (h.pl b0 hb0).2
  rw [L_X0_writeAll_10, h.2.2.1, if_neg (by rw [nI_leI (by omega) (by omega)]; omega), if_neg (by rw [show (8 : Int32) = nI 8 from rfl, nI_leI (by omega) (by omega)]; omega), e5, hl, nI_1 i]
  unfold kNf
  by_cases z : mid ≤ pN b0
  · rw [if_pos z, if_pos (show nI (pN b0) < 576 by rw [show (576 : Int32) = nI 576 from rfl, nI_ltI (by omega) (by omega)]; omega)]
  · rw [if_neg z, if_neg (show ¬ nI (pN b0 + 576) < 576 by rw [show (576 : Int32) = nI 576 from rfl, nI_ltI (by omega) (by omega)]; omega), show nI (pN b0 + 576) - 576 = nI (pN b0) by rw [← nI_add, show nI 576 = (576 : Int32) from rfl]; grind]
/-- nothing is dirty any more -/
theorem FI.stop {c : Nat} {bl pN : Nat → Nat} {mid L n i : Nat} {σ σ1 μ1 μh : Sg} {ky : Int32} (h : FI c bl pN mid L σ1 μ1 μh) (hc : c ≤ 8) (hi : i = c) (h0 : dcnt (μ1 25) 572 = 0) : SIM (L_X0_writeAll_10 σ (n + 1) ky (nI i) σ1) μ1 ∧ AR (μ1 25) := by
  obtain ⟨h1, h2, h3, h4, h5, h6, h7, h8⟩ := h
  have nf : ∀ b, b ≤ 571 → μ1 25 (510 + b) = 0 := fun b hb => (h8 b hb).2.resolve_right (fun q => by
    have : ∀ n, b < n → n ≤ 572 → 0 < dcnt (μ1 25) n := by
      intro n
      induction n with
      | zero => intro z; omega
      | succ n ih =>
        intro z zn
        unfold dcnt
        by_cases e : b = n
        · rw [← e, if_pos q]; omega
        · have := ih (by omega) (by omega)
          omega
    have := this 572 (by omega) (by omega)
    omega)
  obtain ⟨m, hm, em⟩ := h1.1.2.1.2.1
  obtain ⟨q3, q4⟩ := h1.1.2.2.2.1.2 m hm em
  have g : ∀ i, i < 510 → μ1 25 i = μh 25 i := fun i hi => h6 i (Or.inl hi)
  rw [L_X0_writeAll_10, h3, if_pos (show nI c ≤ nI i by rw [hi]; exact Int32.le_refl _)]
  refine ⟨SIM.req (m := m) h1 hm ((g 12 (by omega)).trans em) (fun j hj => h6 j (by omega)) rfl rfl rfl rfl (h1.1.2.2.2.1.1.trans em) ?_ (fun j hj => ?_) (fun r hr => ?_) ⟨?_, ?_, 0, by omega, rfl, fun i j hi => by omega, fun i hi => by omega, fun b hb => ?_⟩ ?_, ?_⟩
  · show σ1 5 1 = _
    rw [q3, pcnt_ext (g := μh 25) (fun j hj => g _ (by omega))]
  · rw [g _ (by omega), g _ (by omega), g _ (by omega), g _ (by omega), g _ (by omega)]
    exact q4 j hj
  · rw [g _ (by omega)]; exact h1.1.2.1.2.2.2.2.2 r hr
  · rw [g 7 (by omega)]; exact h1.1.2.2.2.2.2.1
  · rw [g 7 (by omega)]; exact h1.1.2.2.2.2.2.2.1
  · rw [nf b hb]
    exact ⟨Or.inl rfl, fun q => absurd q (by decide), fun ⟨i, hi, _⟩ => by omega⟩
  · unfold RTx
    rw [h5 24 (by omega), h5 27 (by omega)]
    exact h1.2
  · refine h2.same (g 5 (by omega)) (g 6 (by omega)) (g 4 (by omega)) (g 12 (by omega)) (Int.le_of_eq (congrArg _ (g 8 (by omega)).symm)) (fun i _ h => g i (by omega)) (fun n hn => ?_)
    rw [pcnt_ext (g := μh 25) (fun j hj => g _ (by omega))]
    exact Nat.le_refl _
def FRes (bg t1 : Int32) (σ' : Sg) (r : Int32 × Sg) : Prop := SIM σ' r.2 ∧ AR (r.2 25) ∧ r.1 = r.2 25 8 - bg ∧ r.2 24 1 = t1
theorem FI.some {c : Nat} {bl pN : Nat → Nat} {mid L r : Nat} {σ1 μ1 μh : Sg} (h : FI c bl pN mid L σ1 μ1 μh) (hd : dcnt (μ1 25) 572 = r + 1) : ∃ b0, b0 ≤ 571 ∧ μ1 25 (510 + b0) = 1 ∧ ∀ b, b ≤ 571 → μ1 25 (510 + b) = 1 → kNf pN mid b0 ≤ kNf pN mid b := by
  obtain ⟨b, hb, fb⟩ := dcnt_ex (g := μ1 25) 572 (by omega)
  obtain ⟨b0, ⟨p1, p2⟩, p3⟩ := min_ex (P := fun b => b ≤ 571 ∧ μ1 25 (510 + b) = 1) (k := kNf pN mid) (kNf pN mid b) ⟨b, ⟨by omega, fb⟩, Nat.le_refl _⟩
  exact ⟨b0, p1, p2, fun x hx fx => p3 x ⟨hx, fx⟩⟩
section
variable {c : Nat} {bl pN : Nat → Nat} {mid arm : Nat} {σ μ : Sg} {bg : Int32}
theorem flush_2 (hc : c ≤ 8) (hmid : mid ≤ 575) (harm : arm ≤ 63) (e5 : σ 2 5 = nI arm) (efst : F_X10_firstOf (nI arm) = nI mid) : ∀ (r N n i L : Nat) (σ1 μ1 μh : Sg) (ky : Int32), i + r = c → r < N → i + n = 9 → dcnt (μ1 25) 572 = r → ky.toInt = (L : Int) - 1 → FI c bl pN mid L σ1 μ1 μh → (∀ b, b ≤ 571 → μ1 25 (510 + b) = 1 → pN b < mid) → (∃ k : Nat, k ≤ 100000 + 916 * i ∧ μ1 25 8 = nI k) →
    FRes bg (μ1 24 1) (L_X0_writeAll_10 σ n ky (nI i) σ1) (L_X10_flush_94 μ N bg (nI mid) (F_X10_dirtyFrom μ1 0 (nI mid)) μ1) := by
  intro r
  induction r with
  | zero =>
    intro N n i L σ1 μ1 μh ky h1 h2 h3 h4 h5 hF h6 h7
    obtain ⟨N, rfl⟩ : ∃ N', N = N' + 1 := ⟨N - 1, by omega⟩
    obtain ⟨n, rfl⟩ : ∃ n', n = n' + 1 := ⟨n - 1, by omega⟩
    obtain ⟨s1, s2'⟩ := hF.stop (σ := σ) (n := n) (ky := ky) hc (by omega) h4
    have hn : F_X10_dirtyFrom μ1 (nI 0) (nI mid) = -1 := df_none hF.pl (by omega) (by omega) (fun b hb q => by
      have : ∀ n, b < n → n ≤ 572 → 0 < dcnt (μ1 25) n := by
        intro n
        induction n with
        | zero => intro z; omega
        | succ n ih =>
          intro z zn
          unfold dcnt
          by_cases e : b = n
          · rw [← e, if_pos q.1]; omega
          · have := ih (by omega) (by omega)
            omega
      have := this 572 (by omega) (by omega)
      omega)
    rw [show nI 0 = (0 : Int32) from rfl] at hn
    rw [L_X10_flush_94, hn, if_pos (show (-1 : Int32) < 0 by decide)]
    exact ⟨s1, s2', rfl, rfl⟩
  | succ r ih =>
    intro N n i L σ1 μ1 μh ky h1 h2 h3 h4 h5 hF h6 h7
    obtain ⟨N, rfl⟩ : ∃ N', N = N' + 1 := ⟨N - 1, by omega⟩
    obtain ⟨n, rfl⟩ : ∃ n', n = n' + 1 := ⟨n - 1, by omega⟩
    obtain ⟨b0, hb0, f0, hmin⟩ := hF.some h4
    obtain ⟨k, hk, ek⟩ := h7
    have p0 := hF.pl b0 hb0
    obtain ⟨n1, n2, ⟨d, hd, n3⟩, n4⟩ := hF.next (by omega) ek hb0 f0 hmin
    rw [hF.cstep hc (by omega) hmid harm e5 efst h5 hb0 f0 hmin]
    have hlt := h6 b0 hb0 f0
    have hs : F_X10_dirtyFrom μ1 (nI 0) (nI mid) = nI b0 := df_some hF.pl hF.inj (by omega) (by omega) hb0 ⟨f0, by omega, hlt⟩ (fun b hb q => by
      have := hmin b hb q.1
      unfold kNf at this
      rw [if_neg (by omega), if_neg (by omega)] at this
      omega)
    rw [show nI 0 = (0 : Int32) from rfl] at hs
    rw [L_X10_flush_94, hs, if_neg (nI_nlt0 (by omega)), show ((510 : Int32) + nI b0).toNatClampNeg = 510 + b0 from tnA (c := 510) (by omega), p0.1]
    have hKm : kNf pN mid b0 ≤ 1151 := by unfold kNf; split <;> omega
    have := ih N n (i + 1) (kNf pN mid b0 + 1) _ _ _ (nI (kNf pN mid b0)) (by omega) (by omega) (by omega) (by omega) (by rw [nI_toInt (by omega)]; omega) n1 (fun b hb q => by
      by_cases z : b = b0
      · subst z; exact hlt
      · rw [s2_n (by omega), acc_fr p0.2 (by omega) (by omega) (by omega) (by omega)] at q
        exact h6 b hb q) ⟨k + d, by omega, n3⟩
    rw [n4] at this
    exact this
theorem flush_1 (hc : c ≤ 8) (hmid : mid ≤ 575) (harm : arm ≤ 63) (e5 : σ 2 5 = nI arm) (efst : F_X10_firstOf (nI arm) = nI mid) : ∀ (r N n i L : Nat) (σ1 μ1 μh : Sg) (ky : Int32), i + r = c → r < N → i + n = 9 → dcnt (μ1 25) 572 = r → ky.toInt = (L : Int) - 1 → FI c bl pN mid L σ1 μ1 μh → (∃ k : Nat, k ≤ 100000 + 916 * i ∧ μ1 25 8 = nI k) →
    FRes bg (μ1 24 1) (L_X0_writeAll_10 σ n ky (nI i) σ1) (L_X10_flush_51 μ N bg (nI mid) (F_X10_dirtyFrom μ1 (nI mid) 576) μ1) := by
  intro r
  induction r with
  | zero =>
    intro N n i L σ1 μ1 μh ky h1 h2 h3 h4 h5 hF h7
    obtain ⟨N, rfl⟩ : ∃ N', N = N' + 1 := ⟨N - 1, by omega⟩
    have nf : ∀ b, b ≤ 571 → ¬ μ1 25 (510 + b) = 1 := fun b hb q => by
      have : ∀ n, b < n → n ≤ 572 → 0 < dcnt (μ1 25) n := by
        intro n
        induction n with
        | zero => intro z; omega
        | succ n ih =>
          intro z zn
          unfold dcnt
          by_cases e : b = n
          · rw [← e, if_pos q]; omega
          · have := ih (by omega) (by omega)
            omega
      have := this 572 (by omega) (by omega)
      omega
    have hn : F_X10_dirtyFrom μ1 (nI mid) (nI 576) = -1 := df_none hF.pl (by omega) (by omega) (fun b hb q => nf b hb q.1)
    rw [show nI 576 = (576 : Int32) from rfl] at hn
    rw [L_X10_flush_51, hn, if_pos (show (-1 : Int32) < 0 by decide)]
    exact flush_2 hc hmid harm e5 efst 0 573 n i L σ1 μ1 μh ky h1 (by omega) h3 h4 h5 hF (fun b hb q => absurd q (nf b hb)) h7
  | succ r ih =>
    intro N n i L σ1 μ1 μh ky h1 h2 h3 h4 h5 hF h7
    obtain ⟨N, rfl⟩ : ∃ N', N = N' + 1 := ⟨N - 1, by omega⟩
    obtain ⟨b0, hb0, f0, hmin⟩ := hF.some h4
    have p0 := hF.pl b0 hb0
    by_cases hge : mid ≤ pN b0
    · obtain ⟨n, rfl⟩ : ∃ n', n = n' + 1 := ⟨n - 1, by omega⟩
      obtain ⟨k, hk, ek⟩ := h7
      obtain ⟨n1, n2, ⟨d, hd, n3⟩, n4⟩ := hF.next (by omega) ek hb0 f0 hmin
      rw [hF.cstep hc (by omega) hmid harm e5 efst h5 hb0 f0 hmin]
      have hs : F_X10_dirtyFrom μ1 (nI mid) (nI 576) = nI b0 := df_some hF.pl hF.inj (by omega) (by omega) hb0 ⟨f0, hge, by omega⟩ (fun b hb q => by
        have := hmin b hb q.1
        unfold kNf at this
        rw [if_pos hge, if_pos q.2.1] at this
        omega)
      rw [show nI 576 = (576 : Int32) from rfl] at hs
      rw [L_X10_flush_51, hs, if_neg (nI_nlt0 (by omega)), show ((510 : Int32) + nI b0).toNatClampNeg = 510 + b0 from tnA (c := 510) (by omega), p0.1]
      have hKm : kNf pN mid b0 ≤ 1151 := by unfold kNf; split <;> omega
      have := ih N n (i + 1) (kNf pN mid b0 + 1) _ _ _ (nI (kNf pN mid b0)) (by omega) (by omega) (by omega) (by omega) (by rw [nI_toInt (by omega)]; omega) n1 ⟨k + d, by omega, n3⟩
      rw [n4] at this
      exact this
    · have lo : ∀ b, b ≤ 571 → μ1 25 (510 + b) = 1 → pN b < mid := fun b hb q => by
        have := hmin b hb q
        have pb := (hF.pl b hb).2
        unfold kNf at this
        rw [if_neg hge] at this
        by_cases z : mid ≤ pN b
        · rw [if_pos z] at this; omega
        · omega
      have hn : F_X10_dirtyFrom μ1 (nI mid) (nI 576) = -1 := df_none hF.pl (by omega) (by omega) (fun b hb q => by have := lo b hb q.1; omega)
      rw [show nI 576 = (576 : Int32) from rfl] at hn
      rw [L_X10_flush_51, hn, if_pos (show (-1 : Int32) < 0 by decide)]
      exact flush_2 hc hmid harm e5 efst (r + 1) 573 n i L σ1 μ1 μh ky h1 (by omega) h3 h4 h5 hF lo h7
end
theorem S_flush {σ μ : Sg} (h : SIM σ μ) (ha : AR (μ 25)) : hcd [2] (X_X9_flush σ) = (F_X10_flush μ).2 24 1 ∧ (X_X9_flush σ = 0 → (F_X9_flush σ).1 = (F_X10_flush μ).1) ∧ SIM (F_X9_flush σ).2 (F_X10_flush μ).2 ∧ AR ((F_X10_flush μ).2 25) := by
  unfold X_X9_flush F_X9_flush F_X10_flush
  rcases time_eq h with ⟨c1, c2, k, hk, ek⟩ | ⟨c1, c2⟩
  · rw [c1, if_pos rfl, if_pos rfl, if_pos c2]
    obtain ⟨r1, r2, c, c3, c4, c5, c6, c7⟩ := h.1.2.2.2.2.2
    obtain ⟨arm, harm, earm⟩ := h.1.2.1.2.2.1
    obtain ⟨f1, f2⟩ := firstN_ ⟨arm, by omega⟩
    obtain ⟨mid, hmid, emid⟩ := nI_bd f1 (B := 575) f2 (by omega)
    have emid : F_X10_firstOf (nI arm) = nI mid := emid
    have pe : ∀ b : Nat, b ≤ 571 → F_X10_place μ (nI b) = nI (F_X10_place μ (nI b)).toNatClampNeg ∧ (F_X10_place μ (nI b)).toNatClampNeg ≤ 575 := fun b hb => by
      obtain ⟨p, hp, ep⟩ := place_plc (μ := μ) h.1.2.1.1 (bk := nI b) ⟨b, hb, rfl⟩
      rw [ep, nI_clamp (by omega)]
      exact ⟨rfl, hp⟩
    have be : ∀ i, i < c → σ 9 i = nI (σ 9 i).toNatClampNeg ∧ (σ 9 i).toNatClampNeg ≤ 571 := fun i hi => by
      obtain ⟨b, hb, eb⟩ := c6 i hi
      rw [eb, nI_clamp (by omega)]
      exact ⟨rfl, hb⟩
    have hF : FI c (fun i => (σ 9 i).toNatClampNeg) (fun b => (F_X10_place μ (nI b)).toNatClampNeg) mid 0 σ (s2 μ 24 1 0) (s2 μ 24 1 0) := ⟨h.t 0, ha, c4, be, fun _ _ => rfl, fun _ _ => rfl, pe, fun b hb => ⟨⟨fun q => ⟨?_, by omega⟩, fun q => ?_⟩, (c7 b hb).1⟩⟩
    · have e24 : σ 2 4 = μ 25 8 := h.1.1.2.1.1
      have := flush_1 (μ := μ) (bg := μ 25 8) c3 hmid harm (h.1.1.2.1.2.1.trans earm) emid c 573 9 0 0 σ (s2 μ 24 1 0) (s2 μ 24 1 0) (-1) (by omega) (by omega) (by omega) (dcnt_row c (μ 25) c5 c6 (fun b hb => (c7 b hb).2)) (by decide) hF ⟨k, by omega, ek⟩
      rw [earm, emid]
      obtain ⟨z1, z2, z3, z4⟩ := this
      refine ⟨z4.symm, fun _ => ?_, z1, z2⟩
      show F_X0_writeAll σ 2 4 - σ 2 4 = _
      rw [z3, e24]
      exact congrArg (· - μ 25 8) z1.1.1.2.1.1
    · obtain ⟨i, hi, ei⟩ := (c7 b hb).2.mp q
      exact ⟨i, hi, by show (σ 9 i).toNatClampNeg = b; rw [ei, nI_clamp (by omega)]⟩
    · obtain ⟨⟨i, hi, ei⟩, -⟩ := q
      refine (c7 b hb).2.mpr ⟨i, hi, ?_⟩
      have ei : (σ 9 i).toNatClampNeg = b := ei
      rw [(be i hi).1, ei]
  · rw [c1, if_neg (show ¬ (2 : Nat) = 0 by decide), if_neg (show ¬ (2 : Nat) = 0 by decide), if_neg c2]
    exact ⟨rfl, fun h0 => absurd h0 (by decide), (h.t 0).t 1, ha⟩
