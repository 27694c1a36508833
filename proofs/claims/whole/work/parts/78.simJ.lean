/-- the rest of an item, behind its kind -/
def cC (σ : Sg) (kd : Int32) : Int32 × Sg := (let r3 := F_X5_readNumber σ (3 : Int32); (if r3.1 = (-1 : Int32) then ((0 : Int32), r3.2) else (let r4 := F_X5_skip r3.2 (64 : Int32); (if r4.1 = 0 then (let r5 := F_X5_keepItem r4.2 kd r3.1 (0 : Int32); (r5.1, r5.2)) else (let r6 := F_X5_readNumber r4.2 (4 : Int32); (if r6.1 = (-1 : Int32) then ((0 : Int32), r6.2) else (let r7 := F_X5_keepItem r6.2 kd r3.1 r6.1; (r7.1, r7.2))))))))
def mC (μ : Sg) (kd : Int32) : Int32 × Sg := (let r6 := F_X10_digits μ (3 : Int32); (if r6.1 = 0 then ((0 : Int32), r6.2) else (let r7 := F_X10_skips (s2 (s2 (s2 r6.2 28 ((3 : Int32) * (r6.2 24 6)).toNatClampNeg kd) 28 (((3 : Int32) * (r6.2 24 6)) + (1 : Int32)).toNatClampNeg (r6.2 24 4)) 28 (((3 : Int32) * (r6.2 24 6)) + (2 : Int32)).toNatClampNeg (0 : Int32)) (64 : Int32); (if r7.1 = 0 then ((1 : Int32), (s2 r7.2 24 6 ((r7.2 24 6) + (1 : Int32)))) else (let r8 := F_X10_digits r7.2 (4 : Int32); (if r8.1 = 0 then ((0 : Int32), r8.2) else ((1 : Int32), (s2 (s2 r8.2 28 (((3 : Int32) * (r8.2 24 6)) + (2 : Int32)).toNatClampNeg (r8.2 24 4)) 24 6 ((r8.2 24 6) + (1 : Int32))))))))))
theorem t3k {k c : Nat} (h : k ≤ 14) (hc : c ≤ 2) : ((3 : Int32) * nI k + nI c).toNatClampNeg = 3 * k + c := by
  rw [show (3 : Int32) = nI 3 from rfl, nI_mulN, nI_add, nI_clamp (by omega)]
theorem t3k1 {k : Nat} (h : k ≤ 14) : ((3 : Int32) * nI k + 1).toNatClampNeg = 3 * k + 1 := t3k (c := 1) h (by omega)
theorem t3k2 {k : Nat} (h : k ≤ 14) : ((3 : Int32) * nI k + 2).toNatClampNeg = 3 * k + 2 := t3k (c := 2) h (by omega)
theorem t3k0 {k : Nat} (h : k ≤ 14) : ((3 : Int32) * nI k).toNatClampNeg = 3 * k := by
  rw [show (3 : Int32) = nI 3 from rfl, nI_mulN, nI_clamp (by omega)]
theorem rest_TP {σ0 μ0 σ μ : Sg} {n p k : Nat} {kd : Int32} (hn : n ≤ 40) (h23 : ∀ j, j < 40 → σ0 23 j = μ0 27 j) (hk : k ≤ 13) (hkd : kd = 0 ∨ kd = 1) (h : TXP σ0 μ0 n p k σ μ) : ((cC σ kd).1 = 0 ∧ (mC μ kd).1 = 0 ∧ ∃ p', TXP σ0 μ0 n p' k (cC σ kd).2 (mC μ kd).2) ∨ ((cC σ kd).1 = 1 ∧ (mC μ kd).1 = 1 ∧ ∃ p', p + 1 ≤ p' ∧ TXP σ0 μ0 n p' (k + 1) (cC σ kd).2 (mC μ kd).2) := by
  obtain ⟨p1, V, r1, r2, r3, r4, r5, r6⟩ := digits_TP (M := 3) hn h23 (by omega) h
  rw [show nI 3 = (3 : Int32) from rfl] at r3 r4 r5 r6
  unfold cC mC
  revert r3 r4 r5 r6
  generalize F_X5_readNumber σ 3 = a3
  generalize F_X10_digits μ 3 = b3
  obtain ⟨a, σ1⟩ := a3
  obtain ⟨b, μ1⟩ := b3
  intro r3 r4 r5 r6
  replace r3 : TXP σ0 μ0 n p1 k σ1 μ1 := r3
  replace r5 : μ1 24 4 = nI V := r5
  have n10 : ¬ (1 : Int32) = 0 := by decide
  rcases r6 with ⟨x1, x2⟩ | ⟨x1, x2, x3⟩
  · replace x1 : a = -1 := x1
    replace x2 : b = 0 := x2
    subst x1; subst x2
    exact Or.inl ⟨rfl, rfl, p1, r3⟩
  replace x1 : a = nI V := x1
  replace x2 : b = 1 := x2
  subst x1; subst x2
  simp only
  rw [if_neg (nI_nm1 (by omega)), if_neg n10, r3.k2, t3k0 (by omega), t3k1 (by omega), t3k2 (by omega), r5]
  have hT := ((r3.item (j := 3 * k) (by omega) kd).item (j := 3 * k + 1) (by omega) (nI V)).item (j := 3 * k + 2) (by omega) 0
  have f0 : s2 (s2 (s2 μ1 28 (3 * k) kd) 28 (3 * k + 1) (nI V)) 28 (3 * k + 2) 0 28 (3 * k) = kd := by simp (disch := omega) only [s2_n, s2_e]
  have f1 : s2 (s2 (s2 μ1 28 (3 * k) kd) 28 (3 * k + 1) (nI V)) 28 (3 * k + 2) 0 28 (3 * k + 1) = nI V := by simp (disch := omega) only [s2_n, s2_e]
  have f2 : s2 (s2 (s2 μ1 28 (3 * k) kd) 28 (3 * k + 1) (nI V)) 28 (3 * k + 2) 0 28 (3 * k + 2) = 0 := by simp (disch := omega) only [s2_e]
  revert hT f0 f1 f2
  generalize s2 (s2 (s2 μ1 28 (3 * k) kd) 28 (3 * k + 1) (nI V)) 28 (3 * k + 2) 0 = μ2
  intro hT f0 f1 f2
  rcases hT.skip hn h23 (ch := 64) (by decide) with ⟨y1, y2, -⟩ | ⟨y1, y2, -, y4⟩
  · rw [y1, y2]
    simp only
    rw [if_pos trivial, if_pos trivial, hT.k2, nI_1 k]
    obtain ⟨w1, w2⟩ := hT.keep hk hkd ⟨V, r2, rfl⟩ ⟨0, by omega, rfl⟩ f0 f1 f2
    exact Or.inr ⟨w1, rfl, p1, x3, w2⟩
  · rw [y1, y2]
    simp only
    have y0 : ¬ nI 1 = (0 : Int32) := by decide
    rw [if_neg n10, if_neg n10]
    obtain ⟨p2, W, s1, s2', s3, s4, s5, s6⟩ := digits_TP (M := 4) hn h23 (by omega) y4
    rw [show nI 4 = (4 : Int32) from rfl] at s3 s4 s5 s6
    have g0 : (F_X10_digits (s2 μ2 24 3 (nI (p1 + 1))) 4).2 28 (3 * k) = kd := by rw [s4]; exact f0
    have g1 : (F_X10_digits (s2 μ2 24 3 (nI (p1 + 1))) 4).2 28 (3 * k + 1) = nI V := by rw [s4]; exact f1
    revert s3 s4 s5 s6 g0 g1
    generalize F_X5_readNumber (s2 σ1 19 3 (nI (p1 + 1))) 4 = a4
    generalize F_X10_digits (s2 μ2 24 3 (nI (p1 + 1))) 4 = b4
    obtain ⟨a, σ3⟩ := a4
    obtain ⟨b, μ3⟩ := b4
    intro s3 s4 s5 s6 g0 g1
    replace s3 : TXP σ0 μ0 n p2 k σ3 μ3 := s3
    replace s5 : μ3 24 4 = nI W := s5
    replace g0 : μ3 28 (3 * k) = kd := g0
    replace g1 : μ3 28 (3 * k + 1) = nI V := g1
    rcases s6 with ⟨x1, x2⟩ | ⟨x1, x2, x4⟩
    · replace x1 : a = -1 := x1
      replace x2 : b = 0 := x2
      subst x1; subst x2
      exact Or.inl ⟨rfl, rfl, p2, s3⟩
    replace x1 : a = nI W := x1
    replace x2 : b = 1 := x2
    subst x1; subst x2
    simp only
    rw [if_neg (nI_nm1 (by omega)), if_neg n10, s3.k2, t3k2 (by omega), s5]
    have hT2 := s3.item (j := 3 * k + 2) (by omega) (nI W)
    rw [nI_1 k]
    obtain ⟨w1, w2⟩ := hT2.keep hk hkd ⟨V, r2, rfl⟩ ⟨W, s2', rfl⟩ ((s2_n (by omega)).trans g0) ((s2_n (by omega)).trans g1) s2_e
    exact Or.inr ⟨w1, rfl, p2, by omega, w2⟩
theorem item_TP {σ0 μ0 σ μ : Sg} {n p k : Nat} (hn : n ≤ 40) (h23 : ∀ j, j < 40 → σ0 23 j = μ0 27 j) (hk : k ≤ 13) (h : TXP σ0 μ0 n p k σ μ) : ((F_X5_readItem σ).1 = 0 ∧ (F_X10_isItem μ).1 = 0 ∧ ∃ p', TXP σ0 μ0 n p' k (F_X5_readItem σ).2 (F_X10_isItem μ).2) ∨ ((F_X5_readItem σ).1 = 1 ∧ (F_X10_isItem μ).1 = 1 ∧ ∃ p', p + 2 ≤ p' ∧ TXP σ0 μ0 n p' (k + 1) (F_X5_readItem σ).2 (F_X10_isItem μ).2) := by
  have n10 : ¬ (1 : Int32) = 0 := by decide
  have lift : ∀ {kd : Int32} {σ2 μ2 : Sg}, kd = 0 ∨ kd = 1 → TXP σ0 μ0 n (p + 1) k σ2 μ2 → F_X5_readItem σ = cC σ2 kd → F_X10_isItem μ = mC μ2 kd → ((F_X5_readItem σ).1 = 0 ∧ (F_X10_isItem μ).1 = 0 ∧ ∃ p', TXP σ0 μ0 n p' k (F_X5_readItem σ).2 (F_X10_isItem μ).2) ∨ ((F_X5_readItem σ).1 = 1 ∧ (F_X10_isItem μ).1 = 1 ∧ ∃ p', p + 2 ≤ p' ∧ TXP σ0 μ0 n p' (k + 1) (F_X5_readItem σ).2 (F_X10_isItem μ).2) := by
    intro kd σ2 μ2 hkd hT e1 e2
    rw [e1, e2]
    rcases rest_TP hn h23 hk hkd hT with q | ⟨q1, q2, p', q3, q4⟩
    · exact Or.inl q
    · exact Or.inr ⟨q1, q2, p', by omega, q4⟩
  rcases h.skip hn h23 (ch := 114) (by decide) with ⟨y1, y2, y3⟩ | ⟨y1, y2, y3, y4⟩
  · rcases h.skip hn h23 (ch := 119) (by decide) with ⟨z1, z2, z3⟩ | ⟨z1, z2, z3, z4⟩
    · have e1 : F_X5_readItem σ = (0, σ) := by
        unfold F_X5_readItem; rw [y1]; simp only; rw [if_pos trivial, z1]; simp only; rw [if_pos trivial]
      have e2 : F_X10_isItem μ = (0, μ) := by
        unfold F_X10_isItem; rw [if_neg z3, y2]; simp only; rw [if_pos trivial, z2]; simp only; rw [if_pos trivial]
      rw [e1, e2]
      exact Or.inl ⟨rfl, rfl, p, h⟩
    · refine lift (Or.inr rfl) z4 ?_ ?_
      · unfold F_X5_readItem; rw [y1]; simp only; rw [if_pos trivial, z1]; simp only; rw [if_neg n10]; rfl
      · unfold F_X10_isItem; rw [if_pos z3, y2]; simp only; rw [if_pos trivial, z2]; simp only; rw [if_neg n10]; rfl
  · refine lift (Or.inl rfl) y4 ?_ ?_
    · unfold F_X5_readItem; rw [y1]; simp only; rw [if_neg n10]; rfl
    · unfold F_X10_isItem; rw [if_neg (by rw [y3]; decide), y2]; simp only; rw [if_neg n10]; rfl
theorem items_L {σ0 μ0 σ μ : Sg} {n : Nat} (hn : n ≤ 40) (h23 : ∀ j, j < 40 → σ0 23 j = μ0 27 j) : ∀ (f i p : Nat) (σ1 μ1 : Sg), i + f = 15 → 3 * i ≤ p → TXP σ0 μ0 n p i σ1 μ1 → ∃ p' k' : Nat, k' ≤ 14 ∧ TXP σ0 μ0 n p' k' (L_X5_readItems_2 σ f (nI i) σ1).2 (L_X10_faultOf_10 μ f μ1).2 ∧ (((L_X5_readItems_2 σ f (nI i) σ1).1 = 0 ∧ (L_X10_faultOf_10 μ f μ1).1 = nI p') ∨ ((L_X5_readItems_2 σ f (nI i) σ1).1 = 1 ∧ (L_X10_faultOf_10 μ f μ1).1 = -1)) := by
  intro f
  induction f with
  | zero => intro i p σ1 μ1 h1 h2 h; have := h.pn; omega
  | succ f ih =>
    intro i p σ1 μ1 h1 h2 h
    have hpn := h.pn
    rw [L_X5_readItems_2, L_X10_faultOf_10, if_neg (by rw [show (14 : Int32) = nI 14 from rfl, nI_leI (by omega) (by omega)]; omega)]
    have it := item_TP hn h23 (by omega) h
    revert it
    generalize F_X5_readItem σ1 = a3
    generalize F_X10_isItem μ1 = b3
    obtain ⟨a, σ2⟩ := a3
    obtain ⟨b, μ2⟩ := b3
    intro it
    have n10 : ¬ (1 : Int32) = 0 := by decide
    rcases it with ⟨x1, x2, p', x3⟩ | ⟨x1, x2, p', x3, x4⟩
    · replace x1 : a = 0 := x1
      replace x2 : b = 0 := x2
      subst x1; subst x2
      exact ⟨p', i, by omega, x3, Or.inl ⟨rfl, x3.p2⟩⟩
    · replace x1 : a = 1 := x1
      replace x2 : b = 1 := x2
      replace x4 : TXP σ0 μ0 n p' (i + 1) σ2 μ2 := x4
      subst x1; subst x2
      simp only
      rw [if_neg n10, if_neg n10, x4.p1, x4.l1]
      have hpn' := x4.pn
      obtain ⟨eh, hl⟩ := x4.here hn h23
      by_cases c : p' < n
      · rw [if_pos (show nI p' < nI n by rw [nI_ltI (by omega) (by omega)]; exact c)]
        rcases x4.skip hn h23 (ch := 44) (by decide) with ⟨y1, y2, -⟩ | ⟨y1, y2, -, y4⟩
        · rw [y1, y2]
          simp only
          rw [if_pos trivial, if_pos trivial, x4.p2, x4.l2, if_neg (show ¬ nI n ≤ nI p' by rw [nI_leI (by omega) (by omega)]; omega)]
          exact ⟨p', i + 1, by omega, x4, Or.inl ⟨rfl, rfl⟩⟩
        · rw [y1, y2]
          simp only
          rw [if_neg n10, if_neg n10, nI_1 i]
          exact ih (i + 1) (p' + 1) _ _ (by omega) (by omega) y4
      · rw [if_neg (show ¬ nI p' < nI n by rw [nI_ltI (by omega) (by omega)]; exact c)]
        have hh : F_X10_here μ2 = -1 := hl.resolve_right c
        have e2 : F_X10_skips μ2 44 = (0, μ2) := by unfold F_X10_skips; rw [hh, if_neg (by decide)]
        rw [e2]
        simp only
        rw [if_pos trivial, x4.p2, x4.l2, if_pos (show nI n ≤ nI p' by rw [nI_leI (by omega) (by omega)]; omega)]
        exact ⟨p', i + 1, by omega, x4, Or.inr (by first | exact ⟨rfl, rfl⟩ | exact ⟨trivial, rfl⟩ | exact ⟨trivial, trivial⟩)⟩
