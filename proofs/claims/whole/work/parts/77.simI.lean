/-! THE TEXT: both sides read alike -/
def TXPi (σ μ : Sg) (i : Nat) : Prop := σ 20 i = μ 28 (3 * i) ∧ σ 21 i = μ 28 (3 * i + 1) ∧ σ 22 i = μ 28 (3 * i + 2) ∧ (σ 20 i = 0 ∨ σ 20 i = 1) ∧ (∃ B : Nat, B ≤ 9999 ∧ σ 21 i = nI B) ∧ ∃ A : Nat, A ≤ 9999 ∧ σ 22 i = nI A
def TXP (σ0 μ0 : Sg) (n p k : Nat) (σ μ : Sg) : Prop := (σ 19 0 = nI n) ∧ (μ 24 2 = nI n) ∧ (σ 19 3 = nI p) ∧ (μ 24 3 = nI p) ∧ (σ 19 2 = nI k) ∧ (μ 24 6 = nI k) ∧ (p ≤ n) ∧ (σ 23 = σ0 23) ∧ (μ 27 = μ0 27) ∧ (∀ i, i < k → TXPi σ μ i) ∧ (∀ c, (c < 19 ∨ 23 < c) → σ c = σ0 c) ∧ (∀ c, c ≠ 24 → c ≠ 28 → μ c = μ0 c) ∧ (σ 19 1 = σ0 19 1) ∧ (∀ j, j ≠ 3 → j ≠ 4 → j ≠ 6 → μ 24 j = μ0 24 j)
theorem TXP.l1 {σ0 μ0 : Sg} {n p k : Nat} {σ μ : Sg} (h : TXP σ0 μ0 n p k σ μ) : σ 19 0 = nI n := h.1
theorem TXP.l2 {σ0 μ0 : Sg} {n p k : Nat} {σ μ : Sg} (h : TXP σ0 μ0 n p k σ μ) : μ 24 2 = nI n := h.2.1
theorem TXP.p1 {σ0 μ0 : Sg} {n p k : Nat} {σ μ : Sg} (h : TXP σ0 μ0 n p k σ μ) : σ 19 3 = nI p := h.2.2.1
theorem TXP.p2 {σ0 μ0 : Sg} {n p k : Nat} {σ μ : Sg} (h : TXP σ0 μ0 n p k σ μ) : μ 24 3 = nI p := h.2.2.2.1
theorem TXP.k1 {σ0 μ0 : Sg} {n p k : Nat} {σ μ : Sg} (h : TXP σ0 μ0 n p k σ μ) : σ 19 2 = nI k := h.2.2.2.2.1
theorem TXP.k2 {σ0 μ0 : Sg} {n p k : Nat} {σ μ : Sg} (h : TXP σ0 μ0 n p k σ μ) : μ 24 6 = nI k := h.2.2.2.2.2.1
theorem TXP.pn {σ0 μ0 : Sg} {n p k : Nat} {σ μ : Sg} (h : TXP σ0 μ0 n p k σ μ) : p ≤ n := h.2.2.2.2.2.2.1
theorem TXP.c1 {σ0 μ0 : Sg} {n p k : Nat} {σ μ : Sg} (h : TXP σ0 μ0 n p k σ μ) : σ 23 = σ0 23 := h.2.2.2.2.2.2.2.1
theorem TXP.c2 {σ0 μ0 : Sg} {n p k : Nat} {σ μ : Sg} (h : TXP σ0 μ0 n p k σ μ) : μ 27 = μ0 27 := h.2.2.2.2.2.2.2.2.1
theorem TXP.it {σ0 μ0 : Sg} {n p k : Nat} {σ μ : Sg} (h : TXP σ0 μ0 n p k σ μ) : ∀ i, i < k → TXPi σ μ i := h.2.2.2.2.2.2.2.2.2.1
theorem TXP.o1 {σ0 μ0 : Sg} {n p k : Nat} {σ μ : Sg} (h : TXP σ0 μ0 n p k σ μ) : ∀ c, (c < 19 ∨ 23 < c) → σ c = σ0 c := h.2.2.2.2.2.2.2.2.2.2.1
theorem TXP.o2 {σ0 μ0 : Sg} {n p k : Nat} {σ μ : Sg} (h : TXP σ0 μ0 n p k σ μ) : ∀ c, c ≠ 24 → c ≠ 28 → μ c = μ0 c := h.2.2.2.2.2.2.2.2.2.2.2.1
theorem TXP.o3 {σ0 μ0 : Sg} {n p k : Nat} {σ μ : Sg} (h : TXP σ0 μ0 n p k σ μ) : σ 19 1 = σ0 19 1 := h.2.2.2.2.2.2.2.2.2.2.2.2.1
theorem TXP.o4 {σ0 μ0 : Sg} {n p k : Nat} {σ μ : Sg} (h : TXP σ0 μ0 n p k σ μ) : ∀ j, j ≠ 3 → j ≠ 4 → j ≠ 6 → μ 24 j = μ0 24 j := h.2.2.2.2.2.2.2.2.2.2.2.2.2
theorem TXP.mk {σ0 μ0 : Sg} {n p k : Nat} {σ μ : Sg} (l1 : σ 19 0 = nI n) (l2 : μ 24 2 = nI n) (p1 : σ 19 3 = nI p) (p2 : μ 24 3 = nI p) (k1 : σ 19 2 = nI k) (k2 : μ 24 6 = nI k) (pn : p ≤ n) (c1 : σ 23 = σ0 23) (c2 : μ 27 = μ0 27) (it : ∀ i, i < k → TXPi σ μ i) (o1 : ∀ c, (c < 19 ∨ 23 < c) → σ c = σ0 c) (o2 : ∀ c, c ≠ 24 → c ≠ 28 → μ c = μ0 c) (o3 : σ 19 1 = σ0 19 1) (o4 : ∀ j, j ≠ 3 → j ≠ 4 → j ≠ 6 → μ 24 j = μ0 24 j) : TXP σ0 μ0 n p k σ μ := ⟨l1, l2, p1, p2, k1, k2, pn, c1, c2, it, o1, o2, o3, o4⟩
section
variable {σ0 μ0 : Sg} {n p k : Nat} {σ μ : Sg}
theorem TXP.here (h : TXP σ0 μ0 n p k σ μ) (hn : n ≤ 40) (h23 : ∀ j, j < 40 → σ0 23 j = μ0 27 j) : F_X5_current σ = F_X10_here μ ∧ (F_X10_here μ = -1 ∨ p < n) := by
  have hpn := h.pn
  unfold F_X5_current F_X10_here
  rw [h.p1, h.p2, h.l1, h.l2, if_neg (nI_nlt0 (by omega))]
  by_cases c : n ≤ p
  · have e : nI n ≤ nI p := by rw [nI_leI (by omega) (by omega)]; exact c
    rw [if_pos e, if_pos e]
    exact ⟨rfl, Or.inl rfl⟩
  · have e : ¬ nI n ≤ nI p := by rw [nI_leI (by omega) (by omega)]; exact c
    rw [if_neg e, if_neg e, if_neg (by rw [show (40 : Int32) = nI 40 from rfl, nI_leI (by omega) (by omega)]; omega), nI_clamp (by omega), h.c1, h.c2]
    exact ⟨h23 p (by omega), Or.inr (by omega)⟩
theorem TXP.adv (h : TXP σ0 μ0 n p k σ μ) (hp : p < n) : TXP σ0 μ0 n (p + 1) k (s2 σ 19 3 (nI (p + 1))) (s2 μ 24 3 (nI (p + 1))) := TXP.mk
  (l1 := (s2_n (by omega)).trans h.l1)
  (l2 := (s2_n (by omega)).trans h.l2)
  (p1 := s2_e)
  (p2 := s2_e)
  (k1 := (s2_n (by omega)).trans h.k1)
  (k2 := (s2_n (by omega)).trans h.k2)
  (pn := by omega)
  (c1 := h.c1)
  (c2 := h.c2)
  (it := fun i hi => h.it i hi)
  (o1 := fun c hc => (s2_f (by omega)).trans (h.o1 c hc))
  (o2 := fun c h4 h8 => (s2_f h4).trans (h.o2 c h4 h8))
  (o3 := (s2_n (by omega)).trans h.o3)
  (o4 := fun j h3 h4 h6 => (s2_n h3).trans (h.o4 j h3 h4 h6))
theorem TXP.val (h : TXP σ0 μ0 n p k σ μ) (v : Int32) : TXP σ0 μ0 n p k σ (s2 μ 24 4 v) := TXP.mk
  (l1 := h.l1)
  (l2 := (s2_n (by omega)).trans h.l2)
  (p1 := h.p1)
  (p2 := (s2_n (by omega)).trans h.p2)
  (k1 := h.k1)
  (k2 := (s2_n (by omega)).trans h.k2)
  (pn := h.pn)
  (c1 := h.c1)
  (c2 := h.c2)
  (it := fun i hi => h.it i hi)
  (o1 := h.o1)
  (o2 := fun c h4 h8 => (s2_f h4).trans (h.o2 c h4 h8))
  (o3 := h.o3)
  (o4 := fun j h3 h4 h6 => (s2_n h4).trans (h.o4 j h3 h4 h6))
/-- what lies in the reference's items from number 3 k on is free -/
theorem TXP.item (h : TXP σ0 μ0 n p k σ μ) {j : Nat} (hj : 3 * k ≤ j) (v : Int32) : TXP σ0 μ0 n p k σ (s2 μ 28 j v) := TXP.mk
  (l1 := h.l1)
  (l2 := h.l2)
  (p1 := h.p1)
  (p2 := h.p2)
  (k1 := h.k1)
  (k2 := h.k2)
  (pn := h.pn)
  (c1 := h.c1)
  (c2 := h.c2)
  (it := fun i hi => by
    unfold TXPi
    rw [s2_n (by omega), s2_n (by omega), s2_n (by omega)]
    exact h.it i hi)
  (o1 := h.o1)
  (o2 := fun c h4 h8 => (s2_f h8).trans (h.o2 c h4 h8))
  (o3 := h.o3)
  (o4 := fun j h3 h4 h6 => h.o4 j h3 h4 h6)
theorem TXP.keep (h : TXP σ0 μ0 n p k σ μ) (hk : k ≤ 13) {kd b al : Int32} (hkd : kd = 0 ∨ kd = 1) (hb : ∃ B : Nat, B ≤ 9999 ∧ b = nI B) (ha : ∃ A : Nat, A ≤ 9999 ∧ al = nI A) (e0 : μ 28 (3 * k) = kd) (e1 : μ 28 (3 * k + 1) = b) (e2 : μ 28 (3 * k + 2) = al) : (F_X5_keepItem σ kd b al).1 = 1 ∧ TXP σ0 μ0 n p (k + 1) (F_X5_keepItem σ kd b al).2 (s2 μ 24 6 (nI (k + 1))) := by
  have hw : ¬ F_X9_isWithin (nI k) 0 13 = 0 := by
    unfold F_X9_isWithin
    rw [if_neg (nI_nlt0 (by omega)), if_neg (by rw [show (13 : Int32) = nI 13 from rfl, nI_ltI (by omega) (by omega)]; omega)]
    decide
  have e : F_X5_keepItem σ kd b al = (1, s2 (s2 (s2 (s2 σ 20 k kd) 21 k b) 22 k al) 19 2 (nI (k + 1))) := by
    unfold F_X5_keepItem
    rw [h.k1, if_neg hw, nI_clamp (by omega), nI_1 k]
  rw [e]
  refine ⟨rfl, h.l1, (s2_n (by omega)).trans h.l2, h.p1, (s2_n (by omega)).trans h.p2, rfl, s2_e, h.pn, h.c1, h.c2, fun i hi => ?_, fun c hc => ?_, fun c h4 h8 => (s2_f h4).trans (h.o2 c h4 h8), h.o3, fun j h3 h4 h6 => (s2_n h6).trans (h.o4 j h3 h4 h6)⟩
  · show s2 σ 20 k kd 20 i = μ 28 _ ∧ s2 σ 21 k b 21 i = μ 28 _ ∧ s2 σ 22 k al 22 i = μ 28 _ ∧ (s2 σ 20 k kd 20 i = 0 ∨ s2 σ 20 k kd 20 i = 1) ∧ (∃ B : Nat, B ≤ 9999 ∧ s2 σ 21 k b 21 i = nI B) ∧ ∃ A : Nat, A ≤ 9999 ∧ s2 σ 22 k al 22 i = nI A
    by_cases z : i = k
    · subst z
      rw [s2_e, s2_e, s2_e]
      exact ⟨e0.symm, e1.symm, e2.symm, hkd, hb, ha⟩
    · rw [s2_n z, s2_n z, s2_n z]
      exact h.it i (by omega)
  · show s2 (s2 (s2 (s2 σ 20 k kd) 21 k b) 22 k al) 19 2 (nI (k + 1)) c = _
    rw [s2_f (by omega), s2_f (by omega), s2_f (by omega), s2_f (by omega)]
    exact h.o1 c hc
theorem TXP.skip (h : TXP σ0 μ0 n p k σ μ) (hn : n ≤ 40) (h23 : ∀ j, j < 40 → σ0 23 j = μ0 27 j) {ch : Int32} (hc : ¬ ch = -1) : (F_X5_skip σ ch = (0, σ) ∧ F_X10_skips μ ch = (0, μ) ∧ ¬ F_X10_here μ = ch) ∨ (F_X5_skip σ ch = (1, s2 σ 19 3 (nI (p + 1))) ∧ F_X10_skips μ ch = (1, s2 μ 24 3 (nI (p + 1))) ∧ F_X10_here μ = ch ∧ TXP σ0 μ0 n (p + 1) k (s2 σ 19 3 (nI (p + 1))) (s2 μ 24 3 (nI (p + 1)))) := by
  obtain ⟨e, hl⟩ := h.here hn h23
  have hpn := h.pn
  unfold F_X5_skip F_X10_skips
  rw [e]
  by_cases c : F_X10_here μ = ch
  · rw [if_pos c, if_pos c, h.p1, h.p2, nI_1 p]
    have : p < n := hl.resolve_left (fun z => hc (c.symm.trans z))
    exact Or.inr ⟨rfl, rfl, c, h.adv this⟩
  · rw [if_neg c, if_neg c]; exact Or.inl ⟨rfl, rfl, c⟩
end
theorem ten_pow (x : Nat) (h : x ≤ 4) : 10 ^ x ≤ 10000 := by
  rcases (show x = 0 ∨ x = 1 ∨ x = 2 ∨ x = 3 ∨ x = 4 by omega) with rfl | rfl | rfl | rfl | rfl <;> decide
theorem digits_L {σ0 μ0 σ μ : Sg} {n k M : Nat} (hn : n ≤ 40) (h23 : ∀ j, j < 40 → σ0 23 j = μ0 27 j) (hM : M ≤ 4) : ∀ (f x p V : Nat) (σ1 μ1 : Sg), x + f = 5 → x ≤ M → TXP σ0 μ0 n p k σ1 μ1 → μ1 24 4 = nI V → V < 10 ^ x →
    ∃ p' V' : Nat, p ≤ p' ∧ V' ≤ 9999 ∧ TXP σ0 μ0 n p' k (L_X5_readNumber_4 σ (nI M) f (nI V) (nI x) σ1).2 (L_X10_digits_7 μ (nI M) f (nI x) μ1).2 ∧ (L_X10_digits_7 μ (nI M) f (nI x) μ1).2 28 = μ1 28 ∧ (L_X10_digits_7 μ (nI M) f (nI x) μ1).2 24 4 = nI V' ∧ (((L_X5_readNumber_4 σ (nI M) f (nI V) (nI x) σ1).1 = -1 ∧ (L_X10_digits_7 μ (nI M) f (nI x) μ1).1 = 0) ∨ ((L_X5_readNumber_4 σ (nI M) f (nI V) (nI x) σ1).1 = nI V' ∧ (L_X10_digits_7 μ (nI M) f (nI x) μ1).1 = 1 ∧ 1 ≤ p' + x - p)) := by
  intro f
  induction f with
  | zero => intro x p V σ1 μ1 h1 h2; omega
  | succ f ih =>
    intro x p V σ1 μ1 h1 h2 h eV hV
    have hx4 := ten_pow x (by omega)
    have stop : ∃ p' V' : Nat, p ≤ p' ∧ V' ≤ 9999 ∧ TXP σ0 μ0 n p' k (if nI x = 0 then ((-1 : Int32), σ1) else (nI V, σ1)).2 (if nI x ≤ 0 then ((0 : Int32), μ1) else ((1 : Int32), μ1)).2 ∧ (if nI x ≤ 0 then ((0 : Int32), μ1) else ((1 : Int32), μ1)).2 28 = μ1 28 ∧ (if nI x ≤ 0 then ((0 : Int32), μ1) else ((1 : Int32), μ1)).2 24 4 = nI V' ∧ (((if nI x = 0 then ((-1 : Int32), σ1) else (nI V, σ1)).1 = -1 ∧ (if nI x ≤ 0 then ((0 : Int32), μ1) else ((1 : Int32), μ1)).1 = 0) ∨ ((if nI x = 0 then ((-1 : Int32), σ1) else (nI V, σ1)).1 = nI V' ∧ (if nI x ≤ 0 then ((0 : Int32), μ1) else ((1 : Int32), μ1)).1 = 1 ∧ 1 ≤ p' + x - p)) := by
      by_cases z : x = 0
      · subst z
        rw [if_pos (show nI 0 = 0 from rfl), if_pos (show nI 0 ≤ 0 by decide)]
        exact ⟨p, V, Nat.le_refl _, by omega, h, rfl, eV, Or.inl ⟨rfl, rfl⟩⟩
      · rw [if_neg (nI_n0 (by omega) (by omega)), if_neg (by rw [show (0 : Int32) = nI 0 from rfl, nI_leI (by omega) (by omega)]; omega)]
        exact ⟨p, V, Nat.le_refl _, by omega, h, rfl, eV, Or.inr ⟨rfl, rfl, by omega⟩⟩
    obtain ⟨eh, hl⟩ := h.here hn h23
    rw [L_X5_readNumber_4, L_X10_digits_7]
    by_cases c1 : nI M ≤ nI x
    · rw [if_pos c1, if_pos c1]; exact stop
    rw [if_neg c1, if_neg c1, in_eq, eh]
    by_cases c2 : F_X10_in (F_X10_here μ1) 48 57 = 0
    · rw [if_pos c2, if_pos c2]; exact stop
    rw [if_neg c2, if_neg c2]
    have hxM := gt_of_nle (x := nI M) (y := nI x) rfl rfl (by omega) (by omega) c1
    obtain ⟨d, hd, ed⟩ : ∃ d : Nat, d ≤ 9 ∧ F_X10_here μ1 = nI (48 + d) := by
      obtain ⟨a, b⟩ := in_of c2
      have h0 : (0 : Int32) ≤ F_X10_here μ1 := Int32.le_trans (by decide) a
      obtain ⟨j, hj, ej⟩ := nI_rng (N := 57) (by omega) ⟨h0, b⟩
      have := le_of_le (x := 48) (a := 48) rfl ej (by omega) (by omega) a
      exact ⟨j - 48, by omega, by rw [ej]; congr 1; omega⟩
    have hp : p < n := hl.resolve_left (fun z => nI_nm1 (k := 48 + d) (by omega) (ed.symm.trans z))
    have ev1 : (nI V * 10 + F_X10_here μ1) - 48 = nI (V * 10 + d) := by
      rw [ed, show (10 : Int32) = nI 10 from rfl, nI_mulN, nI_add, show V * 10 + (48 + d) = (V * 10 + d) + 48 by omega, ← nI_add, show nI 48 = (48 : Int32) from rfl]
      grind
    have ev2 : ((10 : Int32) * μ1 24 4 + F_X10_here μ1) - 48 = nI (V * 10 + d) := by
      rw [← ev1, eV]
      grind
    rw [ev1, ev2, h.p1, h.p2, nI_1 p, nI_1 x]
    have hT := (h.val (nI (V * 10 + d))).adv hp
    have hpow : 10 ^ (x + 1) = 10 ^ x * 10 := Nat.pow_succ 10 x
    obtain ⟨p', V', r1, r2, r3, r4, r5, r6⟩ := ih (x + 1) (p + 1) (V * 10 + d) (s2 σ1 19 3 (nI (p + 1))) (s2 (s2 μ1 24 4 (nI (V * 10 + d))) 24 3 (nI (p + 1))) (by omega) (by omega) hT ((s2_n (by omega)).trans s2_e) (by omega)
    refine ⟨p', V', by omega, r2, r3, r4, r5, ?_⟩
    rcases r6 with r6 | ⟨r6, r7, r8⟩
    · exact Or.inl r6
    · exact Or.inr ⟨r6, r7, by omega⟩
theorem digits_TP {σ0 μ0 σ μ : Sg} {n p k M : Nat} (hn : n ≤ 40) (h23 : ∀ j, j < 40 → σ0 23 j = μ0 27 j) (hM : M ≤ 4) (h : TXP σ0 μ0 n p k σ μ) : ∃ p' V' : Nat, p ≤ p' ∧ V' ≤ 9999 ∧ TXP σ0 μ0 n p' k (F_X5_readNumber σ (nI M)).2 (F_X10_digits μ (nI M)).2 ∧ (F_X10_digits μ (nI M)).2 28 = μ 28 ∧ (F_X10_digits μ (nI M)).2 24 4 = nI V' ∧ (((F_X5_readNumber σ (nI M)).1 = -1 ∧ (F_X10_digits μ (nI M)).1 = 0) ∨ ((F_X5_readNumber σ (nI M)).1 = nI V' ∧ (F_X10_digits μ (nI M)).1 = 1 ∧ p + 1 ≤ p')) := by
  obtain ⟨p', V', r1, r2, r3, r4, r5, r6⟩ := digits_L (σ := σ) (μ := μ) hn h23 hM 5 0 p 0 σ (s2 μ 24 4 0) (by omega) (by omega) (h.val 0) s2_e (by decide)
  refine ⟨p', V', r1, r2, r3, r4, r5, ?_⟩
  rcases r6 with r6 | ⟨r6, r7, r8⟩
  · exact Or.inl r6
  · exact Or.inr ⟨r6, r7, by omega⟩
