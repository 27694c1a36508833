/-- how many blocks are dirty, when they lie in a row of c different ones -/
theorem dcnt_row {f : Nat → Int32} : ∀ (c : Nat) (g : Nat → Int32), (∀ i j, i < c → j < c → f i = f j → i = j) → (∀ i, i < c → blk (f i)) → (∀ b : Nat, b ≤ 571 → (g (510 + b) = 1 ↔ ∃ i, i < c ∧ f i = nI b)) → dcnt g 572 = c := by
  intro c
  induction c with
  | zero =>
    intro g h1 h2 h3
    have : ∀ n, n ≤ 572 → dcnt g n = 0 := by
      intro n
      induction n with
      | zero => intro _; rfl
      | succ n ih =>
        intro hn
        unfold dcnt
        rw [ih (by omega), if_neg (fun z => by obtain ⟨i, hi, _⟩ := (h3 n (by omega)).mp z; omega)]
    exact this 572 (by omega)
  | succ c ih =>
    intro g h1 h2 h3
    obtain ⟨b, hb, eb⟩ := h2 c (by omega)
    have hd : g (510 + b) = 1 := (h3 b hb).mpr ⟨c, by omega, eb⟩
    have := ih (fun k => if k = 510 + b then 0 else g k) (fun i j hi hj => h1 i j (by omega) (by omega)) (fun i hi => h2 i (by omega)) (fun x hx => by
      show ((if 510 + x = 510 + b then (0 : Int32) else g (510 + x)) = 1) ↔ _
      by_cases e : x = b
      · subst e
        rw [if_pos rfl]
        refine ⟨fun z => absurd z (by decide), fun ⟨i, hi, ei⟩ => ?_⟩
        have := h1 i c (by omega) (by omega) (ei.trans eb.symm)
        omega
      · rw [if_neg (by omega), h3 x hx]
        refine ⟨fun ⟨i, hi, ei⟩ => ⟨i, ?_, ei⟩, fun ⟨i, hi, ei⟩ => ⟨i, by omega, ei⟩⟩
        have : i ≠ c := fun z => by
          subst z
          exact e ((nI_eq (by omega) (by omega)).mp (ei.symm.trans eb))
        omega)
    have h5 := dcnt_clear (g := g) (g' := fun k => if k = 510 + b then 0 else g k) hd (by show ¬ (if 510 + b = 510 + b then (0 : Int32) else g (510 + b)) = 1; rw [if_pos rfl]; decide) 572 (by omega) (fun x hx _ => by
      show (if 510 + x = 510 + b then (0 : Int32) else g (510 + x)) = _
      rw [if_neg (by omega)])
    omega
theorem L_dirty_eq {μ : Sg} (hf : ∀ b : Nat, b ≤ 571 → μ 25 (510 + b) = 0 ∨ μ 25 (510 + b) = 1) : ∀ (n j : Nat), j + n = 573 → j ≤ 572 → L_X10_dirty_4 μ n (nI (dcnt (μ 25) j)) (nI j) = nI (dcnt (μ 25) 572) := by
  intro n
  induction n with
  | zero => intro j h1 h2; omega
  | succ n ih =>
    intro j h1 h2
    rw [L_X10_dirty_4]
    by_cases h : (572 : Int32) ≤ nI j
    · rw [if_pos h]
      have := le_of_le (x := 572) (a := 572) rfl rfl (by omega) (by omega) h
      rw [show j = 572 by omega]
    · rw [if_neg h]
      have hlt := gt_of_nle (x := 572) (a := 572) rfl rfl (by omega) (by omega) h
      rw [show ((510 : Int32) + nI j).toNatClampNeg = 510 + j from tnA (c := 510) (by omega), show nI j + (1 : Int32) = nI (j + 1) from nI_1 j]
      have hi := ih (j + 1) (by omega) (by omega)
      rcases hf j (by omega) with q | q
      · rw [q, show nI (dcnt (μ 25) j) + (0 : Int32) = nI (dcnt (μ 25) j) from nI_add _ 0]
        rw [show dcnt (μ 25) (j + 1) = dcnt (μ 25) j by show dcnt (μ 25) j + _ = _; rw [q]; rfl] at hi
        exact hi
      · rw [q, show nI (dcnt (μ 25) j) + (1 : Int32) = nI (dcnt (μ 25) j + 1) from nI_1 _]
        rw [show dcnt (μ 25) (j + 1) = dcnt (μ 25) j + 1 by show dcnt (μ 25) j + _ = _; rw [q]; rfl] at hi
        exact hi
theorem dirty_eq {σ μ : Sg} (h : RCa σ (μ 25)) : F_X10_dirty μ = σ 8 1 := by
  obtain ⟨-, -, c, c3, c4, c5, c6, c7⟩ := h
  rw [c4, ← dcnt_row c (μ 25) c5 c6 (fun b hb => (c7 b hb).2)]
  exact L_dirty_eq (fun b hb => (c7 b hb).1) 573 0 (by omega) (by omega)
theorem S_dirtyBlocks {σ μ : Sg} (h : SIM σ μ) : F_X9_dirtyBlocks σ = (F_X10_dirtyBlocks μ).1 ∧ SIM σ (F_X10_dirtyBlocks μ).2 := by
  have ed : F_X10_dirty (s2 μ 24 1 0) = σ 8 1 := dirty_eq (μ := s2 μ 24 1 0) h.1.2.2.2.2.2
  unfold F_X9_dirtyBlocks F_X10_dirtyBlocks
  rw [ed]
  exact ⟨rfl, h.t 0⟩
theorem SIM.back {σ μ : Sg} {v : Int32} (h : SIM σ μ) (hv : v = 0 ∨ v = 1) : SIM (s2 σ 8 0 v) (s2 μ 25 7 v) := by
  obtain ⟨⟨hd, hm, hu, hq, hs, hc⟩, ht⟩ := h
  exact SIM.low (σ := σ) (μ := μ) ⟨⟨hd, hm, hu, hq, hs, hc⟩, ht⟩ (fun i hi => s2_n (by omega)) (fun c _ _ h8 => s2_f h8) rfl rfl hd.1 ⟨hd.2.1.1, hd.2.1.2.1⟩ hd.2.2.1 hm.2.2.1 hm.2.2.2.1 hm.2.2.2.2.1 hu hs ⟨rfl, hv⟩ ht
theorem S_setWriteBack {σ μ : Sg} {on : Int32} (h : SIM σ μ) (hon : on = 0 ∨ on = 1) : hcd [2] (X_X9_setWriteBack σ on) = (F_X10_setWriteBack μ on).2 24 1 ∧ (X_X9_setWriteBack σ on = 0 → (F_X9_setWriteBack σ on).1 = (F_X10_setWriteBack μ on).1) ∧ SIM (F_X9_setWriteBack σ on).2 (F_X10_setWriteBack μ on).2 := by
  have ed : F_X10_dirty (s2 μ 24 1 0) = σ 8 1 := dirty_eq (μ := s2 μ 24 1 0) h.1.2.2.2.2.2
  have e8 : σ 8 0 = μ 25 7 := h.1.2.2.2.2.2.1
  have e7 : (F_X10_becomes (s2 μ 24 1 0) 7 0).1 = μ 25 7 := rfl
  have e7' : (F_X10_becomes (s2 μ 24 1 0) 7 1).1 = μ 25 7 := rfl
  unfold X_X9_setWriteBack F_X9_setWriteBack F_X10_setWriteBack
  rw [ed, e7, e7', e8]
  rcases hon with rfl | rfl
  · rw [if_pos rfl, if_pos rfl, if_pos rfl, if_pos rfl]
    by_cases c : σ 8 1 ≤ 0
    · rw [if_pos c, if_pos c, if_pos c]
      rcases h.1.2.2.2.2.2.2.1 with q | q
      · rw [q, if_neg (by decide)]; exact ⟨rfl, fun _ => rfl, (h.t 0).back (Or.inl rfl)⟩
      · rw [q, if_pos rfl]; exact ⟨rfl, fun _ => rfl, (h.t 0).back (Or.inl rfl)⟩
    · rw [if_neg c, if_neg c, if_neg c]
      exact ⟨rfl, fun h0 => absurd h0 (by decide), (h.t 0).t 1⟩
  · have n1 : ¬ (1 : Int32) = 0 := by decide
    rw [if_neg n1, if_neg n1, if_neg n1, if_neg n1]
    rcases h.1.2.2.2.2.2.2.1 with q | q
    · rw [q, if_neg (by decide)]; exact ⟨rfl, fun _ => rfl, (h.t 0).back (Or.inr rfl)⟩
    · rw [q, if_pos rfl]; exact ⟨rfl, fun _ => rfl, (h.t 0).back (Or.inr rfl)⟩
