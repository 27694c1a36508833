/-! which requests a search takes: the first mo that are chosen, by their numbers -/
def gatL (sel : Nat → Bool) (mo : Nat) : Nat → Nat → List Nat → List Nat
  | 0, _, l => l
  | n + 1, j, l => if mo ≤ l.length then l else if sel j = true then gatL sel mo n (j + 1) (l ++ [j]) else gatL sel mo n (j + 1) l
def FLs (μ : Sg) (l : List Nat) : Prop := μ 24 7 = nI l.length ∧ ∀ i, i < l.length → μ 29 i = nI (l.getD i 0) ∧ μ 32 i = 0
def selR (g : Nat → Int32) (wd : Int32) (j : Nat) : Bool := decide (g (350 + j) = 0) && (decide (wd = 0) || decide (¬ g (270 + j) < 0))
theorem FLs_push {μ : Sg} {l : List Nat} {j : Nat} (h : FLs μ l) (hl : l.length < 6) : FLs (s2 (s2 (s2 μ 29 (μ 24 7).toNatClampNeg (nI j)) 32 (μ 24 7).toNatClampNeg (0 : Int32)) 24 7 ((μ 24 7) + (1 : Int32))) (l ++ [j]) := by
  have e : (μ 24 7).toNatClampNeg = l.length := by rw [h.1, nI_clamp (by omega)]
  rw [e]
  refine ⟨?_, fun i hi => ?_⟩
  · rw [s2_e, h.1, List.length_append]; exact nI_1 _
  · rw [List.length_append] at hi
    show s2 μ 29 l.length (nI j) 29 i = _ ∧ s2 μ 32 l.length 0 32 i = 0
    by_cases q : i = l.length
    · subst q
      rw [s2_e, s2_e]
      simp
    · have hi2 : i < l.length := by simp at hi; omega
      rw [s2_n q, s2_n q]
      rw [show (l ++ [j]).getD i 0 = l.getD i 0 by simp [List.getElem?_append_left hi2]]
      exact h.2 i hi2
theorem isPending_eq {μ : Sg} {j : Nat} (hj : j < 80) : F_X10_isPending μ (nI j) = 0 ↔ ¬ μ 25 (350 + j) = 0 := by
  unfold F_X10_isPending
  rw [show ((350 : Int32) + nI j).toNatClampNeg = 350 + j from tnA (c := 350) (by omega)]
  by_cases h : μ 25 (350 + j) = 0
  · rw [if_pos h]; simp [h]
  · rw [if_neg h]; simp [h]
theorem L_searches_spec {μ : Sg} {wd mi mo : Int32} {mm m6 : Nat} (hm : mm ≤ 80) (em : μ 25 12 = nI mm) (h6 : m6 ≤ 6) (e6 : mo = nI m6) : ∀ (n j : Nat) (μ1 : Sg) (l : List Nat), j + n = 81 → j ≤ 80 → j ≤ mm → μ1 25 = μ 25 → l.length ≤ m6 → FLs μ1 l →
    ∃ μ2 : Sg, L_X10_searches_8 μ wd mi mo n (nI j) μ1 = F_X10_goes (s2 (s2 μ2 24 9 mi) 24 8 (-1 : Int32)) 0 (μ 25 8) (μ 25 9) ∧ μ2 25 = μ 25 ∧ FLs μ2 (gatL (selR (μ 25) wd) m6 (mm - j) j l) ∧ (gatL (selR (μ 25) wd) m6 (mm - j) j l).length ≤ m6 := by
  subst e6
  intro n
  induction n with
  | zero => intro j μ1 l h1 h2; omega
  | succ n ih =>
    intro j μ1 l hj h80 hjm h25 hl hF
    rw [L_X10_searches_8, h25, em, hF.1]
    by_cases h1 : nI mm ≤ nI j
    · rw [if_pos h1]
      have := le_of_le rfl rfl (by omega) (by omega) h1
      rw [show mm - j = 0 by omega]
      exact ⟨μ1, rfl, h25, hF, hl⟩
    rw [if_neg h1]
    have hlt := gt_of_nle rfl rfl (by omega) (by omega) h1
    rw [show mm - j = (mm - (j + 1)) + 1 by omega]
    by_cases h2 : nI m6 ≤ nI l.length
    · rw [if_pos h2]
      have := le_of_le rfl rfl (by omega) (by omega) h2
      rw [gatL, if_pos this]
      exact ⟨μ1, rfl, h25, hF, hl⟩
    rw [if_neg h2]
    have hl2 := gt_of_nle rfl rfl (by omega) (by omega) h2
    rw [gatL, if_neg (show ¬ m6 ≤ l.length by omega), show nI j + (1 : Int32) = nI (j + 1) from nI_1 j]
    have ip := isPending_eq (μ := μ1) (j := j) (by omega)
    rw [h25] at ip
    have push : FLs (s2 (s2 (s2 μ1 29 (nI l.length).toNatClampNeg (nI j)) 32 (nI l.length).toNatClampNeg (0 : Int32)) 24 7 ((nI l.length) + (1 : Int32))) (l ++ [j]) := by
      have := FLs_push (j := j) hF (by omega)
      rwa [hF.1] at this
    by_cases h3 : F_X10_isPending μ1 (nI j) = 0
    · rw [if_pos h3, if_neg (show ¬ selR (μ 25) wd j = true by unfold selR; simp [ip.mp h3])]
      exact ih (j + 1) μ1 l (by omega) (by omega) (by omega) h25 hl hF
    have hp : μ 25 (350 + j) = 0 := by
      by_cases q : μ 25 (350 + j) = 0
      · exact q
      · exact absurd (ip.mpr q) h3
    rw [if_neg h3]
    by_cases h4 : wd = 0
    · rw [if_pos h4, if_pos (show selR (μ 25) wd j = true by unfold selR; simp [hp, h4])]
      exact ih (j + 1) (s2 (s2 (s2 μ1 29 (nI l.length).toNatClampNeg (nI j)) 32 (nI l.length).toNatClampNeg (0 : Int32)) 24 7 ((nI l.length) + (1 : Int32))) (l ++ [j]) (by omega) (by omega) (by omega) h25 (by rw [List.length_append]; simp; omega) push
    rw [if_neg h4, show ((270 : Int32) + nI j).toNatClampNeg = 270 + j from tnA (c := 270) (by omega)]
    by_cases h5 : μ 25 (270 + j) < 0
    · rw [if_pos h5, if_neg (show ¬ selR (μ 25) wd j = true by unfold selR; simp [hp, h4, h5])]
      exact ih (j + 1) μ1 l (by omega) (by omega) (by omega) h25 hl hF
    · rw [if_neg h5, if_pos (show selR (μ 25) wd j = true by unfold selR; simp [hp, h5])]
      exact ih (j + 1) (s2 (s2 (s2 μ1 29 (nI l.length).toNatClampNeg (nI j)) 32 (nI l.length).toNatClampNeg (0 : Int32)) 24 7 ((nI l.length) + (1 : Int32))) (l ++ [j]) (by omega) (by omega) (by omega) h25 (by rw [List.length_append]; simp; omega) push
/-- the members of a gathering lie below the end, or were there before -/
theorem gatL_mem (sel : Nat → Bool) (mo : Nat) : ∀ (n j : Nat) (l : List Nat) (x : Nat), x ∈ gatL sel mo n j l → x ∈ l ∨ (j ≤ x ∧ x < j + n ∧ sel x = true) := by
  intro n
  induction n with
  | zero => intro j l x h; exact Or.inl h
  | succ n ih =>
    intro j l x h
    rw [gatL] at h
    split at h
    · exact Or.inl h
    · split at h
      · rename_i hs
        rcases ih _ _ _ h with q | q
        · rcases List.mem_append.mp q with q | q
          · exact Or.inl q
          · simp at q; subst q; exact Or.inr ⟨by omega, by omega, hs⟩
        · exact Or.inr ⟨by omega, by omega, q.2.2⟩
      · rcases ih _ _ _ h with q | q
        · exact Or.inl q
        · exact Or.inr ⟨by omega, by omega, q.2.2⟩
theorem FLs.few {μ : Sg} {l : List Nat} (h : FLs μ l) (hl : l.length ≤ 6) (hm : ∀ x ∈ l, x < 80) : FEW μ l.length := by
  refine ⟨hl, h.1, fun i hi => ?_⟩
  rw [(h.2 i hi).1]
  have : l.getD i 0 ∈ l := by
    rw [List.getD_eq_getElem?_getD, List.getElem?_eq_getElem hi]; simp
  exact ⟨_, hm _ this, rfl⟩
/-- a search's whole answer, of the reference -/
theorem searches_spec {μ : Sg} {wd mi mo : Int32} {mm m6 : Nat} (hm : mm ≤ 80) (em : μ 25 12 = nI mm) (h6 : m6 ≤ 6) (e6 : mo = nI m6) :
    F_X10_searches μ wd mi mo 25 = μ 25 ∧ ∃ (fm : Nat → Int32), (∀ i, i < (gatL (selR (μ 25) wd) m6 mm 0 []).length → fm i = nI ((gatL (selR (μ 25) wd) m6 mm 0 []).getD i 0)) ∧
      FEW (F_X10_searches μ wd mi mo) (gatL (selR (μ 25) wd) m6 mm 0 []).length ∧ F_X10_searches μ wd mi mo 29 = fm ∧ ∃ (ord : Nat → Int32) (b0 : Nat → Int32),
      Bq (gatL (selR (μ 25) wd) m6 mm 0 []).length (RR (gatL (selR (μ 25) wd) m6 mm 0 []).length (enR (μ 25) fm) (cyR (μ 25) fm) (okR (μ 25) fm mi) fm 7 (fun _ => false) ord 0 (μ 25 8) (μ 25 9) (-1, b0)) (F_X10_searches μ wd mi mo) := by
  obtain ⟨μ2, e1, e25, hF, hl⟩ := L_searches_spec (wd := wd) (mi := mi) hm em h6 e6 81 0 (s2 μ 24 7 0) [] (by omega) (by omega) (by omega) rfl (by simp) ⟨rfl, fun i hi => by simp at hi⟩
  rw [Nat.sub_zero] at hF hl
  generalize hL : gatL (selR (μ 25) wd) m6 mm 0 [] = L at hF hl
  have hmem : ∀ x ∈ L, x < 80 := by
    intro x hx
    rw [← hL] at hx
    rcases gatL_mem _ _ _ _ _ _ hx with q | q
    · simp at q
    · omega
  have hF3 : FLs (s2 (s2 μ2 24 9 mi) 24 8 (-1)) L := ⟨hF.1, hF.2⟩
  have hf := hF3.few (by omega) hmem
  have eS : F_X10_searches μ wd mi mo = F_X10_goes (s2 (s2 μ2 24 9 mi) 24 8 (-1 : Int32)) 0 (μ 25 8) (μ 25 9) := e1
  obtain ⟨a, b, c, d⟩ := goes_spec 7 (s2 (s2 μ2 24 9 mi) 24 8 (-1)) 0 (μ 25 8) (μ 25 9) L.length 0 (fun _ => false) (μ2 30) (-1, μ2 31) hf rfl (by omega) (by omega)
    (fun i hi => ⟨fun _ => rfl, fun _ => (hF3.2 i hi).2⟩) (fun i hi => by omega) ⟨rfl, fun i hi => rfl⟩
  rw [eS]
  refine ⟨(show F_goesD 7 _ _ _ _ 25 = _ from a.1).trans e25, μ2 29, fun i hi => (hF.2 i hi).1, hf.mv a, (show F_goesD 7 _ _ _ _ 29 = _ from a.2.1), μ2 30, μ2 31, ?_⟩
  have : RM (s2 (s2 μ2 24 9 mi) 24 8 (-1)) L.length = RR L.length (enR (μ 25) (μ2 29)) (cyR (μ 25) (μ2 29)) (okR (μ 25) (μ2 29) mi) (μ2 29) := by
    show RR L.length (enR (μ2 25) (μ2 29)) (cyR (μ2 25) (μ2 29)) (okR (μ2 25) (μ2 29) mi) (μ2 29) = _
    rw [e25]
  rw [this] at b
  exact b
theorem itr_inv {β : Type} (g : Nat → β → β) (P : β → Prop) (f : Nat) (hs : ∀ i b, i < f → P b → P (g i b)) : ∀ (n i : Nat) (b : β), i + n ≤ f → P b → P (itr g n i b) := by
  intro n
  induction n with
  | zero => intro i b _ h; exact h
  | succ n ih => intro i b hi h; exact ih (i + 1) _ (by omega) (hs i b (by omega) h)
theorem RR_all {f : Nat} {en : Int32 → Int32 → Nat → Int32} {cy : Nat → Int32} {ok : Nat → Int32 → Bool} {fm : Nat → Int32} (P : Int32 → Prop) (hfm : ∀ i, i < f → P (fm i)) : ∀ (D : Nat) (us : Nat → Bool) (ord : Nat → Int32) (k : Nat) (t am : Int32) (B : BB), k ≤ f → (∀ i, i < k → P (ord i)) → (B.1 < 0 ∨ ∀ i, i < f → P (B.2 i)) → ((RR f en cy ok fm D us ord k t am B).1 < 0 ∨ ∀ i, i < f → P ((RR f en cy ok fm D us ord k t am B).2 i)) := by
  intro D
  induction D with
  | zero => intro us ord k t am B _ _ h; exact h
  | succ D ih =>
    intro us ord k t am B hk ho hB
    rw [RR]
    by_cases h1 : k = f
    · subst h1
      rw [if_pos rfl]
      split
      · exact Or.inr ho
      · split
        · exact hB
        · exact Or.inr ho
    · rw [if_neg h1]
      refine itr_inv _ (fun B : BB => B.1 < 0 ∨ ∀ i, i < f → P (B.2 i)) f (fun i b hi hb => ?_) f 0 B (by omega) hB
      show ((if us i = true then b else if ok i (en t am i) = true then RR f en cy ok fm D (updb us i) (upd ord k (fm i)) (k + 1) (en t am i) (cy i) b else b : BB)).1 < 0 ∨ _
      split
      · exact hb
      · split
        · refine ih _ _ _ _ _ _ (by omega) (fun q hq => ?_) hb
          unfold upd
          split
          · exact hfm i hi
          · exact ho q (by omega)
        · exact hb
