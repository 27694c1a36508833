/-! with no deadlines minded an order is always found -/
def ucnt (us : Nat → Bool) : Nat → Nat
  | 0 => 0
  | n + 1 => ucnt us n + (if us n = true then 0 else 1)
theorem ucnt_same {us us' : Nat → Bool} : ∀ n, (∀ b, b < n → us' b = us b) → ucnt us' n = ucnt us n := by
  intro n
  induction n with
  | zero => intro _; rfl
  | succ n ih => intro h; unfold ucnt; rw [ih (fun b hb => h b (by omega)), h n (by omega)]
theorem ucnt_upd {us : Nat → Bool} {i : Nat} (hi : us i = false) : ∀ n, i < n → ucnt (updb us i) n + 1 = ucnt us n := by
  intro n
  induction n with
  | zero => intro h; omega
  | succ n ih =>
    intro h
    unfold ucnt
    by_cases e : i = n
    · subst e
      rw [ucnt_same (us := us) i (fun b hb => by unfold updb; rw [if_neg (by omega)]), hi]
      unfold updb
      rw [if_pos rfl]
      simp
    · have := ih (by omega)
      have e2 : updb us i n = us n := by unfold updb; rw [if_neg (fun z => e z.symm)]
      rw [e2]
      omega
theorem ucnt_ex {us : Nat → Bool} : ∀ n, 0 < ucnt us n → ∃ i, i < n ∧ us i = false := by
  intro n
  induction n with
  | zero => intro h; exact absurd h (Nat.lt_irrefl 0)
  | succ n ih =>
    intro h
    cases q : us n with
    | false => exact ⟨n, by omega, q⟩
    | true =>
      unfold ucnt at h; rw [q] at h
      obtain ⟨i, a, b⟩ := ih (by simp at h; omega)
      exact ⟨i, by omega, b⟩
theorem ucnt_all : ∀ n, ucnt (fun _ => false) n = n := by
  intro n
  induction n with
  | zero => rfl
  | succ n ih => unfold ucnt; rw [ih]; rfl
theorem itr_hit {β : Type} (g : Nat → β → β) (P : β → Prop) (f i0 : Nat) (hs : ∀ i b, i < f → P b → P (g i b)) (h0 : ∀ b, P (g i0 b)) : ∀ (n i : Nat) (b : β), i + n ≤ f → i ≤ i0 → i0 < i + n → P (itr g n i b) := by
  intro n
  induction n with
  | zero => intro i b _ h1 h2; omega
  | succ n ih =>
    intro i b hi h1 h2
    rw [itr]
    by_cases e : i = i0
    · rw [e]
      exact itr_inv g P f hs n (i0 + 1) _ (by omega) (h0 b)
    · exact ih (i + 1) _ (by omega) (by omega) (by omega)
theorem RR_nn {σ0 : Sg} {f : Nat} {en : Int32 → Int32 → Nat → Int32} {cy : Nat → Int32} {ok : Nat → Int32 → Bool} {fm : Nat → Int32} (h : ENS σ0 f en cy ok fm) (h0 : σ0 10 0 = nI f) : ∀ (D : Nat) (us : Nat → Bool) (ord : Nat → Int32) (k : Nat) (t am : Int32) (B : BB), k ≤ f → gdt t k → cyl am → ¬ B.1 < 0 → ¬ (RR f en cy ok fm D us ord k t am B).1 < 0 := by
  have h6 := h.1
  intro D
  induction D with
  | zero => intro us ord k t am B _ _ _ hB; exact hB
  | succ D ih =>
    intro us ord k t am B hk ht ha hB
    rw [RR]
    by_cases c : k = f
    · rw [if_pos c, if_neg hB]
      split
      · exact hB
      · obtain ⟨T, hT, eT⟩ := ht
        show ¬ t < 0
        rw [eT]; exact nI_nlt0 (by omega)
    · rw [if_neg c]
      refine itr_inv _ (fun B : BB => ¬ B.1 < 0) f (fun i b hi hb => ?_) f 0 B (by omega) hB
      show ¬ ((if us i = true then b else if ok i (en t am i) = true then RR f en cy ok fm D (updb us i) (upd ord k (fm i)) (k + 1) (en t am i) (cy i) b else b : BB)).1 < 0
      split
      · exact hb
      · split
        · obtain ⟨s1, s2', -⟩ := h.step h0 hi (by omega) ht ha
          exact ih _ _ _ _ _ _ (by omega) s1 s2' hb
        · exact hb
theorem RR_found {σ0 : Sg} {f : Nat} {en : Int32 → Int32 → Nat → Int32} {cy : Nat → Int32} {ok : Nat → Int32 → Bool} {fm : Nat → Int32} (h : ENS σ0 f en cy ok fm) (h0 : σ0 10 0 = nI f) (hok : ∀ i e, ok i e = true) : ∀ (D : Nat) (us : Nat → Bool) (ord : Nat → Int32) (k : Nat) (t am : Int32) (B : BB), k ≤ f → f - k < D → ucnt us f = f - k → gdt t k → cyl am → ¬ (RR f en cy ok fm D us ord k t am B).1 < 0 := by
  have h6 := h.1
  intro D
  induction D with
  | zero => intro us ord k t am B _ hD; omega
  | succ D ih =>
    intro us ord k t am B hk hD hu ht ha
    rw [RR]
    by_cases c : k = f
    · rw [if_pos c]
      obtain ⟨T, hT, eT⟩ := ht
      have hn : ¬ t < 0 := by rw [eT]; exact nI_nlt0 (by omega)
      split
      · exact hn
      · rename_i hB
        split
        · exact hB
        · exact hn
    · rw [if_neg c]
      obtain ⟨i0, hi0, hus⟩ := ucnt_ex f (by omega : 0 < ucnt us f)
      refine itr_hit _ (fun B : BB => ¬ B.1 < 0) f i0 (fun i b hi hb => ?_) (fun b => ?_) f 0 B (by omega) (by omega) (by omega)
      · show ¬ ((if us i = true then b else if ok i (en t am i) = true then RR f en cy ok fm D (updb us i) (upd ord k (fm i)) (k + 1) (en t am i) (cy i) b else b : BB)).1 < 0
        split
        · exact hb
        · split
          · obtain ⟨s1, s2', -⟩ := h.step h0 hi (by omega) ht ha
            exact RR_nn h h0 D _ _ _ _ _ _ (by omega) s1 s2' hb
          · exact hb
      · show ¬ ((if us i0 = true then b else if ok i0 (en t am i0) = true then RR f en cy ok fm D (updb us i0) (upd ord k (fm i0)) (k + 1) (en t am i0) (cy i0) b else b : BB)).1 < 0
        rw [hus, if_neg (by decide), hok, if_pos rfl]
        obtain ⟨s1, s2', -⟩ := h.step h0 hi0 (by omega) ht ha
        have := ucnt_upd hus f hi0
        exact ih _ _ _ _ _ _ (by omega) (by omega) (by omega) s1 s2'
theorem search_found {σ μ : Sg} (h : SIM σ μ) (ha : AR (μ 25)) {m : Nat} (hm : m ≤ 80) (em : μ 25 12 = nI m) {on : Int32} : ¬ F_X10_searches μ on 0 6 24 8 < 0 := by
  obtain ⟨s25, fm, hfm, hfew, s29, ord, b0, hB⟩ := searches_spec (wd := on) (mi := 0) (mo := 6) (m6 := 6) hm em (by omega) rfl
  have hG := gather_GI h ha hm em (on := on) (he := 0)
  have hmem : ∀ i, i < (gatL (selR (μ 25) on) 6 m 0 []).length → (gatL (selR (μ 25) on) 6 m 0 []).getD i 0 < m := fun i hi => by
    have : (gatL (selR (μ 25) on) 6 m 0 []).getD i 0 ∈ gatL (selR (μ 25) on) 6 m 0 [] := by
      rw [List.getD_eq_getElem?_getD, List.getElem?_eq_getElem hi]; simp
    rcases gatL_mem _ _ _ _ _ _ this with q | q
    · simp at q
    · omega
  have hens := ens_of h ha hm em (on := on) hfew.1 hmem hfm hG
  have hl := hfew.1
  obtain ⟨k, hk, ek⟩ := h.1.2.2.1.2.2.2.2
  rw [← hB.1]
  exact RR_found hens hG.2.1 (fun i e => by unfold okR; simp) 7 (fun _ => false) ord 0 _ _ _ (by omega) (by omega) (by rw [ucnt_all]; omega) ⟨k, by omega, ek⟩ h.1.2.1.2.2.1
/-- how many a search takes -/
theorem gatL_len {g : Nat → Int32} : ∀ (n j : Nat) (l : List Nat), l.length + (pcnt g (j + n) - pcnt g j) ≤ 6 → (gatL (selR g 0) 6 n j l).length = l.length + (pcnt g (j + n) - pcnt g j) := by
  have mono : ∀ n j, pcnt g j ≤ pcnt g (j + n) := by
    intro n
    induction n with
    | zero => intro j; exact Nat.le_refl _
    | succ n ih =>
      intro j
      have := ih j
      show _ ≤ pcnt g (j + n) + _
      omega
  intro n
  induction n with
  | zero => intro j l h; rw [gatL, Nat.add_zero]; omega
  | succ n ih =>
    intro j l h
    rw [gatL]
    have e1 : pcnt g (j + 1) = pcnt g j + (if g (350 + j) = 0 then 1 else 0) := rfl
    have hm := mono n (j + 1)
    rw [show j + (n + 1) = (j + 1) + n by omega] at h ⊢
    by_cases c : 6 ≤ l.length
    · rw [if_pos c]
      have := mono n (j + 1)
      split at e1 <;> omega
    · rw [if_neg c]
      by_cases c2 : g (350 + j) = 0
      · rw [if_pos (show selR g 0 j = true by unfold selR; simp [c2])]
        rw [if_pos c2] at e1
        rw [ih (j + 1) (l ++ [j]) (by rw [List.length_append]; simp; omega), List.length_append]
        simp
        omega
      · rw [if_neg (show ¬ selR g 0 j = true by unfold selR; simp [c2])]
        rw [if_neg c2] at e1
        rw [ih (j + 1) l (by omega)]
        omega
/-- the relation behind a search -/
theorem SIM.srch {σ μ σ' μ' : Sg} (h : SIM σ μ) (hs : ∀ c, OUT c → σ' c = σ c) (hf : FRU μ μ') : SIM σ' μ' := by
  refine ⟨?_, ?_⟩
  · rw [hf.1 25 (by omega) (by omega) (by omega) (by omega) (by omega)]
    exact SIMg.cells h.1 (fun c hc => hs c (by unfold OUT; omega))
  · unfold RTx
    rw [hs 19 (by unfold OUT; omega), hs 23 (by unfold OUT; omega), hf.2 2 (by omega) (by omega) (by omega), hf.2 5 (by omega) (by omega) (by omega), hf.1 27 (by omega) (by omega) (by omega) (by omega) (by omega)]
    exact h.2
theorem srch_fr {σ : Sg} {on he : Int32} : ∀ c, OUT c → F_X3_run (F_X3_gather σ on he) c = σ c := fun c hc => (run_fr (by unfold OUT at hc; unfold OUT2; omega)).trans (gather_fr hc)
theorem few_eq {σ μ : Sg} (h : SIM σ μ) : (X_X9_requireFewPending σ = 0 ∧ F_X10_pending (s2 μ 24 1 0) ≤ 6) ∨ (X_X9_requireFewPending σ = 4 ∧ ¬ F_X10_pending (s2 μ 24 1 0) ≤ 6) := by
  have e : F_X10_pending (s2 μ 24 1 0) = σ 5 1 := (S_pendingRequests h).1.symm
  rw [e]
  unfold X_X9_requireFewPending
  by_cases c : σ 5 1 ≤ 6
  · rw [if_pos c]; exact Or.inl ⟨rfl, c⟩
  · rw [if_neg c]; exact Or.inr ⟨rfl, c⟩
theorem S_bestFinish {σ μ : Sg} (h : SIM σ μ) (ha : AR (μ 25)) : hcd [4] (X_X9_bestFinish σ) = (F_X10_bestFinish μ).2 24 1 ∧ (X_X9_bestFinish σ = 0 → (F_X9_bestFinish σ).1 = (F_X10_bestFinish μ).1) ∧ SIM (F_X9_bestFinish σ).2 (F_X10_bestFinish μ).2 := by
  obtain ⟨m, hm, em⟩ := h.1.2.1.2.1
  unfold X_X9_bestFinish F_X9_bestFinish F_X10_bestFinish
  rcases few_eq h with ⟨c1, c2⟩ | ⟨c1, c2⟩
  · rw [c1, if_pos rfl, if_pos rfl, if_pos c2]
    obtain ⟨-, -, -, k4⟩ := search_eq (h.t 0) ha hm em (on := 0) (he := 0)
    have hf := search_found (h.t 0) ha hm em (on := 0)
    have fr := searches_FRU (wd := 0) (mi := 0) (mo := 6) (s2 μ 24 1 0)
    refine ⟨?_, fun _ => ?_, (h.t 0).srch srch_fr fr⟩
    · show (0 : Int32) = F_X10_searches (s2 μ 24 1 0) 0 0 6 24 1
      rw [fr.2 1 (by omega) (by omega) (by omega)]; rfl
    · rcases k4 with ⟨q, -⟩ | ⟨T, hT, q1, q2, -⟩
      · exact absurd q hf
      · exact q2.trans q1.symm
  · rw [c1, if_neg (show ¬ (4 : Nat) = 0 by decide), if_neg (show ¬ (4 : Nat) = 0 by decide), if_neg c2]
    exact ⟨rfl, fun h0 => absurd h0 (by decide), (h.t 0).t 1⟩
theorem S_canMeetDeadlines {σ μ : Sg} (h : SIM σ μ) (ha : AR (μ 25)) : hcd [4] (X_X9_canMeetDeadlines σ) = (F_X10_canMeetDeadlines μ).2 24 1 ∧ (X_X9_canMeetDeadlines σ = 0 → (F_X9_canMeetDeadlines σ).1 = (F_X10_canMeetDeadlines μ).1) ∧ SIM (F_X9_canMeetDeadlines σ).2 (F_X10_canMeetDeadlines μ).2 := by
  obtain ⟨m, hm, em⟩ := h.1.2.1.2.1
  unfold X_X9_canMeetDeadlines F_X9_canMeetDeadlines F_X10_canMeetDeadlines
  rcases few_eq h with ⟨c1, c2⟩ | ⟨c1, c2⟩
  · rw [c1, if_pos rfl, if_pos rfl, if_pos c2]
    obtain ⟨-, -, -, k4⟩ := search_eq (h.t 0) ha hm em (on := 0) (he := 1)
    have fr := searches_FRU (wd := 0) (mi := 1) (mo := 6) (s2 μ 24 1 0)
    have f1 : F_X10_searches (s2 μ 24 1 0) 0 1 6 24 1 = 0 := (fr.2 1 (by omega) (by omega) (by omega)).trans rfl
    unfold F_X3_hasFound
    rcases k4 with ⟨q1, q2⟩ | ⟨T, hT, q1, q2, -⟩
    · rw [if_pos q1, if_pos q2]
      exact ⟨f1.symm, fun _ => rfl, (h.t 0).srch srch_fr fr⟩
    · rw [if_neg (by rw [q1]; exact nI_nlt0 (by omega)), if_neg (by rw [q2, show (1000000000 : Int32) = nI 1000000000 from rfl, nI_eq (by omega) (by omega)]; omega)]
      exact ⟨f1.symm, fun _ => rfl, (h.t 0).srch srch_fr fr⟩
  · rw [c1, if_neg (show ¬ (4 : Nat) = 0 by decide), if_neg (show ¬ (4 : Nat) = 0 by decide), if_neg c2]
    exact ⟨rfl, fun h0 => absurd h0 (by decide), (h.t 0).t 1⟩
theorem S_bestRequest {σ μ : Sg} {po : Int32} (h : SIM σ μ) (ha : AR (μ 25)) : hcd [4, 3] (X_X9_bestRequest σ po) = (F_X10_bestRequest μ po).2 24 1 ∧ (X_X9_bestRequest σ po = 0 → (F_X9_bestRequest σ po).1 = (F_X10_bestRequest μ po).1) ∧ SIM (F_X9_bestRequest σ po).2 (F_X10_bestRequest μ po).2 := by
  obtain ⟨m, hm, em⟩ := h.1.2.1.2.1
  unfold X_X9_bestRequest F_X9_bestRequest F_X10_bestRequest
  rcases few_eq h with ⟨c1, c2⟩ | ⟨c1, c2⟩
  · rw [c1, if_pos rfl, if_pos rfl, if_pos c2]
    obtain ⟨k1, k2, k3, k4⟩ := search_eq (h.t 0) ha hm em (on := 0) (he := 0)
    have hf := search_found (h.t 0) ha hm em (on := 0)
    have fr := searches_FRU (wd := 0) (mi := 0) (mo := 6) (s2 μ 24 1 0)
    have f1 : F_X10_searches (s2 μ 24 1 0) 0 0 6 24 1 = 0 := (fr.2 1 (by omega) (by omega) (by omega)).trans rfl
    have ep : F_X10_pending (s2 μ 24 1 0) = nI (pcnt (μ 25) m) := pending_eq (μ := s2 μ 24 1 0) hm em
    have e51 : σ 5 1 = nI (pcnt (μ 25) m) := (h.1.2.2.2.1.2 m hm em).1
    have hpl := pcnt_le (μ 25) m
    rw [ep] at c2
    have hp6 := le_of_le (y := 6) (b := 6) rfl rfl (by omega) (by omega) c2
    have el : (gatL (selR (s2 μ 24 1 0 25) 0) 6 m 0 []).length = pcnt (μ 25) m := by
      have := gatL_len (g := μ 25) m 0 [] (by rw [Nat.zero_add]; show 0 + (pcnt (μ 25) m - 0) ≤ 6; omega)
      rw [Nat.zero_add] at this
      exact this.trans (by show 0 + (pcnt (μ 25) m - 0) = _; omega)
    rw [el] at k1 k2 k4
    rw [k2, e51, in_eq]
    by_cases c3 : F_X10_in po 0 (nI (pcnt (μ 25) m) - 1) = 0
    · rw [if_pos c3, if_pos c3, if_pos c3]
      exact ⟨rfl, fun h0 => absurd h0 (by decide), ((h.t 0).srch (fun _ _ => rfl) fr).t 2⟩
    · rw [if_neg c3, if_neg c3, if_neg c3]
      refine ⟨f1.symm, fun _ => ?_, (h.t 0).srch srch_fr fr⟩
      obtain ⟨a, b⟩ := in_of c3
      have hpos : 1 ≤ pcnt (μ 25) m := by
        by_cases z : pcnt (μ 25) m = 0
        · rw [z] at b
          exact absurd (Int32.le_trans a b) (by decide)
        · omega
      rw [nI_prd hpos] at b
      obtain ⟨j, hj, ej⟩ := nI_rng (by omega) ⟨a, b⟩
      show F_X3_requestAt _ po = F_X10_searches (s2 μ 24 1 0) 0 0 6 31 po.toNatClampNeg
      unfold F_X3_requestAt
      rw [ej, if_neg (w5 (by omega)), nI_clamp (by omega)]
      rcases k4 with ⟨q, -⟩ | ⟨T, hT, q1, q2, q3⟩
      · exact absurd q hf
      · exact q3 j (by omega)
  · rw [c1, if_neg (show ¬ (4 : Nat) = 0 by decide), if_neg (show ¬ (4 : Nat) = 0 by decide), if_neg c2]
    exact ⟨rfl, fun h0 => absurd h0 (by decide), (h.t 0).t 1⟩
