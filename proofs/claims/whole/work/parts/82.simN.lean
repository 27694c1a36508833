/-! THE SEARCH of the class is the plain one, cut where it can't be better -/
def CS (σ0 : Sg) (f : Nat) (σ : Sg) : Prop := (∀ c, c ≠ 10 → c ≠ 16 → c ≠ 17 → c ≠ 18 → σ c = σ0 c) ∧ σ 10 0 = nI f
def Cq (f : Nat) (B : BB) (σ : Sg) : Prop := (B.1 < 0 ∧ σ 10 1 = 1000000000) ∨ (∃ T : Nat, T ≤ 300000 ∧ B.1 = nI T ∧ σ 10 1 = nI T ∧ ∀ i, i < f → σ 18 i = B.2 i)
def Us (f : Nat) (us : Nat → Bool) (σ : Sg) : Prop := ∀ i, i < f → (σ 16 i = 0 ↔ us i = false)
def Os (k : Nat) (ord : Nat → Int32) (σ : Sg) : Prop := ∀ i, i < k → σ 17 i = ord i
def gdt (t : Int32) (k : Nat) : Prop := ∃ T : Nat, T ≤ 200000 + 916 * k ∧ t = nI T
def endC (σ : Sg) (t am : Int32) (i : Nat) : Int32 := ((t + (F_X1_ticksOfSeek σ am (σ 12 i))) + (F_X1_ticksOfWait (σ 13 i) (t + (F_X1_ticksOfSeek σ am (σ 12 i))))) + (σ 14 i)
def ENS (σ0 : Sg) (f : Nat) (en : Int32 → Int32 → Nat → Int32) (cy : Nat → Int32) (ok : Nat → Int32 → Bool) (fm : Nat → Int32) : Prop :=
  f ≤ 6 ∧ (∀ (σ : Sg) (t am : Int32) (i k : Nat), CS σ0 f σ → i < f → k ≤ 6 → gdt t k → cyl am → endC σ t am i = en t am i ∧ ∃ T T' : Nat, t = nI T ∧ en t am i = nI T' ∧ T ≤ T' ∧ T' ≤ T + 916 ∧ T ≤ 200000 + 916 * k) ∧ (∀ i, i < f → σ0 12 i = cy i ∧ cyl (cy i) ∧ σ0 11 i = fm i) ∧ ∀ (t am : Int32) (i k : Nat), i < f → k ≤ 6 → gdt t k → cyl am → (¬ σ0 15 i < en t am i ↔ ok i (en t am i) = true)
theorem itr_same {β : Type} (g : Nat → β → β) (f : Nat) (b : β) (hs : ∀ i, i < f → g i b = b) : ∀ (n i : Nat), i + n ≤ f → itr g n i b = b := by
  intro n
  induction n with
  | zero => intro i _; rfl
  | succ n ih => intro i hi; rw [itr, hs i (by omega)]; exact ih (i + 1) (by omega)
set_option maxRecDepth 100000 in
theorem ENS.step {σ0 : Sg} {f : Nat} {en : Int32 → Int32 → Nat → Int32} {cy : Nat → Int32} {ok : Nat → Int32 → Bool} {fm : Nat → Int32} (h : ENS σ0 f en cy ok fm) (h0 : σ0 10 0 = nI f) {t am : Int32} {i k : Nat} (hi : i < f) (hk : k < f) (ht : gdt t k) (ha : cyl am) : gdt (en t am i) (k + 1) ∧ cyl (cy i) ∧ ∃ T T' : Nat, t = nI T ∧ en t am i = nI T' ∧ T ≤ T' ∧ T' ≤ 300000 := by
  obtain ⟨h6, h1, h2, h3⟩ := h
  obtain ⟨e, T, T', e1, e2, l1, l2, l3⟩ := h1 σ0 t am i k ⟨fun _ _ _ _ _ => rfl, h0⟩ hi (by omega) ht ha
  exact ⟨⟨T', by omega, e2⟩, (h2 i hi).2.1, T, T', e1, e2, l1, by omega⟩
theorem RR_prune {σ0 : Sg} {f : Nat} {en : Int32 → Int32 → Nat → Int32} {cy : Nat → Int32} {ok : Nat → Int32 → Bool} {fm : Nat → Int32} (h : ENS σ0 f en cy ok fm) (h0 : σ0 10 0 = nI f) : ∀ (D : Nat) (us : Nat → Bool) (ord : Nat → Int32) (k : Nat) (t am : Int32) (B : BB), k ≤ f → gdt t k → cyl am → ¬ B.1 < 0 → B.1 ≤ t → RR f en cy ok fm D us ord k t am B = B := by
  intro D
  induction D with
  | zero => intro us ord k t am B _ _ _ _ _; rfl
  | succ D ih =>
    intro us ord k t am B hk ht ha hB hBt
    rw [RR]
    by_cases c : k = f
    · rw [if_pos c, if_neg hB, if_pos hBt]
    · rw [if_neg c]
      refine itr_same _ f B (fun i hi => ?_) f 0 (by omega)
      show (if us i = true then B else if ok i (en t am i) = true then RR f en cy ok fm D (updb us i) (upd ord k (fm i)) (k + 1) (en t am i) (cy i) B else B) = B
      split
      · rfl
      · split
        · obtain ⟨s1, s2', T, T', e1, e2, l1, l2⟩ := h.step h0 hi (by omega) ht ha
          refine ih _ _ _ _ _ _ (by omega) s1 s2' hB (Int32.le_trans hBt ?_)
          rw [e2, e1, nI_leI (by omega) (by omega)]
          exact l1
        · rfl
def CSpec (σ0 : Sg) (f : Nat) (en : Int32 → Int32 → Nat → Int32) (cy : Nat → Int32) (ok : Nat → Int32 → Bool) (fm : Nat → Int32) (rc : Sg → Int32 → Int32 → Int32 → Sg) (D : Nat) : Prop := ∀ (σ : Sg) (dp am t : Int32) (k : Nat) (us : Nat → Bool) (ord : Nat → Int32) (B : BB), CS σ0 f σ → dp = nI k → k ≤ f → f - k < D → Us f us σ → Os k ord σ → Cq f B σ → gdt t k → cyl am →
  CS σ0 f (rc σ dp am t) ∧ Cq f (RR f en cy ok fm D us ord k t am B) (rc σ dp am t) ∧ Us f us (rc σ dp am t) ∧ Os k ord (rc σ dp am t)
def cst (f : Nat) (en : Int32 → Int32 → Nat → Int32) (cy : Nat → Int32) (ok : Nat → Int32 → Bool) (fm : Nat → Int32) (D : Nat) (us : Nat → Bool) (ord : Nat → Int32) (k : Nat) (t am : Int32) (i : Nat) (B : BB) : BB := if us i = true then B else if ok i (en t am i) = true then RR f en cy ok fm D (updb us i) (upd ord k (fm i)) (k + 1) (en t am i) (cy i) B else B
theorem w5 {j : Nat} (h : j ≤ 5) : ¬ F_X9_isWithin (nI j) 0 5 = 0 := by
  unfold F_X9_isWithin
  rw [if_neg (nI_nlt0 (by omega)), if_neg (by rw [show (5 : Int32) = nI 5 from rfl, nI_ltI (by omega) (by omega)]; omega)]
  decide
set_option maxRecDepth 100000 in
theorem L43_spec {σ0 : Sg} {f : Nat} {en : Int32 → Int32 → Nat → Int32} {cy : Nat → Int32} {ok : Nat → Int32 → Bool} {fm : Nat → Int32} (h : ENS σ0 f en cy ok fm) (h0 : σ0 10 0 = nI f) {rc : Sg → Int32 → Int32 → Int32 → Sg} {D : Nat} (hrc : CSpec σ0 f en cy ok fm rc D) {σ : Sg} {dp am t : Int32} {k : Nat} {us : Nat → Bool} {ord : Nat → Int32} (ek : dp = nI k) (hk : k < f) (hD : f - k < D + 1) (ht : gdt t k) (ha : cyl am) :
    ∀ (n i : Nat) (σ1 : Sg) (B : BB), i + n = 7 → i ≤ f → CS σ0 f σ1 → Us f us σ1 → Os k ord σ1 → Cq f B σ1 →
    CS σ0 f (L_X3_tryFrom_43 (G_X3_tryNext rc) σ dp am t n (nI i) σ1) ∧ Cq f (itr (cst f en cy ok fm D us ord k t am) (f - i) i B) (L_X3_tryFrom_43 (G_X3_tryNext rc) σ dp am t n (nI i) σ1) ∧ Us f us (L_X3_tryFrom_43 (G_X3_tryNext rc) σ dp am t n (nI i) σ1) ∧ Os k ord (L_X3_tryFrom_43 (G_X3_tryNext rc) σ dp am t n (nI i) σ1) := by
  obtain ⟨h6, h1, h2, h3⟩ := h
  intro n
  induction n with
  | zero => intro i σ1 B h1 h2; omega
  | succ n ih =>
    intro i σ1 B hin hif hC hU hO hB
    rw [L_X3_tryFrom_43, hC.2]
    by_cases c : nI f ≤ nI i
    · rw [if_pos c]
      have := le_of_le rfl rfl (by omega) (by omega) c
      rw [show f - i = 0 by omega]
      exact ⟨hC, hB, hU, hO⟩
    have hlt := gt_of_nle (x := nI f) (y := nI i) rfl rfl (by omega) (by omega) c
    rw [if_neg c, if_neg (by rw [show (6 : Int32) = nI 6 from rfl, nI_leI (by omega) (by omega)]; omega), nI_clamp (by omega), show nI i + (1 : Int32) = nI (i + 1) from nI_1 i, show f - i = (f - (i + 1)) + 1 by omega]
    rw [show itr (cst f en cy ok fm D us ord k t am) (f - (i + 1) + 1) i B = itr (cst f en cy ok fm D us ord k t am) (f - (i + 1)) (i + 1) (cst f en cy ok fm D us ord k t am i B) from rfl]
    by_cases hu : σ1 16 i = 0
    · rw [if_pos hu]
      have hus : us i = false := (hU i hlt).mp hu
      rw [show cst f en cy ok fm D us ord k t am i B = if ok i (en t am i) = true then RR f en cy ok fm D (updb us i) (upd ord k (fm i)) (k + 1) (en t am i) (cy i) B else B by unfold cst; rw [if_neg (by rw [hus]; decide)]]
      obtain ⟨ee, T, T', eT, eT', l1, l2, l3⟩ := h1 σ1 t am i k hC hlt (by omega) ht ha
      obtain ⟨f12, fcy, f11⟩ := h2 i hlt
      have hok := h3 t am i k hlt (by omega) ht ha
      have e15 : σ1 15 i = σ0 15 i := by rw [hC.1 15 (by omega) (by omega) (by omega) (by omega)]
      have e12 : σ1 12 i = cy i := by rw [hC.1 12 (by omega) (by omega) (by omega) (by omega)]; exact f12
      have e11 : σ1 11 i = fm i := by rw [hC.1 11 (by omega) (by omega) (by omega) (by omega)]; exact f11
      have tn : G_X3_tryNext rc σ1 (nI i) dp am t = if σ0 15 i < en t am i then σ1 else s2 (rc (s2 (s2 σ1 16 i 1) 17 k (fm i)) (nI (k + 1)) (cy i) (en t am i)) 16 i 0 := by
        unfold G_X3_tryNext
        rw [if_neg (w5 (by omega)), ek, if_neg (w5 (by omega)), nI_clamp (by omega), nI_clamp (by omega), nI_1 k]
        rw [show ((t + (F_X1_ticksOfSeek σ1 am (σ1 12 i))) + (F_X1_ticksOfWait (σ1 13 i) (t + (F_X1_ticksOfSeek σ1 am (σ1 12 i))))) + (σ1 14 i) = en t am i from ee, e15, e12, e11]
      rw [tn]
      by_cases c2 : σ0 15 i < en t am i
      · rw [if_pos c2, if_neg (show ¬ ok i (en t am i) = true from fun z => (hok.mpr z) c2)]
        exact ih (i + 1) σ1 B (by omega) (by omega) hC hU hO hB
      · rw [if_neg c2, if_pos (hok.mp c2)]
        have hC2 : CS σ0 f (s2 (s2 σ1 16 i 1) 17 k (fm i)) := ⟨fun c h10 h16 h17 h18 => ((s2_f h17).trans (s2_f h16)).trans (hC.1 c h10 h16 h17 h18), hC.2⟩
        obtain ⟨a, b, c', d⟩ := hrc (s2 (s2 σ1 16 i 1) 17 k (fm i)) (nI (k + 1)) (cy i) (en t am i) (k + 1) (updb us i) (upd ord k (fm i)) B hC2 rfl (by omega) (by omega)
          (fun q hq => by
            show s2 σ1 16 i 1 16 q = 0 ↔ _
            unfold updb
            by_cases e : q = i
            · subst e; rw [s2_e, if_pos rfl]; decide
            · rw [s2_n e, if_neg e]; exact hU q hq)
          (fun q hq => by
            unfold upd
            by_cases e : q = k
            · subst e; rw [s2_e, if_pos rfl]
            · rw [s2_n e, if_neg e]; exact hO q (by omega))
          hB ⟨T', by omega, eT'⟩ fcy
        refine ih (i + 1) _ _ (by omega) (by omega) ⟨fun c h10 h16 h17 h18 => (s2_f h16).trans (a.1 c h10 h16 h17 h18), a.2⟩ (fun q hq => ?_) (fun q hq => ?_) b
        · by_cases e : q = i
          · subst e; rw [s2_e]; exact ⟨fun _ => hus, fun _ => rfl⟩
          · rw [s2_n e]
            have := c' q hq
            unfold updb at this
            rw [if_neg e] at this
            exact this
        · have := d q (by omega)
          unfold upd at this
          rw [if_neg (by omega)] at this
          exact this
    · have hus : us i = true := by
        cases hq : us i with
        | true => rfl
        | false => exact absurd ((hU i hlt).mpr hq) hu
      rw [if_neg hu, show cst f en cy ok fm D us ord k t am i B = B by unfold cst; rw [if_pos hus]]
      exact ih (i + 1) σ1 B (by omega) (by omega) hC hU hO hB
set_option maxRecDepth 100000 in
theorem try_spec {σ0 : Sg} {f : Nat} {en : Int32 → Int32 → Nat → Int32} {cy : Nat → Int32} {ok : Nat → Int32 → Bool} {fm : Nat → Int32} (h : ENS σ0 f en cy ok fm) (h0 : σ0 10 0 = nI f) : ∀ D : Nat, CSpec σ0 f en cy ok fm (F_tryD D) D := by
  intro D
  induction D with
  | zero => intro σ dp am t k us ord B _ _ _ hD; omega
  | succ D ih =>
    intro σ dp am t k us ord B hC ek hk hD hU hO hB ht ha
    have h6 := h.1
    obtain ⟨T, hT, eT⟩ := ht
    have hT3 : T ≤ 300000 := by omega
    show CS σ0 f (G_X3_tryFrom (G_X3_tryNext (F_tryD D)) σ dp am t) ∧ Cq f _ (G_X3_tryFrom (G_X3_tryNext (F_tryD D)) σ dp am t) ∧ Us f us (G_X3_tryFrom (G_X3_tryNext (F_tryD D)) σ dp am t) ∧ Os k ord (G_X3_tryFrom (G_X3_tryNext (F_tryD D)) σ dp am t)
    unfold G_X3_tryFrom
    by_cases c1 : t < σ 10 1
    · rw [if_pos c1, hC.2, ek]
      by_cases c2 : k = f
      · rw [if_pos (show nI f ≤ nI k by rw [c2]; exact Int32.le_refl _)]
        have hRR : RR f en cy ok fm (D + 1) us ord k t am B = (t, ord) := by
          rw [RR, if_pos c2]
          rcases hB with ⟨b1, b2⟩ | ⟨S, hS, b1, b2, b3⟩
          · rw [if_pos b1]
          · rw [b1, if_neg (nI_nlt0 (by omega)), if_neg]
            rw [b2] at c1
            exact Int32.not_le.mpr c1
        rw [hRR]
        refine ⟨⟨fun c h10 h16 h17 h18 => ?_, ?_⟩, Or.inr ⟨T, hT3, eT, ?_, fun i hi => ?_⟩, fun i hi => ?_, fun i hi => ?_⟩
        · show sC (s2 σ 10 1 t) 18 _ c = _
          unfold sC
          rw [if_neg h18, s2_f h10]
          exact hC.1 c h10 h16 h17 h18
        · show s2 σ 10 1 t 10 0 = _
          rw [s2_n (by omega)]; exact hC.2
        · show s2 σ 10 1 t 10 1 = _
          rw [s2_e]; exact eT
        · show va_cpy (σ 17) (σ 18) 0 0 6 i = ord i
          unfold va_cpy
          rw [if_pos (by omega), show 0 + (i - 0) = i by omega]
          exact hO i (by omega)
        · exact hU i hi
        · exact hO i hi
      · rw [if_neg (show ¬ nI f ≤ nI k by rw [nI_leI (by omega) (by omega)]; omega), if_pos (show nI k < 6 by rw [show (6 : Int32) = nI 6 from rfl, nI_ltI (by omega) (by omega)]; omega), RR, if_neg c2]
        have := L43_spec h h0 ih (σ := σ) (us := us) (ord := ord) (rfl : nI k = nI k) (by omega) hD ⟨T, hT, eT⟩ ha 7 0 σ B (by omega) (by omega) hC hU hO hB
        exact this
    · rw [if_neg c1]
      have hRR : RR f en cy ok fm (D + 1) us ord k t am B = B := by
        rcases hB with ⟨b1, b2⟩ | ⟨S, hS, b1, b2, b3⟩
        · exfalso
          apply c1
          rw [b2, eT, show (1000000000 : Int32) = nI 1000000000 from rfl, nI_ltI (by omega) (by omega)]
          omega
        · refine RR_prune h h0 (D + 1) us ord k t am B hk ⟨T, hT, eT⟩ ha (by rw [b1]; exact nI_nlt0 (by omega)) ?_
          rw [b2] at c1
          rw [b1]
          exact Int32.not_lt.mp c1
      rw [hRR]
      exact ⟨hC, hB, hU, hO⟩
