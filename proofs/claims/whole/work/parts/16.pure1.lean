/-! THE SEARCH, as a plain function: orders of f items, in the order of their numbers; the first best one stays -/
def itr {β : Type} (g : Nat → β → β) : Nat → Nat → β → β
  | 0, _, b => b
  | n + 1, i, b => itr g n (i + 1) (g i b)
abbrev BB : Type := Int32 × (Nat → Int32)
def updb (us : Nat → Bool) (i : Nat) : Nat → Bool := fun j => if j = i then true else us j
def RR (f : Nat) (en : Int32 → Int32 → Nat → Int32) (cy : Nat → Int32) (ok : Nat → Int32 → Bool) (fm : Nat → Int32) : Nat → (Nat → Bool) → (Nat → Int32) → Nat → Int32 → Int32 → BB → BB
  | 0, _, _, _, _, _, B => B
  | D + 1, us, ord, k, t, am, B => if k = f then (if B.1 < 0 then (t, ord) else if B.1 ≤ t then B else (t, ord))
      else itr (fun i B => if us i = true then B else if ok i (en t am i) = true then RR f en cy ok fm D (updb us i) (upd ord k (fm i)) (k + 1) (en t am i) (cy i) B else B) f 0 B
def kS (g : Nat → Int32) : Sg := fun _ => g
theorem L_place_25 {μ μ' : Sg} (h : μ' 25 = μ 25) (b : Int32) : ∀ (n : Nat) (x : Int32), L_X10_place_2 μ' b n x = L_X10_place_2 μ b n x := by
  intro n
  induction n with
  | zero => intro x; rfl
  | succ n ih => intro x; rw [L_X10_place_2, L_X10_place_2, h, ih]
theorem place_25 {μ μ' : Sg} (h : μ' 25 = μ 25) (b : Int32) : F_X10_place μ' b = F_X10_place μ b := by unfold F_X10_place; exact L_place_25 h b 5 0
theorem seek_25 {μ μ' : Sg} (h : μ' 25 = μ 25) (a b : Int32) : F_X10_seek μ' a b = F_X10_seek μ a b := by unfold F_X10_seek; rw [h]
theorem angleAt_25 {μ μ' : Sg} (h : μ' 25 = μ 25) (a : Int32) : F_X10_angleAt μ' a = F_X10_angleAt μ a := by unfold F_X10_angleAt; rw [h]
theorem waits_25 {μ μ' : Sg} (h : μ' 25 = μ 25) (a b : Int32) : F_X10_waits μ' a b = F_X10_waits μ a b := by unfold F_X10_waits; rw [angleAt_25 h]
theorem ends_25 {μ μ' : Sg} (h : μ' 25 = μ 25) (a b d : Int32) : F_X10_ends μ' a b d = F_X10_ends μ a b d := by unfold F_X10_ends; rw [seek_25 h, waits_25 h]
theorem cylinder_25 {μ μ' : Sg} (h : μ' 25 = μ 25) (r : Int32) : F_X10_cylinder μ' r = F_X10_cylinder μ r := by unfold F_X10_cylinder; rw [h, place_25 h]
def enR (g : Nat → Int32) (fm : Nat → Int32) (t am : Int32) (i : Nat) : Int32 := F_X10_ends (kS g) t am (F_X10_place (kS g) (g ((110 : Int32) + fm i).toNatClampNeg))
def cyR (g : Nat → Int32) (fm : Nat → Int32) (i : Nat) : Int32 := F_X10_cylinder (kS g) (fm i)
def okR (g : Nat → Int32) (fm : Nat → Int32) (mi : Int32) (i : Nat) (e : Int32) : Bool := decide (mi = 0) || (decide (g ((270 : Int32) + fm i).toNatClampNeg < 0) || decide (e ≤ g ((270 : Int32) + fm i).toNatClampNeg))
abbrev RM (μ : Sg) (f : Nat) := RR f (enR (μ 25) (μ 29)) (cyR (μ 25) (μ 29)) (okR (μ 25) (μ 29) (μ 24 9)) (μ 29)
def Bq (f : Nat) (B : BB) (μ : Sg) : Prop := B.1 = μ 24 8 ∧ ∀ i, i < f → B.2 i = μ 31 i
def Uq (f : Nat) (us : Nat → Bool) (μ : Sg) : Prop := ∀ i, i < f → (μ 32 i = 0 ↔ us i = false)
def Oq (j : Nat) (ord : Nat → Int32) (μ : Sg) : Prop := ∀ i, i < j → μ 30 i = ord i
/-- the copy of the order -/
theorem L31_spec {rc : Sg → Int32 → Int32 → Int32 → Sg} {μ : Sg} {k t am : Int32} {f : Nat} (hf : f ≤ 6) : ∀ (n i : Nat) (μ1 : Sg), i + n = 7 → i ≤ f → μ1 24 7 = nI f → (∀ q, q < i → μ1 31 q = μ1 30 q) →
    (∀ q, q < f → L_X10_goes_31 rc μ k t am n (nI i) μ1 31 q = μ1 30 q) ∧ L_X10_goes_31 rc μ k t am n (nI i) μ1 30 = μ1 30 ∧ L_X10_goes_31 rc μ k t am n (nI i) μ1 24 = μ1 24 ∧ L_X10_goes_31 rc μ k t am n (nI i) μ1 32 = μ1 32 := by
  intro n
  induction n with
  | zero => intro i μ1 h1 h2; omega
  | succ n ih =>
    intro i μ1 h1 h2 h3 h4
    rw [L_X10_goes_31, h3]
    by_cases h : nI f ≤ nI i
    · rw [if_pos h]
      have := le_of_le rfl rfl (by omega) (by omega) h
      exact ⟨fun q hq => h4 q (by omega), rfl, rfl, rfl⟩
    · rw [if_neg h]
      have hlt := gt_of_nle rfl rfl (by omega) (by omega) h
      rw [nI_clamp (by omega), show nI i + (1 : Int32) = nI (i + 1) from nI_1 i]
      obtain ⟨a, b, c, d⟩ := ih (i + 1) (s2 μ1 31 i (μ1 30 i)) (by omega) (by omega) h3 (fun q hq => by
        by_cases e : q = i
        · subst e; rw [s2_e]; rfl
        · rw [s2_n e]; exact h4 q (by omega))
      exact ⟨a, b, c, d⟩
theorem goes_leaf {rc : Sg → Int32 → Int32 → Int32 → Sg} {μ : Sg} {k t am : Int32} {f : Nat} {ord : Nat → Int32} (hF : FEW μ f) (hO : Oq f ord μ) :
    Bq f (t, ord) (L_X10_goes_31 rc μ k t am 7 0 (s2 μ 24 8 t)) ∧ (∀ us, Uq f us μ → Uq f us (L_X10_goes_31 rc μ k t am 7 0 (s2 μ 24 8 t))) ∧ L_X10_goes_31 rc μ k t am 7 0 (s2 μ 24 8 t) 30 = μ 30 := by
  obtain ⟨a, b, c, d⟩ := L31_spec (rc := rc) (μ := μ) (k := k) (t := t) (am := am) hF.1 7 0 (s2 μ 24 8 t) (by omega) (by omega) hF.2.1 (fun q hq => by omega)
  refine ⟨⟨?_, fun i hi => ?_⟩, fun us hu i hi => ?_, b⟩
  · show t = L_X10_goes_31 rc μ k t am 7 (nI 0) (s2 μ 24 8 t) 24 8
    rw [c, s2_e]
  · show ord i = L_X10_goes_31 rc μ k t am 7 (nI 0) (s2 μ 24 8 t) 31 i
    rw [a i hi]; exact (hO i hi).symm
  · show L_X10_goes_31 rc μ k t am 7 (nI 0) (s2 μ 24 8 t) 32 i = 0 ↔ us i = false
    rw [d]; exact hu i hi
def GSpec (rc : Sg → Int32 → Int32 → Int32 → Sg) (D : Nat) : Prop := ∀ (μ : Sg) (k t am : Int32) (f j : Nat) (us : Nat → Bool) (ord : Nat → Int32) (B : BB), FEW μ f → k = nI j → j ≤ f → f - j < D → Uq f us μ → Oq j ord μ → Bq f B μ →
  FRS μ (rc μ k t am) ∧ Bq f (RM μ f D us ord j t am B) (rc μ k t am) ∧ Uq f us (rc μ k t am) ∧ Oq j ord (rc μ k t am)
def gst (μ : Sg) (f D : Nat) (us : Nat → Bool) (ord : Nat → Int32) (j : Nat) (t am : Int32) (i : Nat) (B : BB) : BB := if us i = true then B else if okR (μ 25) (μ 29) (μ 24 9) i (enR (μ 25) (μ 29) t am i) = true then RM μ f D (updb us i) (upd ord j (μ 29 i)) (j + 1) (enR (μ 25) (μ 29) t am i) (cyR (μ 25) (μ 29) i) B else B
theorem L64_spec {rc : Sg → Int32 → Int32 → Int32 → Sg} {D : Nat} (hrc : GSpec rc D) {μ : Sg} {k t am : Int32} {f j : Nat} {us : Nat → Bool} {ord : Nat → Int32} (hF : FEW μ f) (ek : k = nI j) (hj : j < f) (hD : f - j < D + 1) :
    ∀ (n i : Nat) (μ1 : Sg) (B : BB), i + n = 7 → i ≤ f → FRS μ μ1 → Uq f us μ1 → Oq j ord μ1 → Bq f B μ1 →
    FRS μ (L_X10_goes_64 rc μ k t am n (nI i) μ1) ∧ Bq f (itr (gst μ f D us ord j t am) (f - i) i B) (L_X10_goes_64 rc μ k t am n (nI i) μ1) ∧ Uq f us (L_X10_goes_64 rc μ k t am n (nI i) μ1) ∧ Oq j ord (L_X10_goes_64 rc μ k t am n (nI i) μ1) := by
  have h6 := hF.1
  intro n
  induction n with
  | zero => intro i μ1 B h1 h2; omega
  | succ n ih =>
    intro i μ1 B h1 h2 hR hU hO hB
    rw [L_X10_goes_64, hR.2.2.1, hF.2.1]
    by_cases h : nI f ≤ nI i
    · rw [if_pos h]
      have := le_of_le rfl rfl (by omega) (by omega) h
      rw [show f - i = 0 by omega]
      exact ⟨hR, hB, hU, hO⟩
    rw [if_neg h]
    have hlt := gt_of_nle rfl rfl (by omega) (by omega) h
    have e25 : μ1 25 = (kS (μ 25)) 25 := hR.1
    rw [nI_clamp (by omega), show nI i + (1 : Int32) = nI (i + 1) from nI_1 i, show f - i = (f - (i + 1)) + 1 by omega]
    rw [show itr (gst μ f D us ord j t am) (f - (i + 1) + 1) i B = itr (gst μ f D us ord j t am) (f - (i + 1)) (i + 1) (gst μ f D us ord j t am i B) from rfl]
    by_cases hu : μ1 32 i = 0
    · rw [if_pos hu]
      have hus : us i = false := (hU i hlt).mp hu
      have hus' : ¬ us i = true := by rw [hus]; decide
      rw [show gst μ f D us ord j t am i B = if okR (μ 25) (μ 29) (μ 24 9) i (enR (μ 25) (μ 29) t am i) = true then RM μ f D (updb us i) (upd ord j (μ 29 i)) (j + 1) (enR (μ 25) (μ 29) t am i) (cyR (μ 25) (μ 29) i) B else B by unfold gst; rw [if_neg hus']]
      have een : F_X10_ends μ1 t am (F_X10_place μ1 (μ1 25 ((110 : Int32) + μ1 29 i).toNatClampNeg)) = enR (μ 25) (μ 29) t am i := by
        unfold enR
        rw [ends_25 e25, place_25 e25, hR.1, hR.2.1]
      rw [hR.2.2.2, een, hR.1, hR.2.1]
      -- the deeper call
      have key : FRS μ (s2 (rc (s2 (s2 μ1 32 i 1) 30 k.toNatClampNeg (μ 29 i)) (k + 1) (enR (μ 25) (μ 29) t am i) (F_X10_cylinder (s2 (s2 μ1 32 i 1) 30 k.toNatClampNeg (μ 29 i)) (μ 29 i))) 32 i 0) ∧ Bq f (RM μ f D (updb us i) (upd ord j (μ 29 i)) (j + 1) (enR (μ 25) (μ 29) t am i) (cyR (μ 25) (μ 29) i) B) (s2 (rc (s2 (s2 μ1 32 i 1) 30 k.toNatClampNeg (μ 29 i)) (k + 1) (enR (μ 25) (μ 29) t am i) (F_X10_cylinder (s2 (s2 μ1 32 i 1) 30 k.toNatClampNeg (μ 29 i)) (μ 29 i))) 32 i 0) ∧ Uq f us (s2 (rc (s2 (s2 μ1 32 i 1) 30 k.toNatClampNeg (μ 29 i)) (k + 1) (enR (μ 25) (μ 29) t am i) (F_X10_cylinder (s2 (s2 μ1 32 i 1) 30 k.toNatClampNeg (μ 29 i)) (μ 29 i))) 32 i 0) ∧ Oq j ord (s2 (rc (s2 (s2 μ1 32 i 1) 30 k.toNatClampNeg (μ 29 i)) (k + 1) (enR (μ 25) (μ 29) t am i) (F_X10_cylinder (s2 (s2 μ1 32 i 1) 30 k.toNatClampNeg (μ 29 i)) (μ 29 i))) 32 i 0) := by
        rw [show k.toNatClampNeg = j by rw [ek, nI_clamp (by omega)]]
        have hcy : F_X10_cylinder (s2 (s2 μ1 32 i 1) 30 j (μ 29 i)) (μ 29 i) = cyR (μ 25) (μ 29) i := by
          unfold cyR
          exact cylinder_25 (show (s2 (s2 μ1 32 i 1) 30 j (μ 29 i)) 25 = (kS (μ 25)) 25 from hR.1) _
        rw [hcy]
        have hR2 : FRS μ (s2 (s2 μ1 32 i 1) 30 j (μ 29 i)) := hR.tr ⟨rfl, rfl, rfl, rfl⟩
        have hF2 := hF.mv hR2
        obtain ⟨a, b, c, d⟩ := hrc (s2 (s2 μ1 32 i 1) 30 j (μ 29 i)) (k + 1) (enR (μ 25) (μ 29) t am i) (cyR (μ 25) (μ 29) i) f (j + 1) (updb us i) (upd ord j (μ 29 i)) B hF2 (by rw [ek]; exact nI_1 j) (by omega) (by omega)
          (fun q hq => by
            show s2 μ1 32 i 1 32 q = 0 ↔ _
            unfold updb
            by_cases e : q = i
            · subst e; rw [s2_e, if_pos rfl]; decide
            · rw [s2_n e, if_neg e]; exact hU q hq)
          (fun q hq => by
            unfold upd
            by_cases e : q = j
            · subst e; rw [s2_e, if_pos rfl]
            · rw [s2_n e, if_neg e]; exact hO q (by omega))
          ⟨hB.1, hB.2⟩
        have eM : RM (s2 (s2 μ1 32 i 1) 30 j (μ 29 i)) f = RM μ f := by
          unfold RM
          rw [hR2.1, hR2.2.1, hR2.2.2.2]
        rw [eM] at b
        refine ⟨(hR2.tr a).tr ⟨rfl, rfl, rfl, rfl⟩, ⟨b.1, b.2⟩, fun q hq => ?_, fun q hq => ?_⟩
        · by_cases e : q = i
          · subst e; rw [s2_e]; exact ⟨fun _ => hus, fun _ => rfl⟩
          · rw [s2_n e]
            have := c q hq
            unfold updb at this
            rw [if_neg e] at this
            exact this
        · have := d q (by omega)
          unfold upd at this
          rw [if_neg (by omega)] at this
          exact this
      obtain ⟨k1, k2, k3, k4⟩ := key
      by_cases m0 : μ 24 9 = 0
      · rw [if_pos m0, if_pos (show okR (μ 25) (μ 29) (μ 24 9) i (enR (μ 25) (μ 29) t am i) = true by unfold okR; simp [m0])]
        exact ih (i + 1) _ _ (by omega) (by omega) k1 k3 k4 k2
      rw [if_neg m0]
      by_cases m1 : μ 25 ((270 : Int32) + μ 29 i).toNatClampNeg < 0
      · rw [if_pos m1, if_pos (show okR (μ 25) (μ 29) (μ 24 9) i (enR (μ 25) (μ 29) t am i) = true by unfold okR; simp [m1])]
        exact ih (i + 1) _ _ (by omega) (by omega) k1 k3 k4 k2
      rw [if_neg m1]
      by_cases m2 : enR (μ 25) (μ 29) t am i ≤ μ 25 ((270 : Int32) + μ 29 i).toNatClampNeg
      · rw [if_pos m2, if_pos (show okR (μ 25) (μ 29) (μ 24 9) i (enR (μ 25) (μ 29) t am i) = true by unfold okR; simp [m2])]
        exact ih (i + 1) _ _ (by omega) (by omega) k1 k3 k4 k2
      rw [if_neg m2, if_neg (show ¬ okR (μ 25) (μ 29) (μ 24 9) i (enR (μ 25) (μ 29) t am i) = true by unfold okR; simp [m0, m1, m2])]
      exact ih (i + 1) _ _ (by omega) (by omega) hR hU hO hB
    · have hus : us i = true := by
        cases hq : us i with
        | true => rfl
        | false => exact absurd ((hU i hlt).mpr hq) hu
      rw [if_neg hu, show gst μ f D us ord j t am i B = B by unfold gst; rw [if_pos hus]]
      exact ih (i + 1) _ _ (by omega) (by omega) hR hU hO hB
theorem goes_spec : ∀ D : Nat, GSpec (F_goesD D) D := by
  intro D
  induction D with
  | zero => intro μ k t am f j us ord B hF ek hj hD; omega
  | succ D ih =>
    intro μ k t am f j us ord B hF ek hj hD hU hO hB
    have h6 := hF.1
    refine ⟨goesD_FRS (D + 1) μ k t am, ?_⟩
    show Bq f _ (G_X10_goes (F_goesD D) μ k t am) ∧ Uq f us (G_X10_goes (F_goesD D) μ k t am) ∧ Oq j ord (G_X10_goes (F_goesD D) μ k t am)
    unfold G_X10_goes RM
    rw [RR]
    by_cases h1 : k = μ 24 7
    · have ej : j = f := by
        rw [ek, hF.2.1, nI_eq (by omega) (by omega)] at h1; exact h1
      subst ej
      rw [if_pos h1, if_pos rfl, hB.1]
      obtain ⟨a, b, c⟩ := goes_leaf (rc := F_goesD D) (k := k) (t := t) (am := am) hF hO
      have c' : Oq j ord (L_X10_goes_31 (F_goesD D) μ k t am 7 0 (s2 μ 24 8 t)) := fun i hi => by rw [c]; exact hO i hi
      by_cases h2 : μ 24 8 < 0
      · rw [if_pos h2, if_pos h2]; exact ⟨a, b us hU, c'⟩
      · rw [if_neg h2, if_neg h2]
        by_cases h3 : μ 24 8 ≤ t
        · rw [if_pos h3, if_pos h3]; exact ⟨hB, hU, hO⟩
        · rw [if_neg h3, if_neg h3]; exact ⟨a, b us hU, c'⟩
    · have ej : ¬ j = f := fun e => h1 (by rw [ek, hF.2.1, e])
      rw [if_neg h1, if_neg ej]
      have := L64_spec (t := t) (am := am) ih hF ek (by omega) hD 7 0 μ B (by omega) (by omega) (FRS.rf μ) hU hO hB
      exact this.2
