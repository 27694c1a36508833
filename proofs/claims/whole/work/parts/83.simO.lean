/-! what a search of the reference leaves -/
def FRU (μ μ' : Sg) : Prop := (∀ c, c ≠ 24 → c ≠ 29 → c ≠ 30 → c ≠ 31 → c ≠ 32 → μ' c = μ c) ∧ ∀ j, j ≠ 7 → j ≠ 8 → j ≠ 9 → μ' 24 j = μ 24 j
theorem FRU.rf (μ : Sg) : FRU μ μ := ⟨fun _ _ _ _ _ _ => rfl, fun _ _ _ _ => rfl⟩
theorem FRU.tr {a b c : Sg} (h : FRU a b) (h2 : FRU b c) : FRU a c := ⟨fun x h4 h9 h0 h1 h3 => (h2.1 x h4 h9 h0 h1 h3).trans (h.1 x h4 h9 h0 h1 h3), fun j h7 h8 h9 => (h2.2 j h7 h8 h9).trans (h.2 j h7 h8 h9)⟩
theorem FRU.s29 (μ : Sg) (k : Nat) (v : Int32) : FRU μ (s2 μ 29 k v) := ⟨fun c _ h9 _ _ _ => s2_f h9, fun _ _ _ _ => rfl⟩
theorem FRU.s30 (μ : Sg) (k : Nat) (v : Int32) : FRU μ (s2 μ 30 k v) := ⟨fun c _ _ h0 _ _ => s2_f h0, fun _ _ _ _ => rfl⟩
theorem FRU.s31 (μ : Sg) (k : Nat) (v : Int32) : FRU μ (s2 μ 31 k v) := ⟨fun c _ _ _ h1 _ => s2_f h1, fun _ _ _ _ => rfl⟩
theorem FRU.s32 (μ : Sg) (k : Nat) (v : Int32) : FRU μ (s2 μ 32 k v) := ⟨fun c _ _ _ _ h2 => s2_f h2, fun _ _ _ _ => rfl⟩
theorem FRU.s24 (μ : Sg) {k : Nat} (v : Int32) (hk : k = 7 ∨ k = 8 ∨ k = 9) : FRU μ (s2 μ 24 k v) := ⟨fun c h4 _ _ _ _ => s2_f h4, fun j h7 h8 h9 => s2_n (by omega)⟩
theorem L31_FRU {rc : Sg → Int32 → Int32 → Int32 → Sg} {μ : Sg} {k t am : Int32} : ∀ (n : Nat) (x : Int32) (μ1 : Sg), FRU μ μ1 → FRU μ (L_X10_goes_31 rc μ k t am n x μ1) := by
  intro n
  induction n with
  | zero => intro x μ1 h; exact FRU.rf μ
  | succ n ih =>
    intro x μ1 h
    rw [L_X10_goes_31]
    split
    · exact h
    · exact ih _ _ (h.tr (FRU.s31 _ _ _))
theorem go_fru {rc : Sg → Int32 → Int32 → Int32 → Sg} (hfr : ∀ μ k t a, FRU μ (rc μ k t a)) {μ1 : Sg} {a b d : Nat} {u v w k t am : Int32} : FRU μ1 (s2 (rc (s2 (s2 μ1 32 a u) 30 b v) k t am) 32 d w) :=
  (((FRU.s32 μ1 a u).tr (FRU.s30 _ b v)).tr (hfr _ k t am)).tr (FRU.s32 _ d w)
theorem L64_FRU {rc : Sg → Int32 → Int32 → Int32 → Sg} (hfr : ∀ μ k t a, FRU μ (rc μ k t a)) {μ : Sg} {k t am : Int32} : ∀ (n : Nat) (x : Int32) (μ1 : Sg), FRU μ μ1 → FRU μ (L_X10_goes_64 rc μ k t am n x μ1) := by
  intro n
  induction n with
  | zero => intro x μ1 h; exact FRU.rf μ
  | succ n ih =>
    intro x μ1 h
    rw [L_X10_goes_64]
    split
    · exact h
    · split
      · split
        · exact ih _ _ (h.tr (go_fru hfr))
        · split
          · exact ih _ _ (h.tr (go_fru hfr))
          · split
            · exact ih _ _ (h.tr (go_fru hfr))
            · exact ih _ _ h
      · exact ih _ _ h
theorem goesD_FRU : ∀ (D : Nat) (μ : Sg) (k t am : Int32), FRU μ (F_goesD D μ k t am) := by
  intro D
  induction D with
  | zero => intro μ k t am; exact FRU.rf μ
  | succ D ih =>
    intro μ k t am
    show FRU μ (G_X10_goes (F_goesD D) μ k t am)
    unfold G_X10_goes
    split
    · split
      · exact L31_FRU _ _ _ (FRU.s24 μ t (by omega))
      · split
        · exact FRU.rf μ
        · exact L31_FRU _ _ _ (FRU.s24 μ t (by omega))
    · exact L64_FRU ih _ _ _ (FRU.rf μ)
theorem searches_FRU {wd mi mo : Int32} : ∀ (μ : Sg), FRU μ (F_X10_searches μ wd mi mo) := by
  have key : ∀ (μ : Sg) (n : Nat) (x : Int32) (μ1 : Sg), FRU μ μ1 → FRU μ (L_X10_searches_8 μ wd mi mo n x μ1) := by
    intro μ n
    induction n with
    | zero => intro x μ1 h; exact FRU.rf μ
    | succ n ih =>
      intro x μ1 h
      have stop : FRU μ (F_X10_goes (s2 (s2 μ1 24 9 mi) 24 8 (-1 : Int32)) (0 : Int32) (μ1 25 8) (μ1 25 9)) := ((h.tr (FRU.s24 _ mi (by omega))).tr (FRU.s24 _ (-1) (by omega))).tr (goesD_FRU 7 _ _ _ _)
      have push : FRU μ (s2 (s2 (s2 μ1 29 (μ1 24 7).toNatClampNeg x) 32 (μ1 24 7).toNatClampNeg (0 : Int32)) 24 7 ((μ1 24 7) + (1 : Int32))) := ((h.tr (FRU.s29 _ _ _)).tr (FRU.s32 _ _ _)).tr (FRU.s24 _ _ (by omega))
      rw [L_X10_searches_8]
      split
      · exact stop
      · split
        · exact stop
        · split
          · exact ih _ _ h
          · split
            · exact ih _ _ push
            · split
              · exact ih _ _ h
              · exact ih _ _ push
  intro μ
  exact key μ 81 0 _ (FRU.s24 μ 0 (by omega))
/-! GATHERING in the class -/
theorem spare_cong {σ σ' : Sg} (h2 : σ' 2 = σ 2) (h3 : σ' 3 = σ 3) (b : Int32) : ∀ (n : Nat) (x : Int32), L_X1_spareOfBlock_2 σ' b n x = L_X1_spareOfBlock_2 σ b n x := by
  intro n
  induction n with
  | zero => intro x; rfl
  | succ n ih => intro x; rw [L_X1_spareOfBlock_2, L_X1_spareOfBlock_2, h2, h3, ih]
theorem place_cong {σ σ' : Sg} (h2 : σ' 2 = σ 2) (h3 : σ' 3 = σ 3) (b : Int32) : F_X1_placeOfBlock σ' b = F_X1_placeOfBlock σ b := by
  have e : F_X1_spareOfBlock σ' b = F_X1_spareOfBlock σ b := spare_cong h2 h3 b 5 0
  unfold F_X1_placeOfBlock
  rw [e]
def psh (σ1 : Sg) (x : Int32) (i3 : Nat) (lim : Int32) : Sg := (s2 (s2 (s2 (s2 (s2 (s2 (s2 σ1 11 (σ1 10 0).toNatClampNeg x) 12 (σ1 10 0).toNatClampNeg (F_X2_cylinderOfPlace (F_X1_placeOfBlock σ1 (σ1 40 i3)))) 13 (σ1 10 0).toNatClampNeg (F_X1_angleOfPlace σ1 (F_X1_placeOfBlock σ1 (σ1 40 i3)))) 14 (σ1 10 0).toNatClampNeg (F_X2_sectorTicksAt (F_X1_placeOfBlock σ1 (σ1 40 i3)))) 15 (σ1 10 0).toNatClampNeg lim) 16 (σ1 10 0).toNatClampNeg (0 : Int32)) 10 0 ((σ1 10 0) + (1 : Int32)))
theorem gather_step {σ : Sg} {on he : Int32} {n : Nat} {x : Int32} {σ1 : Sg} {i3 : Nat} (h1 : ¬ σ1 5 0 ≤ x) (h2 : ¬ (6 : Int32) ≤ σ1 10 0) (h3 : F_X6_findPending σ1 x = some i3) : L_X3_gather_8 σ on he (n + 1) x σ1 = if F_X4_hasDeadline σ1 i3 = 0 then (if on = 0 then L_X3_gather_8 σ on he n (x + 1) (psh σ1 x i3 1000000000) else L_X3_gather_8 σ on he n (x + 1) σ1) else L_X3_gather_8 σ on he n (x + 1) (psh σ1 x i3 (if he = 0 then 1000000000 else σ1 42 i3)) := by
  rw [L_X3_gather_8, if_neg h1, if_neg h2, h3, Option.elim]
  by_cases c1 : F_X4_hasDeadline σ1 i3 = 0
  · rw [if_pos c1, if_pos c1]
    by_cases c2 : on = 0
    · rw [if_pos c2, if_pos c2]
      by_cases c3 : he = 0
      · rw [if_pos c3]; rfl
      · rw [if_neg c3]
        exact if_pos c1
    · rw [if_neg c2, if_neg c2]
  · rw [if_neg c1, if_neg c1]
    by_cases c3 : he = 0
    · rw [if_pos c3, if_pos c3]; rfl
    · rw [if_neg c3, if_neg c3]
      exact if_neg c1
def GI (σ : Sg) (he : Int32) (σ1 : Sg) (l : List Nat) : Prop := (∀ c, (c < 10 ∨ 16 < c) → σ1 c = σ c) ∧ σ1 10 0 = nI l.length ∧ ∀ i, i < l.length → σ1 11 i = nI (l.getD i 0) ∧ σ1 12 i = F_X2_cylinderOfPlace (F_X1_placeOfBlock σ (σ 40 (l.getD i 0))) ∧ σ1 13 i = F_X1_angleOfPlace σ (F_X1_placeOfBlock σ (σ 40 (l.getD i 0))) ∧ σ1 14 i = F_X2_sectorTicksAt (F_X1_placeOfBlock σ (σ 40 (l.getD i 0))) ∧ σ1 15 i = (if he = 0 then 1000000000 else if F_X4_hasDeadline σ (l.getD i 0) = 0 then 1000000000 else σ 42 (l.getD i 0)) ∧ σ1 16 i = 0
theorem GI.push {σ σ1 : Sg} {he lim : Int32} {l : List Nat} {q : Nat} (h : GI σ he σ1 l) (hl : l.length < 6) (elim : lim = (if he = 0 then 1000000000 else if F_X4_hasDeadline σ q = 0 then 1000000000 else σ 42 q)) : GI σ he (psh σ1 (nI q) q lim) (l ++ [q]) := by
  obtain ⟨h1, h2, h3⟩ := h
  have e2 : σ1 2 = σ 2 := h1 2 (by omega)
  have e3 : σ1 3 = σ 3 := h1 3 (by omega)
  have e40 : σ1 40 = σ 40 := h1 40 (by omega)
  have ep : F_X1_placeOfBlock σ1 (σ1 40 q) = F_X1_placeOfBlock σ (σ 40 q) := by rw [e40]; exact place_cong e2 e3 _
  have ea : ∀ p, F_X1_angleOfPlace σ1 p = F_X1_angleOfPlace σ p := fun p => by unfold F_X1_angleOfPlace; rw [e2]
  unfold psh
  rw [ep, ea, h2, nI_clamp (by omega), nI_1]
  refine ⟨fun c hc => ?_, ?_, fun i hi => ?_⟩
  · rw [s2_f (by omega), s2_f (by omega), s2_f (by omega), s2_f (by omega), s2_f (by omega), s2_f (by omega), s2_f (by omega)]
    exact h1 c hc
  · rw [s2_e, List.length_append]; rfl
  · rw [List.length_append] at hi
    show s2 σ1 11 l.length (nI q) 11 i = _ ∧ s2 σ1 12 l.length (F_X2_cylinderOfPlace (F_X1_placeOfBlock σ (σ 40 q))) 12 i = _ ∧ s2 σ1 13 l.length (F_X1_angleOfPlace σ (F_X1_placeOfBlock σ (σ 40 q))) 13 i = _ ∧ s2 σ1 14 l.length (F_X2_sectorTicksAt (F_X1_placeOfBlock σ (σ 40 q))) 14 i = _ ∧ s2 σ1 15 l.length lim 15 i = _ ∧ s2 σ1 16 l.length 0 16 i = 0
    by_cases z : i = l.length
    · subst z
      rw [s2_e, s2_e, s2_e, s2_e, s2_e, s2_e, show (l ++ [q]).getD l.length 0 = q by simp]
      exact ⟨rfl, rfl, rfl, rfl, elim, rfl⟩
    · have hi2 : i < l.length := by simp at hi; omega
      rw [s2_n z, s2_n z, s2_n z, s2_n z, s2_n z, s2_n z, show (l ++ [q]).getD i 0 = l.getD i 0 by simp [List.getElem?_append_left hi2]]
      exact h3 i hi2
theorem gather_L {σ μ : Sg} (h : SIM σ μ) (ha : AR (μ 25)) {m : Nat} (hm : m ≤ 80) (em : μ 25 12 = nI m) {on he : Int32} : ∀ (n j : Nat) (σ1 : Sg) (l : List Nat), j + n = 81 → j ≤ m → l.length ≤ 6 → GI σ he σ1 l → GI σ he (L_X3_gather_8 σ on he n (nI j) σ1) (gatL (selR (μ 25) on) 6 (m - j) j l) := by
  have e5 : σ 5 0 = nI m := h.1.2.2.2.1.1.trans em
  intro n
  induction n with
  | zero => intro j σ1 l h1 h2; omega
  | succ n ih =>
    intro j σ1 l h1 h2 hl hG
    have e5' : σ1 5 0 = nI m := by rw [hG.1 5 (by omega)]; exact e5
    by_cases c1 : nI m ≤ nI j
    · rw [L_X3_gather_8, e5', if_pos c1]
      have := le_of_le rfl rfl (by omega) (by omega) c1
      rw [show m - j = 0 by omega]
      exact hG
    have hj := gt_of_nle (x := nI m) (y := nI j) rfl rfl (by omega) (by omega) c1
    rw [show m - j = (m - (j + 1)) + 1 by omega]
    by_cases c2 : (6 : Int32) ≤ nI l.length
    · rw [L_X3_gather_8, e5', if_neg c1, hG.2.1, if_pos c2]
      have := le_of_le (x := 6) (a := 6) rfl rfl (by omega) (by omega) c2
      rw [gatL, if_pos this]
      exact hG
    have hl6 := gt_of_nle (x := 6) (a := 6) rfl rfl (by omega) (by omega) c2
    rw [gatL, if_neg (show ¬ 6 ≤ l.length by omega)]
    obtain ⟨e40, e41, e42, e43, e44⟩ := (h.1.2.2.2.1.2 m hm em).2 j hj
    have e44' : σ1 44 j = μ 25 (350 + j) := by rw [hG.1 44 (by omega)]; exact e44
    have ef : F_X6_find σ1 (nI j) = some j := by
      unfold F_X6_find
      rw [if_neg (nI_nlt0 (by omega)), e5', if_neg c1, if_neg (by rw [show (80 : Int32) = nI 80 from rfl, nI_leI (by omega) (by omega)]; omega), nI_clamp (by omega)]
    have ep : F_X6_findPending σ1 (nI j) = if μ 25 (350 + j) = 0 then some j else none := by
      unfold F_X6_findPending; rw [ef]; show (if σ1 44 j = 0 then some j else none) = _; rw [e44']
    have ehd : F_X4_hasDeadline σ1 j = F_X4_hasDeadline σ j := by unfold F_X4_hasDeadline; rw [hG.1 42 (by omega)]
    have hdl := dl_eq e42 ((ha.2.2.2 m hm em).2 j hj).2
    by_cases c3 : μ 25 (350 + j) = 0
    · rw [if_pos c3] at ep
      rw [gather_step (by rw [e5']; exact c1) (by rw [hG.2.1]; exact c2) ep, ehd, nI_1 j]
      rcases hdl with ⟨q1, q2⟩ | ⟨q1, d, hd, q2⟩
      · rw [q1, if_pos rfl]
        by_cases c4 : on = 0
        · rw [if_pos c4, if_pos (show selR (μ 25) on j = true by unfold selR; simp [c3, c4])]
          refine ih (j + 1) _ (l ++ [j]) (by omega) (by omega) (by rw [List.length_append]; simp; omega) (hG.push hl6 ?_)
          rw [q1, if_pos rfl, ite_self]
        · rw [if_neg c4, if_neg (show ¬ selR (μ 25) on j = true by
            unfold selR
            have : (-1 : Int32) < 0 := by decide
            simp [c4, q2, this])]
          exact ih (j + 1) σ1 l (by omega) (by omega) hl hG
      · have n10 : ¬ (1 : Int32) = 0 := by decide
        rw [q1, if_neg n10, if_pos (show selR (μ 25) on j = true by
            unfold selR
            have : ¬ nI d < 0 := nI_nlt0 (by omega)
            simp [c3, q2, this])]
        refine ih (j + 1) _ (l ++ [j]) (by omega) (by omega) (by rw [List.length_append]; simp; omega) (hG.push hl6 ?_)
        rw [q1, if_neg n10, hG.1 42 (by omega)]
    · rw [if_neg c3] at ep
      rw [L_X3_gather_8, if_neg (by rw [e5']; exact c1), if_neg (by rw [hG.2.1]; exact c2), ep, nI_1 j, if_neg (show ¬ selR (μ 25) on j = true by unfold selR; simp [c3])]
      exact ih (j + 1) σ1 l (by omega) (by omega) hl hG
theorem gather_GI {σ μ : Sg} (h : SIM σ μ) (ha : AR (μ 25)) {m : Nat} (hm : m ≤ 80) (em : μ 25 12 = nI m) {on he : Int32} : GI σ he (F_X3_gather σ on he) (gatL (selR (μ 25) on) 6 m 0 []) := by
  have := gather_L h ha hm em (on := on) (he := he) 81 0 (s2 σ 10 0 0) [] (by omega) (by omega) (by simp) ⟨fun c hc => s2_f (by omega), rfl, fun i hi => absurd hi (by simp)⟩
  exact this
