theorem A_seekTime {μ : Sg} (h : AR (μ 25)) (a b : Int32) : AR ((F_X10_seekTime μ a b).2 25) := by unfold F_X10_seekTime; (repeat' split) <;> exact h
theorem A_placeOf {μ : Sg} (h : AR (μ 25)) (a : Int32) : AR ((F_X10_placeOf μ a).2 25) := by unfold F_X10_placeOf; (repeat' split) <;> exact h
theorem A_cylinderOf {μ : Sg} (h : AR (μ 25)) (a : Int32) : AR ((F_X10_cylinderOf μ a).2 25) := by unfold F_X10_cylinderOf; (repeat' split) <;> exact h
theorem A_sectorOf {μ : Sg} (h : AR (μ 25)) (a : Int32) : AR ((F_X10_sectorOf μ a).2 25) := by unfold F_X10_sectorOf; (repeat' split) <;> exact h
theorem A_startAngle {μ : Sg} (h : AR (μ 25)) (a : Int32) : AR ((F_X10_startAngle μ a).2 25) := by unfold F_X10_startAngle; (repeat' split) <;> exact h
theorem A_accessTime {μ : Sg} (h : AR (μ 25)) (a : Int32) : AR ((F_X10_accessTime μ a).2 25) := by unfold F_X10_accessTime; (repeat' split) <;> exact h
theorem A_accessesOf {μ : Sg} (h : AR (μ 25)) (a : Int32) : AR ((F_X10_accessesOf μ a).2 25) := by unfold F_X10_accessesOf; (repeat' split) <;> exact h
theorem A_total {μ : Sg} (h : AR (μ 25)) (a : Int32) : AR ((F_X10_total μ a).2 25) := by unfold F_X10_total; (repeat' split) <;> exact h
theorem A_appendCharacter {μ : Sg} (h : AR (μ 25)) (a : Int32) : AR ((F_X10_appendCharacter μ a).2 25) := by unfold F_X10_appendCharacter; (repeat' split) <;> exact h
theorem A_state {μ : Sg} (h : AR (μ 25)) (a : Int32) : AR ((F_X10_state μ a).2 25) := by unfold F_X10_state; (repeat' split) <;> exact h
theorem A_bucket {μ : Sg} (h : AR (μ 25)) (a : Int32) : AR ((F_X10_bucket μ a).2 25) := by unfold F_X10_bucket; (repeat' split) <;> exact h
theorem A_finish {μ : Sg} (h : AR (μ 25)) (a : Int32) : AR ((F_X10_finish μ a).2 25) := by unfold F_X10_finish; (repeat' split) <;> exact h
theorem A_isLate {μ : Sg} (h : AR (μ 25)) (a : Int32) : AR ((F_X10_isLate μ a).2 25) := by unfold F_X10_isLate; (repeat' split) <;> exact h
theorem AR.s25 {μ : Sg} {k : Nat} {v : Int32} (h : AR (μ 25)) (hk : k ≠ 4 ∧ k ≠ 5 ∧ k ≠ 6 ∧ k ≠ 8 ∧ k ≠ 12 ∧ (k < 190 ∨ 430 ≤ k)) : AR (s2 μ 25 k v 25) := h.same (s2_n (by omega)) (s2_n (by omega)) (s2_n (by omega)) (s2_n (by omega)) (Int.le_of_eq (congrArg _ (s2_n (by omega)).symm)) (fun i h1 h2 => s2_n (by omega)) (fun m hm => Nat.le_of_eq (pcnt_ext (fun i hi => s2_n (by omega))))
theorem A_setCurve {μ : Sg} (h : AR (μ 25)) (a b c : Int32) : AR (F_X10_setCurve μ a b c 25) := by
  unfold F_X10_setCurve
  (repeat' split) <;> first | exact h | skip
  exact ((AR.s25 (μ := s2 μ 24 1 0) h (by omega)).s25 (by omega)).s25 (by omega)
theorem A_setSkew {μ : Sg} (h : AR (μ 25)) (a : Int32) : AR ((F_X10_setSkew μ a).2 25) := by
  unfold F_X10_setSkew
  split
  · exact h
  · exact AR.s25 (μ := s2 μ 24 1 0) (k := 3) h (by omega)
theorem A_setPolicy {μ : Sg} (h : AR (μ 25)) (a : Int32) : AR ((F_X10_setPolicy μ a).2 25) := by
  unfold F_X10_setPolicy
  by_cases c : F_X10_in a 0 6 = 0
  · rw [if_pos c]; exact h
  · rw [if_neg c]
    obtain ⟨p, hp, ep⟩ := in_bd (B := 6) (by decide) rfl c
    obtain ⟨a1, a2, a3, a4⟩ := h
    show AR (s2 μ 25 4 a 25)
    refine ⟨a1, a2, ⟨p, hp, ep⟩, fun m hm em => ?_⟩
    obtain ⟨b1, b2⟩ := a4 m hm em
    refine ⟨Nat.le_trans (Nat.le_of_eq (pcnt_ext (fun i hi => s2_n (by omega)))) b1, fun i hi => ?_⟩
    rw [s2_n (show 190 + i ≠ 4 by omega), s2_n (show 270 + i ≠ 4 by omega)]
    exact b2 i hi
theorem A_setBuckets {μ : Sg} (h : AR (μ 25)) (a b : Int32) : AR (F_X10_setBuckets μ a b 25) := by
  unfold F_X10_setBuckets
  by_cases c : F_X10_in a 1 999 = 0
  · rw [if_pos c]; exact h
  · rw [if_neg c]
    by_cases c2 : F_X10_in b 1 9999 = 0
    · rw [if_pos c2]; exact h
    · rw [if_neg c2]
      obtain ⟨a1, a2, a3, a4⟩ := h
      obtain ⟨w, hw1, hw2, ew⟩ := in1_bd (B := 999) (by decide) rfl c
      obtain ⟨g, hg1, hg2, eg⟩ := in1_bd (B := 9999) (by decide) rfl c2
      show AR (s2 (s2 μ 25 5 a) 25 6 b 25)
      refine ⟨⟨w, hw1, hw2, ew⟩, ⟨g, hg1, hg2, eg⟩, a3, fun m hm em => ?_⟩
      obtain ⟨b1, b2⟩ := a4 m hm em
      refine ⟨Nat.le_trans (Nat.le_of_eq (pcnt_ext (fun i hi => (s2_n (by omega)).trans (s2_n (by omega))))) b1, fun i hi => ?_⟩
      rw [s2_n (show 190 + i ≠ 6 by omega), s2_n (show 270 + i ≠ 6 by omega), s2_n (show 190 + i ≠ 5 by omega), s2_n (show 270 + i ≠ 5 by omega)]
      exact b2 i hi
theorem A_setWriteBack {μ : Sg} (h : AR (μ 25)) (a : Int32) : AR ((F_X10_setWriteBack μ a).2 25) := by
  have h0 : AR ((F_X10_becomes (s2 μ 24 1 0) 7 0).2 25) := AR.s25 (μ := s2 μ 24 1 0) (k := 7) h (by omega)
  have h1 : AR ((F_X10_becomes (s2 μ 24 1 0) 7 1).2 25) := AR.s25 (μ := s2 μ 24 1 0) (k := 7) h (by omega)
  unfold F_X10_setWriteBack
  (repeat' split) <;> first | exact h0 | exact h1 | exact h
theorem A_idle {σ μ : Sg} (hs : SIM σ μ) (h : AR (μ 25)) (a : Int32) : AR ((F_X10_idle μ a).2 25) := by
  unfold F_X10_idle
  by_cases c : F_X10_in a 1 1000 = 0
  · rw [if_pos c]; exact h
  · rw [if_neg c]
    split
    · obtain ⟨t, ht1, ht2, rfl⟩ := in1_bd (B := 1000) (by decide) rfl c
      obtain ⟨k, hk, ek⟩ := hs.1.2.2.1.2.2.2.2
      show AR (s2 μ 25 8 (μ 25 8 + nI t) 25)
      refine h.same (s2_n (by omega)) (s2_n (by omega)) (s2_n (by omega)) (s2_n (by omega)) ?_ (fun i h1 h2 => s2_n (by omega)) (fun m hm => Nat.le_of_eq (pcnt_ext (fun i hi => s2_n (by omega))))
      rw [s2_e, ek, nI_add, nI_toInt (by omega), nI_toInt (by omega)]
      omega
    · exact h
theorem A_moveToSpare {μ : Sg} (hM : MOKg (μ 25)) (h : AR (μ 25)) (a : Int32) : AR ((F_X10_moveToSpare μ a).2 25) := by
  obtain ⟨m, hm, em⟩ := hM.1
  have e : ((20 : Int32) + μ 25 11).toNatClampNeg = 20 + m := by rw [em]; exact tnA (c := 20) (by omega)
  unfold F_X10_moveToSpare
  split
  · exact h
  · split
    · split
      · exact h
      · refine (AR.s25 (μ := s2 μ 24 1 0) (k := ((20 : Int32) + μ 25 11).toNatClampNeg) h ?_).s25 (by omega)
        rw [e]; omega
    · exact h
theorem A_u {μ μ' : Sg} (h : AR (μ 25)) (hu : FRU μ μ') : AR (μ' 25) := by rw [hu.1 25 (by omega) (by omega) (by omega) (by omega) (by omega)]; exact h
theorem A_bestFinish {μ : Sg} (h : AR (μ 25)) : AR ((F_X10_bestFinish μ).2 25) := by
  unfold F_X10_bestFinish
  split
  · exact A_u (μ := s2 μ 24 1 0) h (searches_FRU _)
  · exact h
theorem A_bestRequest {μ : Sg} (h : AR (μ 25)) (a : Int32) : AR ((F_X10_bestRequest μ a).2 25) := by
  unfold F_X10_bestRequest
  split
  · split
    · show AR (F_X10_searches (s2 μ 24 1 0) 0 0 6 25)
      exact A_u (μ := s2 μ 24 1 0) h (searches_FRU _)
    · exact A_u (μ := s2 μ 24 1 0) h (searches_FRU _)
  · exact h
theorem A_canMeetDeadlines {μ : Sg} (h : AR (μ 25)) : AR ((F_X10_canMeetDeadlines μ).2 25) := by
  unfold F_X10_canMeetDeadlines
  split
  · split
    · exact A_u (μ := s2 μ 24 1 0) h (searches_FRU _)
    · exact A_u (μ := s2 μ 24 1 0) h (searches_FRU _)
  · exact h
/-- what the law keeps -/
def SVD (G : GG) (E : EE) (μ : Sg) (Y : va_W) : Prop := (E.2.2.2.1 = none ∧ Y = [] ∧ μ 24 0 = 0) ∨ ∃ (F : EE) (τ : Sg), E.2.2.2.1 = some (F.1 1) ∧ Y = YS G F τ ∧ CNT F τ ∧ SAV τ μ ∧ μ 24 0 = 1
def LI (G : GG) (E : EE) (σ μ : Sg) (Y : va_W) : Prop := SIM σ μ ∧ AR (μ 25) ∧ (∃ q : Nat, q ≤ 40 ∧ μ 24 3 = nI q) ∧ CNT E σ ∧ SVD G E μ Y
theorem SVD.mv {G : GG} {E E' : EE} {μ μ' : Sg} {Y : va_W} (h : SVD G E μ Y) (e : E'.2.2.2.1 = E.2.2.2.1) (e26 : μ' 26 = μ 26) (e24 : μ' 24 0 = μ 24 0) : SVD G E' μ' Y := by
  rcases h with ⟨h1, h2, h3⟩ | ⟨F, τ, h1, h2, h3, h4, h5⟩
  · exact Or.inl ⟨e.trans h1, h2, e24.trans h3⟩
  · refine Or.inr ⟨F, τ, e.trans h1, h2, h3, ?_, e24.trans h5⟩
    unfold SAV
    rw [e26]; exact h4
theorem LI.step {G : GG} {E E' : EE} {σ μ σ' μ' : Sg} {Y : va_W} (h : LI G E σ μ Y) (hs : SIM σ' μ') (ha : AR (μ' 25)) (hf : FX μ μ') (e1 : E'.2.2.1 = E.2.2.1) (e2 : E'.2.2.2.1 = E.2.2.2.1) : LI G E' σ' μ' Y := by
  obtain ⟨s, a, ⟨q, hq, eq⟩, ⟨n, n8, nE, n5⟩, sv⟩ := h
  refine ⟨hs, ha, ⟨q, hq, hf.2.2.1.trans eq⟩, ⟨n, n8, by rw [e1]; exact nE, ?_⟩, sv.mv e2 hf.1 hf.2.1⟩
  rw [hs.1.2.2.2.1.1, hf.2.2.2, ← s.1.2.2.2.1.1]
  exact n5
theorem LI.tok {G : GG} {E : EE} {σ μ : Sg} {Y : va_W} (h : LI G E σ μ Y) : TOK (μ 24) := ⟨h.1.2.2.2.1, h.2.2.1⟩
theorem LI.mok {G : GG} {E : EE} {σ μ : Sg} {Y : va_W} (h : LI G E σ μ Y) : MOKg (μ 25) := h.1.1.2.1
theorem LI.b8 {G : GG} {E : EE} {σ μ : Sg} {Y : va_W} (h : LI G E σ μ Y) : σ 8 0 = 0 ∨ σ 8 0 = 1 := by rw [h.1.1.2.2.2.2.2.1]; exact h.1.1.2.2.2.2.2.2.1
theorem LI.b7 {G : GG} {E : EE} {σ μ : Sg} {Y : va_W} (h : LI G E σ μ Y) : σ 7 1 = 0 ∨ σ 7 1 = 1 := by rw [h.1.1.2.2.2.2.1.2.1]; exact h.1.1.2.2.2.2.1.2.2.2.2
/-- rows are made -/
theorem LI.rows {G : GG} {E E' : EE} {σ μ σ' μ' : Sg} {Y : va_W} (h : LI G E σ μ Y) (hs : SIM σ' μ') (ha : AR (μ' 25)) (h26 : μ' 26 = μ 26) (h240 : μ' 24 0 = μ 24 0) (hq : ∃ q : Nat, q ≤ 40 ∧ μ' 24 3 = nI q) (e1 : ∃ n : Nat, n ≤ 80 ∧ n ≤ E'.2.2.1 ∧ σ' 5 0 = nI n) (e2 : E'.2.2.2.1 = E.2.2.2.1) : LI G E' σ' μ' Y := by
  obtain ⟨s, a, -, -, sv⟩ := h
  exact ⟨hs, ha, hq, e1, sv.mv e2 h26 h240⟩
