/-! WHAT THE LAW KEEPS -/
def FX (μ μ' : Sg) : Prop := μ' 26 = μ 26 ∧ μ' 24 0 = μ 24 0 ∧ μ' 24 3 = μ 24 3 ∧ μ' 25 12 = μ 25 12
theorem FX.rf (μ : Sg) : FX μ μ := ⟨rfl, rfl, rfl, rfl⟩
theorem FX.tr {a b c : Sg} (h : FX a b) (h2 : FX b c) : FX a c := ⟨h2.1.trans h.1, h2.2.1.trans h.2.1, h2.2.2.1.trans h.2.2.1, h2.2.2.2.trans h.2.2.2⟩
theorem FX.t (μ : Sg) (v : Int32) : FX μ (s2 μ 24 1 v) := ⟨rfl, rfl, rfl, rfl⟩
theorem FX.s25 (μ : Sg) {k : Nat} (v : Int32) (hk : k ≠ 12) : FX μ (s2 μ 25 k v) := ⟨rfl, rfl, rfl, s2_n (fun z => hk z.symm)⟩
theorem FX.u {μ μ' : Sg} (h : FRU μ μ') : FX μ μ' := ⟨h.1 26 (by omega) (by omega) (by omega) (by omega) (by omega), h.2 0 (by omega) (by omega) (by omega), h.2 3 (by omega) (by omega) (by omega), by rw [h.1 25 (by omega) (by omega) (by omega) (by omega) (by omega)]⟩
theorem FX.acc {μ : Sg} {x : Int32} (hx : plc x) : FX μ (F_X10_accesses μ x) := by
  obtain ⟨p, hp, rfl⟩ := hx
  exact ⟨acc_o (by omega), by rw [acc_o (by omega)], by rw [acc_o (by omega)], acc_fr hp (by omega) (by omega) (by omega) (by omega)⟩
theorem FX_setCurve (μ : Sg) (a b c : Int32) : FX μ (F_X10_setCurve μ a b c) := by unfold F_X10_setCurve; (repeat' split) <;> exact ⟨rfl, rfl, rfl, rfl⟩
theorem FX_setSkew (μ : Sg) (a : Int32) : FX μ (F_X10_setSkew μ a).2 := by unfold F_X10_setSkew; (repeat' split) <;> exact ⟨rfl, rfl, rfl, rfl⟩
theorem FX_setPolicy (μ : Sg) (a : Int32) : FX μ (F_X10_setPolicy μ a).2 := by unfold F_X10_setPolicy; (repeat' split) <;> exact ⟨rfl, rfl, rfl, rfl⟩
theorem FX_setBuckets (μ : Sg) (a b : Int32) : FX μ (F_X10_setBuckets μ a b) := by unfold F_X10_setBuckets; (repeat' split) <;> exact ⟨rfl, rfl, rfl, rfl⟩
theorem FX_setWriteBack (μ : Sg) (a : Int32) : FX μ (F_X10_setWriteBack μ a).2 := by unfold F_X10_setWriteBack; (repeat' split) <;> exact ⟨rfl, rfl, rfl, rfl⟩
theorem FX_seekTime (μ : Sg) (a b : Int32) : FX μ (F_X10_seekTime μ a b).2 := by unfold F_X10_seekTime; (repeat' split) <;> exact ⟨rfl, rfl, rfl, rfl⟩
theorem FX_placeOf (μ : Sg) (a : Int32) : FX μ (F_X10_placeOf μ a).2 := by unfold F_X10_placeOf; (repeat' split) <;> exact ⟨rfl, rfl, rfl, rfl⟩
theorem FX_cylinderOf (μ : Sg) (a : Int32) : FX μ (F_X10_cylinderOf μ a).2 := by unfold F_X10_cylinderOf; (repeat' split) <;> exact ⟨rfl, rfl, rfl, rfl⟩
theorem FX_sectorOf (μ : Sg) (a : Int32) : FX μ (F_X10_sectorOf μ a).2 := by unfold F_X10_sectorOf; (repeat' split) <;> exact ⟨rfl, rfl, rfl, rfl⟩
theorem FX_startAngle (μ : Sg) (a : Int32) : FX μ (F_X10_startAngle μ a).2 := by unfold F_X10_startAngle; (repeat' split) <;> exact ⟨rfl, rfl, rfl, rfl⟩
theorem FX_accessTime (μ : Sg) (a : Int32) : FX μ (F_X10_accessTime μ a).2 := by unfold F_X10_accessTime; (repeat' split) <;> exact ⟨rfl, rfl, rfl, rfl⟩
theorem FX_accessesOf (μ : Sg) (a : Int32) : FX μ (F_X10_accessesOf μ a).2 := by unfold F_X10_accessesOf; (repeat' split) <;> exact ⟨rfl, rfl, rfl, rfl⟩
theorem FX_idle (μ : Sg) (a : Int32) : FX μ (F_X10_idle μ a).2 := by unfold F_X10_idle; (repeat' split) <;> exact ⟨rfl, rfl, rfl, rfl⟩
theorem FX_total (μ : Sg) (a : Int32) : FX μ (F_X10_total μ a).2 := by unfold F_X10_total; (repeat' split) <;> exact ⟨rfl, rfl, rfl, rfl⟩
theorem FX_appendCharacter (μ : Sg) (a : Int32) : FX μ (F_X10_appendCharacter μ a).2 := by unfold F_X10_appendCharacter; (repeat' split) <;> exact ⟨rfl, rfl, rfl, rfl⟩
theorem FX_state (μ : Sg) (a : Int32) : FX μ (F_X10_state μ a).2 := by unfold F_X10_state; (repeat' split) <;> exact ⟨rfl, rfl, rfl, rfl⟩
theorem FX_bucket (μ : Sg) (a : Int32) : FX μ (F_X10_bucket μ a).2 := by unfold F_X10_bucket; (repeat' split) <;> exact ⟨rfl, rfl, rfl, rfl⟩
theorem FX_finish (μ : Sg) (a : Int32) : FX μ (F_X10_finish μ a).2 := by unfold F_X10_finish; (repeat' split) <;> exact ⟨rfl, rfl, rfl, rfl⟩
theorem FX_isLate (μ : Sg) (a : Int32) : FX μ (F_X10_isLate μ a).2 := by unfold F_X10_isLate; (repeat' split) <;> exact ⟨rfl, rfl, rfl, rfl⟩
theorem FX_moveToSpare {μ : Sg} (hM : MOKg (μ 25)) (a : Int32) : FX μ (F_X10_moveToSpare μ a).2 := by
  obtain ⟨m, hm, em⟩ := hM.1
  have e : ((20 : Int32) + μ 25 11).toNatClampNeg = 20 + m := by rw [em]; exact tnA (c := 20) (by omega)
  unfold F_X10_moveToSpare
  split
  · exact ⟨rfl, rfl, rfl, rfl⟩
  · split
    · split
      · exact ⟨rfl, rfl, rfl, rfl⟩
      · refine ((FX.t μ 0).tr (FX.s25 _ _ ?_)).tr (FX.s25 _ _ (by omega))
        show ((20 : Int32) + μ 25 11).toNatClampNeg ≠ 12
        rw [e]; omega
    · exact ⟨rfl, rfl, rfl, rfl⟩
theorem FX_cancel {σ μ : Sg} (h : SIM σ μ) (a : Int32) : FX μ (F_X10_cancel μ a) := by
  unfold F_X10_cancel
  rcases find_isR (n := a) h with ⟨e1, e2⟩ | ⟨m, i, hm, em, hi, rfl, e1, e2, -⟩
  · rw [if_pos e2]; exact FX.t μ 1
  · rw [if_neg (by rw [e2]; decide), show ((350 : Int32) + nI i).toNatClampNeg = 350 + i from tnA (c := 350) (by omega)]
    split
    · exact FX.t μ 2
    · exact (FX.t μ 0).tr (FX.s25 _ _ (by omega))
theorem FX_bestFinish (μ : Sg) : FX μ (F_X10_bestFinish μ).2 := by
  unfold F_X10_bestFinish
  split
  · exact (FX.t μ 0).tr (FX.u (searches_FRU _))
  · exact ⟨rfl, rfl, rfl, rfl⟩
theorem FX_bestRequest (μ : Sg) (a : Int32) : FX μ (F_X10_bestRequest μ a).2 := by
  unfold F_X10_bestRequest
  split
  · split
    · exact ((FX.t μ 0).tr (FX.u (searches_FRU _))).tr (FX.t _ 2)
    · exact (FX.t μ 0).tr (FX.u (searches_FRU _))
  · exact ⟨rfl, rfl, rfl, rfl⟩
theorem FX_canMeetDeadlines (μ : Sg) : FX μ (F_X10_canMeetDeadlines μ).2 := by
  unfold F_X10_canMeetDeadlines
  split
  · split
    · exact (FX.t μ 0).tr (FX.u (searches_FRU _))
    · exact (FX.t μ 0).tr (FX.u (searches_FRU _))
  · exact ⟨rfl, rfl, rfl, rfl⟩
theorem chosen_FRU (μ : Sg) : FRU μ (F_X10_chosen μ).2 := by
  unfold F_X10_chosen
  split
  · split
    · exact searches_FRU _
    · split
      · exact searches_FRU _
      · exact searches_FRU _
  · exact FRU.rf μ
theorem FX_next (μ : Sg) : FX μ (F_X10_next μ).2 := by
  unfold F_X10_next
  split
  · exact ⟨rfl, rfl, rfl, rfl⟩
  · exact (FX.t μ 0).tr (FX.u (chosen_FRU _))
theorem FX_serves {μ : Sg} (hM : MOKg (μ 25)) (hp : pnd (μ 25) (F_X10_chosen μ).1) : FX μ (F_X10_serves μ).2 := by
  obtain ⟨-, s12, -⟩ := serves_ok hM hp
  obtain ⟨S', hS, -, e2⟩ := serves_st μ
  have hu := FX.u (chosen_FRU μ)
  have o : ∀ c, c ≠ 25 → (F_X10_serves μ).2 c = (F_X10_chosen μ).2 c := fun c hc => by
    rw [e2, s2_f hc, s2_f hc, acc_o hc]
    rcases hS with e | e
    · rw [e]
    · rw [e, s2_f hc]
  exact ⟨by rw [o 26 (by omega)]; exact hu.1, by rw [o 24 (by omega)]; exact hu.2.1, by rw [o 24 (by omega)]; exact hu.2.2.1, s12⟩
theorem FX_serve {μ : Sg} (hM : MOKg (μ 25)) : FX μ (F_X10_serve μ).2 := by
  unfold F_X10_serve
  split
  · exact ⟨rfl, rfl, rfl, rfl⟩
  · rename_i hp
    split
    · exact (FX.t μ 0).tr (FX_serves (μ := s2 μ 24 1 0) hM (chosen_pnd (μ := s2 μ 24 1 0) hM hp))
    · exact ⟨rfl, rfl, rfl, rfl⟩
theorem FX_serveFor_L {μ : Sg} {tk : Int32} : ∀ (n : Nat) (en x : Int32) (μ1 : Sg), MOKg (μ1 25) → (∃ m : Nat, m ≤ 80 ∧ μ1 25 12 = nI m ∧ pcnt (μ1 25) m < n) → FX μ1 (L_X10_serveFor_52 μ tk n en x μ1).2 := by
  intro n
  induction n with
  | zero => intro en x μ1 hM ⟨m, _, _, h⟩; omega
  | succ n ih =>
    intro en x μ1 hM hc
    rw [L_X10_serveFor_52]
    by_cases c1 : F_X10_pending μ1 ≤ 0
    · rw [if_pos c1]; exact FX.rf μ1
    · rw [if_neg c1]
      by_cases c2 : en ≤ μ1 25 8
      · rw [if_pos c2]; exact FX.rf μ1
      · rw [if_neg c2]
        obtain ⟨a, b⟩ := sf_step hM hc c1
        exact (FX_serves hM (chosen_pnd hM (fun e => c1 (by rw [e]; decide)))).tr (ih _ _ _ a b)
theorem FX_serveFor {μ : Sg} (hM : MOKg (μ 25)) (a : Int32) : FX μ (F_X10_serveFor μ a).2 := by
  unfold F_X10_serveFor
  split
  · exact ⟨rfl, rfl, rfl, rfl⟩
  · split
    · obtain ⟨m, hm, em⟩ := hM.2.1
      have := pcnt_le (μ 25) m
      exact (FX.t μ 0).tr (FX_serveFor_L 81 _ _ _ hM ⟨m, hm, em, by show pcnt (μ 25) m < 81; omega⟩)
    · exact ⟨rfl, rfl, rfl, rfl⟩
theorem FX_fl {μ : Sg} {x fr to : Int32} (hM : MOKg (μ 25)) (h : ¬ x < 0) (ex : x = F_X10_dirtyFrom μ fr to) : FX μ (s2 (F_X10_accesses μ (F_X10_place μ x)) 25 ((510 : Int32) + x).toNatClampNeg 0) := by
  obtain ⟨b, hb, rfl⟩ := fl_blk h ex
  rw [show ((510 : Int32) + nI b).toNatClampNeg = 510 + b from tnA (c := 510) (by omega)]
  exact (FX.acc (place_plc hM.1 ⟨b, hb, rfl⟩)).tr (FX.s25 _ _ (by omega))
theorem FX_flush_94 {μ : Sg} : ∀ (n : Nat) (bg md x : Int32) (μ1 : Sg), MOKg (μ1 25) → dcnt (μ1 25) 572 < n → x = F_X10_dirtyFrom μ1 0 md → FX μ1 (L_X10_flush_94 μ n bg md x μ1).2 := by
  intro n
  induction n with
  | zero => intro bg md x μ1 hM h; omega
  | succ n ih =>
    intro bg md x μ1 hM h ex
    rw [L_X10_flush_94]
    by_cases c : x < 0
    · rw [if_pos c]; exact FX.rf μ1
    · rw [if_neg c]
      have c' := c
      rw [ex] at c'
      obtain ⟨a, b⟩ := fl_step c' hM h
      rw [← ex] at a b
      exact (FX_fl hM c ex).tr (ih _ _ _ _ a b rfl)
theorem FX_flush_51 {μ : Sg} : ∀ (n : Nat) (bg md x : Int32) (μ1 : Sg), MOKg (μ1 25) → dcnt (μ1 25) 572 < n → x = F_X10_dirtyFrom μ1 md 576 → FX μ1 (L_X10_flush_51 μ n bg md x μ1).2 := by
  intro n
  induction n with
  | zero => intro bg md x μ1 hM h; omega
  | succ n ih =>
    intro bg md x μ1 hM h ex
    rw [L_X10_flush_51]
    by_cases c : x < 0
    · rw [if_pos c]
      have := dcnt_le (μ1 25) 572
      exact FX_flush_94 573 _ _ _ _ hM (by omega) rfl
    · rw [if_neg c]
      have c' := c
      rw [ex] at c'
      obtain ⟨a, b⟩ := fl_step c' hM h
      rw [← ex] at a b
      exact (FX_fl hM c ex).tr (ih _ _ _ _ a b rfl)
theorem FX_flush {μ : Sg} (hM : MOKg (μ 25)) : FX μ (F_X10_flush μ).2 := by
  unfold F_X10_flush
  split
  · have := dcnt_le (μ 25) 572
    exact (FX.t μ 0).tr (FX_flush_51 573 _ _ _ _ hM (by show dcnt (μ 25) 572 < 573; omega) rfl)
  · exact ⟨rfl, rfl, rfl, rfl⟩
