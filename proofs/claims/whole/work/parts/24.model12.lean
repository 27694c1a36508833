theorem L_faultOf_ok {μ : Sg} : ∀ (n : Nat) (μ1 : Sg) (i q : Nat), IOK μ1 i → μ1 24 3 = nI q → 3 * i ≤ q → q ≤ 40 → i + n = 15 → FRT μ μ1 → FRT μ (L_X10_faultOf_10 μ n μ1).2 ∧ ∃ j : Nat, j ≤ 14 ∧ (L_X10_faultOf_10 μ n μ1).2 24 6 = nI j := by
  intro n
  induction n with
  | zero => intro μ1 i q hK eq h3 h40 hn; omega
  | succ n ih =>
    intro μ1 i q hK eq h3 h40 hn hR
    rw [L_X10_faultOf_10]
    dsimp only
    have hit := item_ok hK
    generalize h1 : F_X10_isItem μ1 = r1 at hit
    by_cases q1 : r1.1 = 0
    · rw [if_pos q1]; exact ⟨hR.tr hit.1, i, by omega, hit.2.2.2 q1⟩
    · rw [if_neg q1]
      obtain ⟨A, e6⟩ := hit.2.2.1 q1
      have f := skips_fr (μ := r1.2) (ch := 44)
      generalize h2 : F_X10_skips r1.2 44 = r2 at f
      have fr : FRT μ r2.2 := (hR.tr hit.1).tr ⟨fun c h24 _ => f.1 c h24, f.2.2⟩
      have i6 : r2.2 24 6 = nI (i + 1) := f.2.1.trans e6
      by_cases q2 : r2.1 = 0
      · rw [if_pos q2]
        split <;> exact ⟨fr, i + 1, by omega, i6⟩
      · rw [if_neg q2]
        obtain ⟨⟨i', q', k', e', a', b', d'⟩, r'⟩ := fo_step hK eq h3 h40 hn hR h1 q1 h2 q2
        exact ih r2.2 i' q' k' e' a' b' d' r'
theorem faultOf_ok {μ : Sg} (hT : TOK (μ 24)) : FRT μ (F_X10_faultOf μ).2 ∧ ∃ j : Nat, j ≤ 14 ∧ (F_X10_faultOf μ).2 24 6 = nI j := by
  unfold F_X10_faultOf
  exact L_faultOf_ok 15 _ 0 0 ⟨⟨hT.1, 0, by omega, rfl⟩, rfl⟩ rfl (by omega) (by omega) (by omega) ⟨fun c h24 _ => (s2_o h24).trans (s2_o h24), rfl⟩
theorem comes_o {μ : Sg} {kd bk al : Int32} {c : Nat} (h : c ≠ 25) : (F_X10_comes μ kd bk al).2 c = μ c := by
  unfold F_X10_comes
  (repeat' split) <;> (dsimp only; repeat rw [s2_o h])
theorem comes_low {μ : Sg} {kd bk al : Int32} {m b i : Nat} (hm : m < 80) (em : μ 25 12 = nI m) (hb : b ≤ 571) (eb : bk = nI b) (hi : i ≠ 12) (hi2 : i < 30 ∨ (110 ≤ i ∧ i < 190 ∧ i ≠ 110 + m)) : (F_X10_comes μ kd bk al).2 25 i = μ 25 i := by
  unfold F_X10_comes
  rw [em, eb, show ((30 : Int32) + nI m).toNatClampNeg = 30 + m from tnA (c := 30) (by omega), show ((110 : Int32) + nI m).toNatClampNeg = 110 + m from tnA (c := 110) (by omega), show ((190 : Int32) + nI m).toNatClampNeg = 190 + m from tnA (c := 190) (by omega), show ((270 : Int32) + nI m).toNatClampNeg = 270 + m from tnA (c := 270) (by omega), show ((350 : Int32) + nI m).toNatClampNeg = 350 + m from tnA (c := 350) (by omega), show ((430 : Int32) + nI m).toNatClampNeg = 430 + m from tnA (c := 430) (by omega), show ((510 : Int32) + nI b).toNatClampNeg = 510 + b from tnA (c := 510) (by omega)]
  (repeat' split) <;> (dsimp only; repeat rw [s2_n (by omega)])
theorem comes_12 {μ : Sg} {kd bk al : Int32} {m b : Nat} (hm : m < 80) (em : μ 25 12 = nI m) (hb : b ≤ 571) (eb : bk = nI b) : (F_X10_comes μ kd bk al).2 25 12 = nI (m + 1) := by
  unfold F_X10_comes
  rw [em, eb, show ((30 : Int32) + nI m).toNatClampNeg = 30 + m from tnA (c := 30) (by omega), show ((110 : Int32) + nI m).toNatClampNeg = 110 + m from tnA (c := 110) (by omega), show ((190 : Int32) + nI m).toNatClampNeg = 190 + m from tnA (c := 190) (by omega), show ((270 : Int32) + nI m).toNatClampNeg = 270 + m from tnA (c := 270) (by omega), show ((350 : Int32) + nI m).toNatClampNeg = 350 + m from tnA (c := 350) (by omega), show ((430 : Int32) + nI m).toNatClampNeg = 430 + m from tnA (c := 430) (by omega), show ((510 : Int32) + nI b).toNatClampNeg = 510 + b from tnA (c := 510) (by omega), nI_1 m]
  (repeat' split) <;> (dsimp only; (repeat rw [s2_n (by omega)]); rw [s2_e])
theorem comes_bk {μ : Sg} {kd bk al : Int32} {m b : Nat} (hm : m < 80) (em : μ 25 12 = nI m) (hb : b ≤ 571) (eb : bk = nI b) : (F_X10_comes μ kd bk al).2 25 (110 + m) = nI b := by
  unfold F_X10_comes
  rw [em, eb, show ((30 : Int32) + nI m).toNatClampNeg = 30 + m from tnA (c := 30) (by omega), show ((110 : Int32) + nI m).toNatClampNeg = 110 + m from tnA (c := 110) (by omega), show ((190 : Int32) + nI m).toNatClampNeg = 190 + m from tnA (c := 190) (by omega), show ((270 : Int32) + nI m).toNatClampNeg = 270 + m from tnA (c := 270) (by omega), show ((350 : Int32) + nI m).toNatClampNeg = 350 + m from tnA (c := 350) (by omega), show ((430 : Int32) + nI m).toNatClampNeg = 430 + m from tnA (c := 430) (by omega), show ((510 : Int32) + nI b).toNatClampNeg = 510 + b from tnA (c := 510) (by omega)]
  (repeat' split) <;> (dsimp only; (repeat rw [s2_n (by omega)]); rw [s2_e])
theorem comes_ok {μ : Sg} {kd bk al : Int32} (hM : MOKg (μ 25)) (hm : ∃ m : Nat, m < 80 ∧ μ 25 12 = nI m) (hb : blk bk) : MOKg ((F_X10_comes μ kd bk al).2 25) := by
  obtain ⟨m, hm, em⟩ := hm
  obtain ⟨b, hb, eb⟩ := hb
  have low := fun i => comes_low (kd := kd) (al := al) (i := i) hm em hb eb
  refine ⟨by rw [low 11 (by omega) (by omega)]; exact hM.1, ⟨m + 1, by omega, comes_12 hm em hb eb⟩, by rw [low 9 (by omega) (by omega)]; exact hM.2.2.1, by rw [low 5 (by omega) (by omega)]; exact hM.2.2.2.1, by rw [low 6 (by omega) (by omega)]; exact hM.2.2.2.2.1, fun r hr => ?_⟩
  by_cases e : r = m
  · subst e; rw [comes_bk hm em hb eb]; exact ⟨b, hb, rfl⟩
  · rw [low (110 + r) (by omega) (by omega)]; exact hM.2.2.2.2.2 r hr
