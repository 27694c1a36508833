theorem S_appendCharacter {σ μ : Sg} {ch : Int32} (h : SIM σ μ) : hcd [1, 2] (X_X9_appendCharacter σ ch) = (F_X10_appendCharacter μ ch).2 24 1 ∧ (X_X9_appendCharacter σ ch = 0 → (F_X9_appendCharacter σ ch).1 = (F_X10_appendCharacter μ ch).1) ∧ SIM (F_X9_appendCharacter σ ch).2 (F_X10_appendCharacter μ ch).2 := by
  obtain ⟨t1, t2, ⟨n, hn, en⟩, t3⟩ := h.2
  have e19 : σ 19 0 = nI n := t1.trans en
  unfold X_X9_appendCharacter F_X9_appendCharacter F_X10_appendCharacter
  rw [in_eq]
  by_cases c : F_X10_in ch 33 126 = 0
  · rw [if_pos c, if_pos c, if_pos c]
    exact ⟨rfl, fun h0 => absurd h0 (by decide), (h.t 0).t 1⟩
  rw [if_neg c, if_neg c, if_neg c]
  by_cases c2 : n = 40
  · subst c2
    have ea : F_X5_append σ ch = (0, σ) := by unfold F_X5_append; rw [e19, if_pos (by decide)]
    rw [ea, en, if_pos rfl, if_pos rfl, if_pos (by decide)]
    exact ⟨rfl, fun h0 => absurd h0 (by decide), (h.t 0).t 2⟩
  · have hw : ¬ F_X9_isWithin (nI n) 0 39 = 0 := by
      unfold F_X9_isWithin
      rw [if_neg (nI_nlt0 (by omega)), if_neg (by rw [show (39 : Int32) = nI 39 from rfl, nI_ltI (by omega) (by omega)]; omega)]
      decide
    have ea : F_X5_append σ ch = (1, s2 (s2 σ 23 n ch) 19 0 (nI (n + 1))) := by
      unfold F_X5_append; rw [e19, if_neg hw, nI_clamp (by omega), nI_1 n]
    have n1 : ¬ (1 : Int32) = 0 := by decide
    have n40 : ¬ nI n = 40 := fun z => c2 ((nI_eq (by omega) (by omega)).mp (z.trans (show (40 : Int32) = nI 40 from rfl)))
    rw [ea, en, if_neg n1, if_neg n1, if_neg n40, nI_clamp (by omega), nI_1 n]
    refine ⟨rfl, fun _ => rfl, h.1, rfl, t2, ⟨n + 1, by omega, rfl⟩, fun k hk => ?_⟩
    show s2 σ 23 n ch 23 k = s2 (s2 μ 24 1 0) 27 n ch 27 k
    by_cases z : k = n
    · subst z; rw [s2_e, s2_e]
    · rw [s2_n z, s2_n z]; exact t3 k hk
/-- the reference's new row -/
def cmD (μ : Sg) (al : Int32) : Int32 := if al = 0 then -1 else μ 25 8 + al
def cmB (μ : Sg) (m : Nat) (kd : Int32) (b : Nat) (al : Int32) : Sg := s2 (s2 (s2 (s2 (s2 (s2 (s2 μ 25 12 (nI (m + 1))) 25 (30 + m) kd) 25 (110 + m) (nI b)) 25 (190 + m) (μ 25 8)) 25 (270 + m) (cmD μ al)) 25 (350 + m) 0) 25 (430 + m) 0
def cmF (μ : Sg) (m : Nat) (kd : Int32) (b : Nat) (al : Int32) : Sg := s2 (s2 (s2 (cmB μ m kd b al) 25 (510 + b) 1) 25 (350 + m) 1) 25 (430 + m) (μ 25 8)
theorem comes_eq {μ : Sg} {m b : Nat} {kd al : Int32} (hm : m < 80) (em : μ 25 12 = nI m) (hb : b ≤ 571) : F_X10_comes μ kd (nI b) al = (nI m, if μ 25 7 = 1 then (if kd = 1 then cmF μ m kd b al else if μ 25 (510 + b) = 1 then cmF μ m kd b al else cmB μ m kd b al) else cmB μ m kd b al) := by
  unfold F_X10_comes cmF cmB cmD
  rw [em, show ((30 : Int32) + nI m).toNatClampNeg = 30 + m from tnA (c := 30) (by omega), show ((110 : Int32) + nI m).toNatClampNeg = 110 + m from tnA (c := 110) (by omega), show ((190 : Int32) + nI m).toNatClampNeg = 190 + m from tnA (c := 190) (by omega), show ((270 : Int32) + nI m).toNatClampNeg = 270 + m from tnA (c := 270) (by omega), show ((350 : Int32) + nI m).toNatClampNeg = 350 + m from tnA (c := 350) (by omega), show ((430 : Int32) + nI m).toNatClampNeg = 430 + m from tnA (c := 430) (by omega), show ((510 : Int32) + nI b).toNatClampNeg = 510 + b from tnA (c := 510) (by omega), nI_1 m]
  simp (disch := omega) only [s2_n]
  by_cases c0 : al = 0
  · rw [if_pos c0, if_pos c0]
    by_cases c1 : μ 25 7 = 1
    · rw [if_pos c1, if_pos c1]
      by_cases c2 : kd = 1
      · rw [if_pos c2, if_pos c2]
      · rw [if_neg c2, if_neg c2]
        by_cases c3 : μ 25 (510 + b) = 1
        · rw [if_pos c3, if_pos c3]
        · rw [if_neg c3, if_neg c3]
    · rw [if_neg c1, if_neg c1]
  · rw [if_neg c0, if_neg c0]
    by_cases c1 : μ 25 7 = 1
    · rw [if_pos c1, if_pos c1]
      by_cases c2 : kd = 1
      · rw [if_pos c2, if_pos c2]
      · rw [if_neg c2, if_neg c2]
        by_cases c3 : μ 25 (510 + b) = 1
        · rw [if_pos c3, if_pos c3]
        · rw [if_neg c3, if_neg c3]
    · rw [if_neg c1, if_neg c1]
theorem accept_eq {σ : Sg} {m : Nat} {ki bk al : Int32} : F_X8_accept σ m ki bk al = (nI m, if F_X0_finishesAtOnce σ ki bk = 0 then F_X6_add σ m bk (σ 2 4) (if al = 0 then -1 else σ 2 4 + al) else if ki = 1 then F_X0_makeDirty (F_X6_finishPending (F_X6_add σ m bk (σ 2 4) (if al = 0 then -1 else σ 2 4 + al)) m (σ 2 4)) bk else F_X6_finishPending (F_X6_add σ m bk (σ 2 4) (if al = 0 then -1 else σ 2 4 + al)) m (σ 2 4)) := by
  have e : ∀ de, F_X0_finishesAtOnce (F_X6_add σ m bk (σ 2 4) de) ki bk = F_X0_finishesAtOnce σ ki bk := fun de => by
    have h1 : ∀ n x, L_X0_holds_2 (F_X6_add σ m bk (σ 2 4) de) bk n x = L_X0_holds_2 σ bk n x := by
      intro n
      induction n with
      | zero => intro x; rfl
      | succ n ih => intro x; rw [L_X0_holds_2, L_X0_holds_2, ih]; rfl
    unfold F_X0_finishesAtOnce F_X0_holds
    rw [h1]; rfl
  unfold F_X8_accept
  by_cases c0 : al = 0
  · rw [if_pos c0, if_pos c0, e]
    split
    · rfl
    · split <;> rfl
  · rw [if_neg c0, if_neg c0, e]
    split
    · rfl
    · split <;> rfl
