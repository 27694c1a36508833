theorem nI_eqL {a : Nat} {x : Int32} {n : Nat} (e : x = nI n) (ha : a < 2 ^ 31) (hn : n < 2 ^ 31) : (nI a = x) ↔ a = n := by rw [e, nI_eq ha hn]
/-- room, and refusal -/
theorem room_eq {σ μ : Sg} {b : Nat} {ki al : Int32} (h : SIM σ μ) (ha : AR (μ 25)) (hb : b ≤ 571) (hk : ki = 0 ∨ ki = 1) (hal : ∃ A : Nat, A ≤ 9999 ∧ al = nI A) : F_X10_refusal μ ki (nI b) al = if F_X8_hasRoomFor σ ki (nI b) = 0 then 3 else 0 := by
  obtain ⟨m, hm, em⟩ := h.1.2.1.2.1
  obtain ⟨q1, q2⟩ := h.1.2.2.2.1
  obtain ⟨q3, -⟩ := q2 m hm em
  have hp := (ha.2.2.2 m hm em).1
  have ed := dirty_eq (μ := μ) h.1.2.2.2.2.2
  have hh := holds_eq (b := b) h.1.2.2.2.2.2 hb
  obtain ⟨c1, c2, c, c3, c4, -⟩ := h.1.2.2.2.2.2
  obtain ⟨A, hA, rfl⟩ := hal
  have i1 : ¬ F_X10_in ki 0 1 = 0 := by rcases hk with rfl | rfl <;> decide
  have i2 : ¬ F_X10_in (nI A) 0 9999 = 0 := by
    unfold F_X10_in
    rw [if_neg (nI_nlt0 (by omega)), if_neg (by rw [show (9999 : Int32) = nI 9999 from rfl, nI_ltI (by omega) (by omega)]; omega)]
    decide
  have i3 : ¬ F_X10_isBlock (nI b) = 0 := by
    unfold F_X10_isBlock F_X10_in
    rw [if_neg (nI_nlt0 (by omega)), if_neg (by rw [show (571 : Int32) = nI 571 from rfl, nI_ltI (by omega) (by omega)]; omega)]
    decide
  have e1 : (μ 25 12 = 80) ↔ m = 80 := by rw [em]; exact nI_eqL (n := 80) rfl (by omega) (by omega)
  have e2 : (F_X10_pending μ = 12) ↔ pcnt (μ 25) m = 12 := by rw [pending_eq hm em]; exact nI_eqL (n := 12) rfl (by omega) (by omega)
  have e3 : (F_X10_dirty μ = 8) ↔ c = 8 := by rw [ed, c4]; exact nI_eqL (n := 8) rfl (by omega) (by omega)
  have f1 : ((80 : Int32) ≤ σ 5 0) ↔ m = 80 := by rw [q1, em, show (80 : Int32) = nI 80 from rfl, nI_leI (by omega) (by omega)]; omega
  have f2 : (σ 5 1 < (12 : Int32)) ↔ ¬ pcnt (μ 25) m = 12 := by rw [q3, show (12 : Int32) = nI 12 from rfl, nI_ltI (by omega) (by omega)]; omega
  have f3 : ((8 : Int32) ≤ σ 8 1) ↔ c = 8 := by rw [c4, show (8 : Int32) = nI 8 from rfl, nI_leI (by omega) (by omega)]; omega
  unfold F_X10_refusal F_X8_hasRoomFor
  rw [if_neg i1, if_neg i2, if_neg i3, show ((510 : Int32) + nI b).toNatClampNeg = 510 + b from tnA (c := 510) (by omega), c1]
  simp only [e1, e2, e3, f1, f2, f3]
  have n10 : ¬ (1 : Int32) = 0 := by decide
  have n01 : ¬ (0 : Int32) = 1 := by decide
  by_cases p1 : m = 80 <;> by_cases p2 : pcnt (μ 25) m = 12 <;> by_cases p3 : c = 8 <;> rcases c2 with p4 | p4 <;> rcases hk with p5 | p5 <;> rcases hh with ⟨p6, p7⟩ | ⟨p6, p7⟩ <;> simp [p1, p2, p3, p4, p5, p6, p7, n10, n01]
theorem room_m {σ μ : Sg} {bk ki : Int32} {m : Nat} (h : SIM σ μ) (hm : m ≤ 80) (em : μ 25 12 = nI m) (hr : ¬ F_X8_hasRoomFor σ ki bk = 0) : m < 80 ∧ pcnt (μ 25) m < 12 ∧ (¬ σ 8 0 = 0 → ki = 1 → ¬ F_X0_holds σ bk = 0 ∨ ¬ (8 : Int32) ≤ σ 8 1) := by
  obtain ⟨q1, q2⟩ := h.1.2.2.2.1
  obtain ⟨q3, -⟩ := q2 m hm em
  have hpl := pcnt_le (μ 25) m
  unfold F_X8_hasRoomFor at hr
  by_cases c1 : (80 : Int32) ≤ σ 5 0
  · rw [if_pos c1] at hr; exact absurd rfl hr
  rw [if_neg c1] at hr
  rw [q1, em] at c1
  by_cases c2 : σ 5 1 < (12 : Int32)
  · rw [if_pos c2] at hr
    rw [q3] at c2
    refine ⟨gt_of_nle (x := 80) (a := 80) rfl rfl (by omega) (by omega) c1, lt_of_lt (y := 12) (b := 12) rfl rfl (by omega) (by omega) c2, fun p1 p2 => ?_⟩
    rw [if_neg p1, if_pos p2] at hr
    by_cases c3 : F_X0_holds σ bk = 0
    · rw [if_pos c3] at hr
      refine Or.inr (fun z => ?_)
      rw [if_pos z] at hr; exact absurd rfl hr
    · exact Or.inl c3
  · rw [if_neg c2] at hr; exact absurd rfl hr
theorem AR.come {g g' : Nat → Int32} {m : Nat} (h : AR g) (hm : m < 80) (em : g 12 = nI m) (e4 : g' 4 = g 4) (e5 : g' 5 = g 5) (e6 : g' 6 = g 6) (e8 : g' 8 = g 8) (e12 : g' 12 = nI (m + 1)) (hp : pcnt g' (m + 1) ≤ 12) (hr : ∀ i, i < m → g' (190 + i) = g (190 + i) ∧ g' (270 + i) = g (270 + i)) (ea : g' (190 + m) = g 8) (hc : ∃ k : Nat, k ≤ 200000 ∧ g 8 = nI k) (hd : g' (270 + m) = -1 ∨ ∃ d : Nat, d ≤ 300000 ∧ g' (270 + m) = nI d) : AR g' := by
  obtain ⟨a1, a2, a3, a4⟩ := h
  refine ⟨by rw [e5]; exact a1, by rw [e6]; exact a2, by rw [e4]; exact a3, fun n hn en => ?_⟩
  have e : n = m + 1 := (nI_eq (by omega) (by omega)).mp (en.symm.trans e12)
  subst e
  refine ⟨hp, fun i hi => ?_⟩
  by_cases z : i = m
  · subst z
    obtain ⟨k, hk, ek⟩ := hc
    exact ⟨⟨k, by omega, ea.trans ek, by rw [e8, ek, nI_toInt (by omega)]; omega⟩, hd⟩
  · rw [(hr i (by omega)).1, (hr i (by omega)).2, e8]
    exact (a4 m (by omega) em).2 i (by omega)
theorem accept_sim {σ μ : Sg} {b m : Nat} {ki al : Int32} (h : SIM σ μ) (ha : AR (μ 25)) (hb : b ≤ 571) (hk : ki = 0 ∨ ki = 1) (hal : ∃ A : Nat, A ≤ 9999 ∧ al = nI A) (hm : m ≤ 80) (em : μ 25 12 = nI m) (hr : ¬ F_X8_hasRoomFor σ ki (nI b) = 0) :
    (F_X8_accept σ m ki (nI b) al).1 = (F_X10_comes μ ki (nI b) al).1 ∧ SIM (F_X8_accept σ m ki (nI b) al).2 (F_X10_comes μ ki (nI b) al).2 ∧ AR ((F_X10_comes μ ki (nI b) al).2 25) ∧ (F_X10_comes μ ki (nI b) al).2 25 12 = nI (m + 1) ∧ (∀ c, c ≠ 25 → (F_X10_comes μ ki (nI b) al).2 c = μ c) ∧ (∀ c, 10 ≤ c → c < 40 → (F_X8_accept σ m ki (nI b) al).2 c = σ c) := by
  obtain ⟨hm8, hp12, hr8⟩ := room_m h hm em hr
  rw [comes_eq hm8 em hb, accept_eq]
  have hcl : ∃ k : Nat, k ≤ 200000 ∧ μ 25 8 = nI k := h.1.2.2.1.2.2.2.2
  have hdl : cmD μ al = -1 ∨ ∃ d : Nat, d ≤ 300000 ∧ cmD μ al = nI d := by
    obtain ⟨A, hA, eA⟩ := hal
    obtain ⟨k, hk, ek⟩ := hcl
    unfold cmD
    split
    · exact Or.inl rfl
    · exact Or.inr ⟨k + A, by omega, by rw [eA, ek, nI_add]⟩
  have hh := holds_eq (b := b) h.1.2.2.2.2.2 hb
  have e80 : σ 8 0 = μ 25 7 := h.1.2.2.2.2.2.1
  have oB : ∀ c, c ≠ 25 → cmB μ m ki b al c = μ c := fun c hc => by unfold cmB; simp only [s2_f hc]
  have oF : ∀ c, c ≠ 25 → cmF μ m ki b al c = μ c := fun c hc => by unfold cmF cmB; simp only [s2_f hc]
  have aB : AR (cmB μ m ki b al 25) := ha.come hm8 em (by unfold cmB; simp (disch := omega) only [s2_n]) (by unfold cmB; simp (disch := omega) only [s2_n]) (by unfold cmB; simp (disch := omega) only [s2_n]) (by unfold cmB; simp (disch := omega) only [s2_n]) (by unfold cmB; simp (disch := omega) only [s2_n, s2_e])
    (by
      show pcnt (cmB μ m ki b al 25) m + _ ≤ 12
      rw [pcnt_ext (g := μ 25) (fun i hi => by unfold cmB; simp (disch := omega) only [s2_n])]
      split <;> omega)
    (fun i hi => ⟨by unfold cmB; simp (disch := omega) only [s2_n], by unfold cmB; simp (disch := omega) only [s2_n]⟩) (by unfold cmB; simp (disch := omega) only [s2_n, s2_e]) hcl (by
      rw [show cmB μ m ki b al 25 (270 + m) = cmD μ al by unfold cmB; simp (disch := omega) only [s2_n, s2_e]]; exact hdl)
  have aF : AR (cmF μ m ki b al 25) := ha.come hm8 em (by unfold cmF cmB; simp (disch := omega) only [s2_n]) (by unfold cmF cmB; simp (disch := omega) only [s2_n]) (by unfold cmF cmB; simp (disch := omega) only [s2_n]) (by unfold cmF cmB; simp (disch := omega) only [s2_n]) (by unfold cmF cmB; simp (disch := omega) only [s2_n, s2_e])
    (by
      show pcnt (cmF μ m ki b al 25) m + _ ≤ 12
      rw [pcnt_ext (g := μ 25) (fun i hi => by unfold cmF cmB; simp (disch := omega) only [s2_n])]
      split <;> omega)
    (fun i hi => ⟨by unfold cmF cmB; simp (disch := omega) only [s2_n], by unfold cmF cmB; simp (disch := omega) only [s2_n]⟩) (by unfold cmF cmB; simp (disch := omega) only [s2_n, s2_e]) hcl (by
      rw [show cmF μ m ki b al 25 (270 + m) = cmD μ al by unfold cmF cmB; simp (disch := omega) only [s2_n, s2_e]]; exact hdl)
  have mB : cmB μ m ki b al 25 12 = nI (m + 1) := by unfold cmB; simp (disch := omega) only [s2_n, s2_e]
  have mF : cmF μ m ki b al 25 12 = nI (m + 1) := by unfold cmF cmB; simp (disch := omega) only [s2_n, s2_e]
  have sA : ∀ c, 10 ≤ c → c < 40 → F_X6_add σ m (nI b) (σ 2 4) (if al = 0 then -1 else σ 2 4 + al) c = σ c := fun c h1 h2 => by
    unfold F_X6_add F_X4_begin
    simp (disch := omega) only [s2_f]
  have sP : ∀ c, 10 ≤ c → c < 40 → F_X6_finishPending (F_X6_add σ m (nI b) (σ 2 4) (if al = 0 then -1 else σ 2 4 + al)) m (σ 2 4) c = σ c := fun c h1 h2 => by
    unfold F_X6_finishPending
    simp (disch := omega) only [s2_f, sA c h1 h2]
  have fF7 : cmF μ m ki b al 25 7 = μ 25 7 := by unfold cmF cmB; simp (disch := omega) only [s2_n]
  have fFi : ∀ i, 510 ≤ i → i < 1100 → i ≠ 510 + b → cmF μ m ki b al 25 i = μ 25 i := fun i h1 h2 h3 => by unfold cmF cmB; simp (disch := omega) only [s2_n]
  have fF1 : cmF μ m ki b al 25 (510 + b) = 1 := by unfold cmF cmB; simp (disch := omega) only [s2_n, s2_e]
  have n10 : ¬ (1 : Int32) = 0 := by decide
  have n01 : ¬ (0 : Int32) = 1 := by decide
  have hc := h.1.2.2.2.2.2
  have hcP : RCa (F_X6_finishPending (F_X6_add σ m (nI b) (σ 2 4) (if al = 0 then -1 else σ 2 4 + al)) m (σ 2 4)) (μ 25) := RCa.same hc rfl rfl rfl (fun i _ _ => rfl)
  unfold F_X0_finishesAtOnce
  rw [e80]
  rcases hc.2.1 with p4 | p4
  · rw [p4, if_pos rfl, if_pos rfl, if_neg n01]
    exact ⟨rfl, add_sim h hm8 em hb, aB, mB, oB, sA⟩
  · rw [p4, if_neg n10, if_pos rfl]
    rcases hk with rfl | rfl
    · rw [if_neg n01, if_neg n01]
      rcases hh with ⟨p6, p7⟩ | ⟨p6, p7⟩
      · rw [p6, p7, if_neg n10, if_neg n10, if_neg n01, if_pos rfl]
        exact ⟨rfl, fin_sim h hm8 em hb (fun c _ _ => rfl) (hcP.held p7 fF7 fFi fF1), aF, mF, oF, sP⟩
      · rw [p6, p7, if_pos rfl, if_pos rfl, if_neg n01]
        exact ⟨rfl, add_sim h hm8 em hb, aB, mB, oB, sA⟩
    · rw [if_pos rfl, if_pos rfl, if_neg n10, if_pos rfl]
      refine ⟨rfl, fin_sim h hm8 em hb (fun c h8 h9 => mkD_o h8 h9) (hcP.dirt hb ?_ fF7 fFi fF1), aF, mF, oF, fun c h1 h2 => (mkD_o (by omega) (by omega)).trans (sP c h1 h2)⟩
      rcases hr8 (by rw [e80, p4]; exact n10) rfl with q | q
      · rcases hh with ⟨p6, p7⟩ | ⟨p6, p7⟩
        · exact Or.inl p7
        · exact absurd p6 q
      · exact Or.inr q
theorem S_submit {σ μ : Sg} {ki bk al : Int32} {m : Nat} (h : SIM σ μ) (ha : AR (μ 25)) (hm : m ≤ 80) (em : μ 25 12 = nI m) : hcd [1, 3, 2] (X_X9_submit σ m ki bk al) = (F_X10_submit μ ki bk al).2 24 1 ∧ (X_X9_submit σ m ki bk al = 0 → (F_X9_submit σ m ki bk al).1 = (F_X10_submit μ ki bk al).1) ∧ SIM (F_X9_submit σ m ki bk al).2 (F_X10_submit μ ki bk al).2 ∧ AR ((F_X10_submit μ ki bk al).2 25) := by
  have n1 : ¬ (1 : Int32) ≤ 0 := by decide
  have n2 : ¬ (2 : Int32) ≤ 0 := by decide
  have n3 : ¬ (3 : Int32) ≤ 0 := by decide
  unfold X_X9_submit F_X9_submit F_X10_submit
  rw [in_eq, in_eq]
  by_cases c1 : F_X10_in ki 0 1 = 0
  · have e : F_X10_refusal (s2 μ 24 1 0) ki bk al = 1 := by unfold F_X10_refusal; rw [if_pos c1]
    rw [e, if_pos c1, if_pos c1, if_neg n1]
    exact ⟨rfl, fun h0 => absurd h0 (by decide), (h.t 0).t 1, ha⟩
  rw [if_neg c1, if_neg c1]
  by_cases c2 : F_X10_in al 0 9999 = 0
  · have e : F_X10_refusal (s2 μ 24 1 0) ki bk al = 1 := by unfold F_X10_refusal; rw [if_neg c1, if_pos c2]
    rw [e, if_pos c2, if_pos c2, if_neg n1]
    exact ⟨rfl, fun h0 => absurd h0 (by decide), (h.t 0).t 1, ha⟩
  rw [if_neg c2, if_neg c2]
  unfold X_X9_requireBlock
  rw [show F_X9_isBlock bk = F_X10_isBlock bk from rfl]
  by_cases c3 : F_X10_isBlock bk = 0
  · have e : F_X10_refusal (s2 μ 24 1 0) ki bk al = 2 := by unfold F_X10_refusal; rw [if_neg c1, if_neg c2, if_pos c3]
    rw [e, if_pos c3, if_neg n2, if_neg (by decide), if_neg (by decide)]
    exact ⟨rfl, fun h0 => absurd h0 (by decide), (h.t 0).t 2, ha⟩
  rw [if_neg c3, if_pos rfl, if_pos rfl]
  obtain ⟨b, hb, rfl⟩ := in_bd (B := 571) (by decide) rfl c3
  obtain ⟨K, hK, eK⟩ := in_bd (B := 1) (by decide) rfl c1
  have hk : ki = 0 ∨ ki = 1 := by
    rcases (show K = 0 ∨ K = 1 by omega) with z | z
    · exact Or.inl (by rw [eK, z]; rfl)
    · exact Or.inr (by rw [eK, z]; rfl)
  have hal := in_bd (B := 9999) (by decide) rfl c2
  have e := room_eq (μ := s2 μ 24 1 0) (h.t 0) ha hb hk hal
  by_cases c4 : F_X8_hasRoomFor σ ki (nI b) = 0
  · rw [if_pos c4] at e
    rw [e, if_pos c4, if_pos c4, if_neg n3]
    exact ⟨rfl, fun h0 => absurd h0 (by decide), (h.t 0).t 3, ha⟩
  · rw [if_neg c4] at e
    rw [e, if_neg c4, if_neg c4, if_pos (show (0 : Int32) ≤ 0 by decide)]
    obtain ⟨a1, a2, a3, a4, a5, a6⟩ := accept_sim (μ := s2 μ 24 1 0) (h.t 0) ha hb hk hal hm em c4
    refine ⟨?_, fun _ => a1, a2, a3⟩
    show (0 : Int32) = (F_X10_comes (s2 μ 24 1 0) ki (nI b) al).2 24 1
    rw [a5 24 (by decide)]
    rfl
