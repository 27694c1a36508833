/-! what is chosen -/
theorem reqAt0 (σ : Sg) : F_X3_requestAt σ 0 = σ 18 0 := by
  unfold F_X3_requestAt
  rw [if_neg (show ¬ F_X9_isWithin 0 0 5 = 0 by decide)]
  rfl
theorem choose_eq {σ μ : Sg} (h : SIM σ μ) (ha : AR (μ 25)) : (F_X7_choose σ).1 = (F_X10_chosen μ).1 ∧ SIM (F_X7_choose σ).2 (F_X10_chosen μ).2 ∧ FRU μ (F_X10_chosen μ).2 := by
  obtain ⟨m, hm, em⟩ := h.1.2.1.2.1
  obtain ⟨p, hp, ep⟩ := ha.2.2.1
  have e7 : σ 7 0 = nI p := h.1.2.2.2.2.1.1.trans ep
  unfold F_X7_choose F_X10_chosen
  rw [e7, ep]
  by_cases c : p = 6
  · subst c
    rw [if_pos (show nI 6 = (6 : Int32) from rfl), if_pos (show (6 : Int32) ≤ nI 6 by decide)]
    obtain ⟨k1, k2, k3, k4⟩ := search_eq h ha hm em (on := 1) (he := 1)
    have fr := searches_FRU (wd := 1) (mi := 1) (mo := 6) μ
    have hS := h.srch (srch_fr (σ := σ) (on := 1) (he := 1)) fr
    have g25 : F_X10_searches μ 1 1 6 25 = μ 25 := fr.1 25 (by omega) (by omega) (by omega) (by omega) (by omega)
    have le := least_eq (σ0 := σ) hS (by rw [g25]; exact ha) (pol := 4) (by rw [g25, ep, if_pos (show nI 6 = (6 : Int32) from rfl)])
    dsimp only
    rw [k1, k2]
    by_cases c2 : nI (gatL (selR (μ 25) 1) 6 m 0 []).length ≤ 0
    · rw [if_pos c2, if_pos c2, le]
      exact ⟨rfl, hS, fr⟩
    · rw [if_neg c2, if_neg c2]
      have hpos := gt_of_nle (x := nI (gatL (selR (μ 25) 1) 6 m 0 []).length) (y := 0) (b := 0) rfl rfl (by omega) (by omega) c2
      unfold F_X3_hasFound
      rcases k4 with ⟨q1, q2⟩ | ⟨T, hT, q1, q2, q3⟩
      · rw [if_pos q1, if_pos q2, if_pos rfl, le]
        exact ⟨rfl, hS, fr⟩
      · rw [if_neg (show ¬ F_X10_searches μ 1 1 6 24 8 < 0 by rw [q1]; exact nI_nlt0 (by omega)), if_neg (show ¬ F_X3_run (F_X3_gather σ 1 1) 10 1 = 1000000000 by rw [q2, show (1000000000 : Int32) = nI 1000000000 from rfl, nI_eq (by omega) (by omega)]; omega), if_neg (show ¬ (1 : Int32) = 0 by decide)]
        exact ⟨(reqAt0 _).trans (q3 0 hpos), hS, fr⟩
  · have n6 : ¬ nI p = (6 : Int32) := by rw [show (6 : Int32) = nI 6 from rfl, nI_eq (by omega) (by omega)]; exact c
    have n6' : ¬ (6 : Int32) ≤ nI p := by rw [show (6 : Int32) = nI 6 from rfl, nI_leI (by omega) (by omega)]; omega
    rw [if_neg n6, if_neg n6', least_eq (σ0 := σ) h ha (pol := nI p) (by rw [ep, if_neg n6])]
    exact ⟨rfl, h, FRU.rf μ⟩
theorem SIM.up {σ μ : Sg} {v : Int32} (h : SIM σ μ) (hv : v = 0 ∨ v = 1) : SIM (s2 σ 7 1 v) (s2 μ 25 10 v) := by
  obtain ⟨⟨hd, hm, hu, hq, hs, hc⟩, ht⟩ := h
  exact SIM.low (σ := σ) (μ := μ) ⟨⟨hd, hm, hu, hq, hs, hc⟩, ht⟩ (fun i hi => s2_n (by omega)) (fun c _ h7 _ => s2_f h7) rfl rfl hd.1 ⟨hd.2.1.1, hd.2.1.2.1⟩ hd.2.2.1 hm.2.2.1 hm.2.2.2.1 hm.2.2.2.2.1 hu ⟨hs.1, rfl, hs.2.2.1, hs.2.2.2.1, hv⟩ ⟨hc.1, hc.2.1⟩ ht
/-- a request is finished -/
theorem SIM.fin {σ μ : Sg} {m i : Nat} (h : SIM σ μ) (hm : m ≤ 80) (em : μ 25 12 = nI m) (hi : i < m) (c : μ 25 (350 + i) = 0) : SIM (F_X6_finishPending σ i (σ 2 4)) (s2 (s2 μ 25 (350 + i) 1) 25 (430 + i) (μ 25 8)) := by
  obtain ⟨q3, q4⟩ := h.1.2.2.2.1.2 m hm em
  have e4 : σ 2 4 = μ 25 8 := h.1.1.2.1.1
  have hp := pcnt_clear (g := μ 25) (g' := s2 (s2 μ 25 (350 + i) 1) 25 (430 + i) (μ 25 8) 25) c (by rw [s2_n (by omega), s2_e]; decide) m hi (fun x hx hx2 => (s2_n (by omega)).trans (s2_n (by omega)))
  unfold F_X6_finishPending
  refine SIM.req (m := m) h hm (((s2_n (by omega)).trans (s2_n (by omega))).trans em) (fun j hj => (s2_n (by omega)).trans (s2_n (by omega))) rfl rfl rfl rfl (h.1.2.2.2.1.1.trans em) ?_ (fun j hj => ?_) (fun r hr => ?_) ?_ h.2
  · rw [s2_e, q3, nI_prd (pcnt_pos hi c)]
    congr 1
    omega
  · obtain ⟨a0, a1, a2, a3, a4⟩ := q4 j hj
    show σ 40 j = _ ∧ σ 41 j = _ ∧ σ 42 j = _ ∧ (_ → s2 σ 43 i (σ 2 4) 43 j = _) ∧ s2 σ 44 i 1 44 j = _
    rw [e4]
    by_cases z : j = i
    · subst z
      simp (disch := omega) only [s2_n, s2_e]
      exact ⟨a0, a1, a2, fun _ => trivial, trivial⟩
    · simp (disch := omega) only [s2_n]
      exact ⟨a0, a1, a2, a3, a4⟩
  · rw [s2_n (show 110 + r ≠ 430 + i by omega), s2_n (show 110 + r ≠ 350 + i by omega)]; exact h.1.2.1.2.2.2.2.2 r hr
  · exact RCa.same h.1.2.2.2.2.2 rfl rfl ((s2_n (by omega)).trans (s2_n (by omega))) (fun j h1 h2 => (s2_n (by omega)).trans (s2_n (by omega)))
theorem serve_step {σ μ : Sg} (h : SIM σ μ) (ha : AR (μ 25)) (hk : ∃ k : Nat, k ≤ 199000 ∧ μ 25 8 = nI k) {m : Nat} (hm : m ≤ 80) (em : μ 25 12 = nI m) (hp : 0 < pcnt (μ 25) m) :
    (F_X8_serveChosen σ).1 = (F_X10_serves μ).1 ∧ SIM (F_X8_serveChosen σ).2 (F_X10_serves μ).2 ∧ AR ((F_X10_serves μ).2 25) ∧ (F_X10_serves μ).2 24 1 = μ 24 1 ∧ (∃ d : Nat, d ≤ 916 ∧ (F_X10_serves μ).2 25 8 = μ 25 8 + nI d) ∧ pcnt ((F_X10_serves μ).2 25) m + 1 = pcnt (μ 25) m ∧ (F_X10_serves μ).2 25 12 = nI m := by
  have hM := h.1.2.1
  have hpl := pcnt_le (μ 25) m
  have hpn : ¬ F_X10_pending μ = 0 := by rw [pending_eq hm em]; exact nI_n0 hp (by omega)
  have hpd := chosen_pnd hM hpn
  obtain ⟨-, s12, spc⟩ := serves_ok hM hpd
  obtain ⟨m', j, hm', em', hj, ej, hpj⟩ := hpd
  have emm : m' = m := (nI_eq (by omega) (by omega)).mp (em'.symm.trans em)
  subst emm
  obtain ⟨c1, c2, c3⟩ := choose_eq h ha
  have g25 := chosen_25 hM
  have t24 := c3.2 1 (by omega) (by omega) (by omega)
  have o4 : (F_X10_chosen μ).2 25 4 = μ 25 4 := by rw [g25]
  suffices key : (F_X8_serveChosen σ).1 = (F_X10_serves μ).1 ∧ SIM (F_X8_serveChosen σ).2 (F_X10_serves μ).2 ∧ (F_X10_serves μ).2 24 1 = μ 24 1 ∧ (∃ d : Nat, d ≤ 916 ∧ (F_X10_serves μ).2 25 8 = μ 25 8 + nI d) ∧ (∀ i, i ≠ 8 → i ≠ 9 → i ≠ 10 → (i < 13 ∨ 16 < i) → i < 350 → (F_X10_serves μ).2 25 i = μ 25 i) ∧ (∀ i, i ≠ j → i < 80 → (F_X10_serves μ).2 25 (350 + i) = μ 25 (350 + i)) ∧ (F_X10_serves μ).2 25 (350 + j) = 1 by
    obtain ⟨y1, y2, y3, ⟨d, hd, y4⟩, y5, y6, y7⟩ := key
    refine ⟨y1, y2, ?_, y3, ⟨d, hd, y4⟩, spc m' hm em, s12.trans em⟩
    refine ha.same (y5 5 (by omega) (by omega) (by omega) (by omega) (by omega)) (y5 6 (by omega) (by omega) (by omega) (by omega) (by omega)) (y5 4 (by omega) (by omega) (by omega) (by omega) (by omega)) (y5 12 (by omega) (by omega) (by omega) (by omega) (by omega)) ?_ (fun i h1 h2 => y5 i (by omega) (by omega) (by omega) (by omega) (by omega)) (fun n hn => ?_)
    · obtain ⟨k, hk9, ek⟩ := hk
      rw [y4, ek, nI_add, nI_toInt (by omega), nI_toInt (by omega)]
      omega
    · by_cases z : j < n
      · have := pcnt_clear (g := μ 25) (g' := (F_X10_serves μ).2 25) hpj (by rw [y7]; decide) n z (fun x hx hx2 => y6 x hx (by omega))
        omega
      · rw [pcnt_ext (g := μ 25) (fun i hi => y6 i (by omega) (by omega))]
        exact Nat.le_refl _
  -- the class
  have t110 : ((110 : Int32) + nI j).toNatClampNeg = 110 + j := tnA (c := 110) (by omega)
  have t350 : ((350 : Int32) + nI j).toNatClampNeg = 350 + j := tnA (c := 350) (by omega)
  have t430 : ((430 : Int32) + nI j).toNatClampNeg = 430 + j := tnA (c := 430) (by omega)
  have e1 : (F_X7_choose σ).1 = nI j := c1.trans ej
  unfold F_X8_serveChosen F_X10_serves
  rw [ej, t110, t350, t430]
  dsimp only
  rw [e1]
  generalize (F_X7_choose σ).2 = σ1 at c2
  generalize (F_X10_chosen μ).2 = μ1 at c2 g25 t24 o4
  have em1 : μ1 25 12 = nI m' := by rw [g25]; exact em
  have hpj1 : μ1 25 (350 + j) = 0 := by rw [g25]; exact hpj
  obtain ⟨a0, -, -, -, a4⟩ := (c2.1.2.2.2.1.2 m' hm em1).2 j hj
  have ef : F_X6_findPending σ1 (nI j) = some j := by
    unfold F_X6_findPending F_X6_find
    rw [if_neg (nI_nlt0 (by omega)), c2.1.2.2.2.1.1, em1, if_neg (by rw [nI_leI (by omega) (by omega)]; omega), if_neg (by rw [show (80 : Int32) = nI 80 from rfl, nI_leI (by omega) (by omega)]; omega), nI_clamp (by omega)]
    show (if σ1 44 j = 0 then some j else none) = _
    rw [a4, if_pos hpj1]
  rw [ef]
  show nI j = _ ∧ SIM (F_X6_finishPending (F_X1_access (F_X7_turnFor σ1 (F_X2_cylinderOfPlace (F_X1_placeOfBlock σ1 (σ1 40 j))) (σ1 2 5)) (F_X1_placeOfBlock σ1 (σ1 40 j))) j ((F_X1_access (F_X7_turnFor σ1 (F_X2_cylinderOfPlace (F_X1_placeOfBlock σ1 (σ1 40 j))) (σ1 2 5)) (F_X1_placeOfBlock σ1 (σ1 40 j))) 2 4)) _ ∧ _
  have hbk : blk (μ1 25 (110 + j)) := c2.1.2.1.2.2.2.2.2 j (by omega)
  have epl : F_X1_placeOfBlock σ1 (σ1 40 j) = F_X10_place μ1 (μ1 25 (110 + j)) := by rw [a0]; exact place_eq c2.1.1 c2.1.2.1.1
  have hplc : plc (F_X10_place μ1 (μ1 25 (110 + j))) := place_plc (μ := μ1) c2.1.2.1.1 hbk
  have ecy : F_X2_cylinderOfPlace (F_X1_placeOfBlock σ1 (σ1 40 j)) = F_X10_cylinder μ1 (nI j) := by
    unfold F_X10_cylinder; rw [t110, epl, geoC hplc]
  have earm : σ1 2 5 = μ1 25 9 := c2.1.1.2.1.2.1
  -- behind the turn
  have fin : ∀ σ2 μ2 : Sg, SIM σ2 μ2 → σ2 2 = σ1 2 → σ2 3 = σ1 3 → μ2 24 1 = μ1 24 1 → (∀ i, i ≠ 10 → μ2 25 i = μ1 25 i) →
      SIM (F_X6_finishPending (F_X1_access σ2 (F_X1_placeOfBlock σ1 (σ1 40 j))) j ((F_X1_access σ2 (F_X1_placeOfBlock σ1 (σ1 40 j))) 2 4)) (s2 (s2 (F_X10_accesses μ2 (F_X10_place μ2 (μ2 25 (110 + j)))) 25 (350 + j) 1) 25 (430 + j) ((s2 (F_X10_accesses μ2 (F_X10_place μ2 (μ2 25 (110 + j)))) 25 (350 + j) 1) 25 8)) ∧
      (s2 (s2 (F_X10_accesses μ2 (F_X10_place μ2 (μ2 25 (110 + j)))) 25 (350 + j) 1) 25 (430 + j) ((s2 (F_X10_accesses μ2 (F_X10_place μ2 (μ2 25 (110 + j)))) 25 (350 + j) 1) 25 8)) 24 1 = μ 24 1 ∧
      (∃ d : Nat, d ≤ 916 ∧ (s2 (s2 (F_X10_accesses μ2 (F_X10_place μ2 (μ2 25 (110 + j)))) 25 (350 + j) 1) 25 (430 + j) ((s2 (F_X10_accesses μ2 (F_X10_place μ2 (μ2 25 (110 + j)))) 25 (350 + j) 1) 25 8)) 25 8 = μ 25 8 + nI d) ∧
      (∀ i, i ≠ 8 → i ≠ 9 → i ≠ 10 → (i < 13 ∨ 16 < i) → i < 350 → (s2 (s2 (F_X10_accesses μ2 (F_X10_place μ2 (μ2 25 (110 + j)))) 25 (350 + j) 1) 25 (430 + j) ((s2 (F_X10_accesses μ2 (F_X10_place μ2 (μ2 25 (110 + j)))) 25 (350 + j) 1) 25 8)) 25 i = μ 25 i) ∧
      (∀ i, i ≠ j → i < 80 → (s2 (s2 (F_X10_accesses μ2 (F_X10_place μ2 (μ2 25 (110 + j)))) 25 (350 + j) 1) 25 (430 + j) ((s2 (F_X10_accesses μ2 (F_X10_place μ2 (μ2 25 (110 + j)))) 25 (350 + j) 1) 25 8)) 25 (350 + i) = μ 25 (350 + i)) ∧
      (s2 (s2 (F_X10_accesses μ2 (F_X10_place μ2 (μ2 25 (110 + j)))) 25 (350 + j) 1) 25 (430 + j) ((s2 (F_X10_accesses μ2 (F_X10_place μ2 (μ2 25 (110 + j)))) 25 (350 + j) 1) 25 8)) 25 (350 + j) = 1 := by
    intro σ2 μ2 hS e2 e3 e24 e25
    have ep2 : F_X1_placeOfBlock σ1 (σ1 40 j) = F_X10_place μ2 (μ2 25 (110 + j)) := by
      rw [← place_eq (σ := σ2) hS.1.1 hS.1.2.1.1, e25 _ (by omega), ← a0]
      exact (place_cong e2 e3 _).symm
    have hpl2 : plc (F_X10_place μ2 (μ2 25 (110 + j))) := by rw [← ep2, epl]; exact hplc
    have e8 : μ2 25 8 = μ 25 8 := by rw [e25 8 (by omega), g25]
    rw [ep2]
    obtain ⟨aS, d, hd, ad⟩ := hS.acc hpl2 (by rw [e8]; exact hk)
    obtain ⟨p, hp5, epp⟩ := hpl2
    rw [epp] at aS ad ⊢
    have afr : ∀ i, i ≠ 8 → i ≠ 9 → (i < 13 ∨ 16 < i) → i < 1100 → F_X10_accesses μ2 (nI p) 25 i = μ2 25 i := fun i h1 h2 h3 h4 => acc_fr hp5 h1 h2 h3 h4
    have r8 : s2 (F_X10_accesses μ2 (nI p)) 25 (350 + j) 1 25 8 = F_X10_accesses μ2 (nI p) 25 8 := s2_n (by omega)
    rw [r8]
    refine ⟨aS.fin hm (by rw [afr 12 (by omega) (by omega) (by omega) (by omega), e25 12 (by omega)]; exact em1) hj (by rw [afr _ (by omega) (by omega) (by omega) (by omega), e25 _ (by omega)]; exact hpj1), ?_, ⟨d, hd, ?_⟩, fun i h8 h9 h10 h13 h350 => ?_, fun i hij h80 => ?_, ?_⟩
    · show F_X10_accesses μ2 (nI p) 24 1 = _
      rw [acc_o (by decide), e24, t24]
    · rw [s2_n (by omega), s2_n (by omega), ad, e8]
    · rw [s2_n (by omega), s2_n (by omega), afr i h8 h9 h13 (by omega), e25 i h10, g25]
    · rw [s2_n (by omega), s2_n (by omega), afr _ (by omega) (by omega) (by omega) (by omega), e25 _ (by omega), g25]
    · rw [s2_n (by omega), s2_e]
  have eah : F_X7_isAhead σ1 (F_X10_cylinder μ1 (nI j)) (μ1 25 9) = F_X10_isAhead μ1 (nI j) := by
    unfold F_X7_isAhead F_X10_isAhead
    rw [c2.1.2.2.2.2.1.2.1]
    rcases c2.1.2.2.2.2.1.2.2.2.2 with q | q
    · rw [q, if_pos rfl, if_neg (show ¬ (0 : Int32) = 1 by decide)]
    · rw [q, if_neg (show ¬ (1 : Int32) = 0 by decide), if_pos rfl]
  rw [ecy, earm]
  unfold F_X7_turnFor
  rw [eah, c2.1.2.2.2.2.1.1]
  by_cases b1 : μ1 25 4 = 2
  · rw [if_pos b1, if_pos b1]
    by_cases b2 : F_X10_isAhead μ1 (nI j) = 0
    · rw [if_pos b2, if_pos b2]
      refine ⟨rfl, ?_⟩
      have e71 : σ1 7 1 = μ1 25 10 := c2.1.2.2.2.2.1.2.1
      rcases c2.1.2.2.2.2.1.2.2.2.2 with q | q
      · rw [e71, q, if_pos rfl, show (1 : Int32) - 0 = 1 by decide]
        exact fin _ _ (c2.up (Or.inr rfl)) rfl rfl rfl (fun i hi => s2_n hi)
      · rw [e71, q, if_neg (show ¬ (1 : Int32) = 0 by decide), show (1 : Int32) - 1 = 0 by decide]
        exact fin _ _ (c2.up (Or.inl rfl)) rfl rfl rfl (fun i hi => s2_n hi)
    · rw [if_neg b2, if_neg b2]
      exact ⟨rfl, fin σ1 μ1 c2 rfl rfl rfl (fun _ _ => rfl)⟩
  · rw [if_neg b1, if_neg b1]
    exact ⟨rfl, fin σ1 μ1 c2 rfl rfl rfl (fun _ _ => rfl)⟩
theorem time_eq {σ μ : Sg} (h : SIM σ μ) : (X_X9_requireTimeToAccess σ = 0 ∧ μ 25 8 ≤ 100000 ∧ ∃ k : Nat, k ≤ 100000 ∧ μ 25 8 = nI k) ∨ (X_X9_requireTimeToAccess σ = 2 ∧ ¬ μ 25 8 ≤ 100000) := by
  have e : σ 2 4 = μ 25 8 := h.1.1.2.1.1
  obtain ⟨k, hk, ek⟩ := h.1.2.2.1.2.2.2.2
  unfold X_X9_requireTimeToAccess
  rw [e]
  by_cases c : μ 25 8 ≤ 100000
  · rw [if_pos c]
    refine Or.inl ⟨rfl, c, k, ?_, ek⟩
    rw [ek] at c
    exact le_of_le (y := 100000) (b := 100000) rfl rfl (by omega) (by omega) c
  · rw [if_neg c]; exact Or.inr ⟨rfl, c⟩
