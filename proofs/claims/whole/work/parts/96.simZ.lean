theorem least_none {μ : Sg} {pol : Int32} {m : Nat} (hm : m ≤ 80) (em : μ 25 12 = nI m) (h0 : pcnt (μ 25) m = 0) : F_X10_least μ pol = -1 := by
  have np : ∀ j, j < m → ¬ μ 25 (350 + j) = 0 := fun j hj q => by have := pcnt_pos (g := μ 25) hj q; omega
  have key : ∀ n j : Nat, j + n = 81 → j ≤ m → L_X10_least_4 μ pol n (-1) (nI j) = -1 := by
    intro n
    induction n with
    | zero => intro j h1 h2; omega
    | succ n ih =>
      intro j h1 h2
      rw [L_X10_least_4, em]
      by_cases c : nI m ≤ nI j
      · rw [if_pos c]
      · have hj := gt_of_nle (x := nI m) (y := nI j) rfl rfl (by omega) (by omega) c
        rw [if_neg c, if_pos ((isPending_eq (μ := μ) (j := j) (by omega)).mpr (np j hj)), nI_1 j]
        exact ih (j + 1) (by omega) (by omega)
  exact key 81 0 (by omega) (by omega)
theorem gatL_none {sel : Nat → Bool} {mo : Nat} {m : Nat} (h : ∀ j, j < m → sel j = false) : ∀ (n j : Nat) (l : List Nat), j + n ≤ m → gatL sel mo n j l = l := by
  intro n
  induction n with
  | zero => intro j l _; rfl
  | succ n ih =>
    intro j l hj
    rw [gatL]
    split
    · rfl
    · rw [if_neg (by rw [h j (by omega)]; decide)]
      exact ih (j + 1) l (by omega)
theorem chosen_none {σ μ : Sg} (h : SIM σ μ) (ha : AR (μ 25)) {m : Nat} (hm : m ≤ 80) (em : μ 25 12 = nI m) (h0 : pcnt (μ 25) m = 0) : (F_X10_chosen μ).1 = -1 := by
  have np : ∀ j, j < m → ¬ μ 25 (350 + j) = 0 := fun j hj q => by have := pcnt_pos (g := μ 25) hj q; omega
  unfold F_X10_chosen
  split
  · obtain ⟨-, k2, -, -⟩ := search_eq h ha hm em (on := 1) (he := 1)
    have fr := searches_FRU (wd := 1) (mi := 1) (mo := 6) μ
    have g25 : F_X10_searches μ 1 1 6 25 = μ 25 := fr.1 25 (by omega) (by omega) (by omega) (by omega) (by omega)
    have e : gatL (selR (μ 25) 1) 6 m 0 [] = [] := gatL_none (m := m) (fun j hj => by unfold selR; simp [np j hj]) m 0 [] (by omega)
    rw [k2, e, if_pos (show nI ([] : List Nat).length ≤ 0 by decide)]
    exact least_none (μ := F_X10_searches μ 1 1 6) hm (by rw [g25]; exact em) (by rw [g25]; exact h0)
  · exact least_none hm em h0
theorem S_next {σ μ : Sg} (h : SIM σ μ) (ha : AR (μ 25)) : hcd [5] (X_X9_next σ) = (F_X10_next μ).2 24 1 ∧ (X_X9_next σ = 0 → (F_X9_next σ).1 = (F_X10_next μ).1) ∧ SIM (F_X9_next σ).2 (F_X10_next μ).2 ∧ AR ((F_X10_next μ).2 25) := by
  obtain ⟨m, hm, em⟩ := h.1.2.1.2.1
  have ep : F_X10_pending (s2 μ 24 1 0) = nI (pcnt (μ 25) m) := pending_eq (μ := s2 μ 24 1 0) hm em
  have hpl := pcnt_le (μ 25) m
  obtain ⟨c1, c2, c3⟩ := choose_eq (h.t 0) ha
  have cS : SIM (F_X7_choose σ).2 (s2 (s2 μ 24 1 0) 24 1 1) := (h.srch (fun c hc => choose_fr hc) (FRU.rf μ) |>.t 0).t 1
  unfold X_X9_next F_X9_next F_X10_next
  rw [ep]
  by_cases z : pcnt (μ 25) m = 0
  · have hn := chosen_none (h.t 0) ha hm em z
    have e1 : (F_X7_choose σ).1 = -1 := c1.trans hn
    simp only []
    rw [e1, z, if_pos rfl, if_pos rfl, if_pos (show nI 0 = (0 : Int32) from rfl)]
    exact ⟨rfl, fun h0 => absurd h0 (by decide), cS, ha⟩
  · have hp0 : ¬ nI (pcnt (μ 25) m) = 0 := nI_n0 (by omega) (by omega)
    obtain ⟨m', j, hm', em', hj, ej, -⟩ := chosen_pnd (μ := s2 μ 24 1 0) h.1.2.1 (by rw [ep]; exact hp0)
    have e1 : (F_X7_choose σ).1 = nI j := c1.trans ej
    simp only []
    rw [e1, if_neg (nI_nm1 (by omega)), if_neg (nI_nm1 (by omega)), if_neg hp0]
    refine ⟨?_, fun _ => ej.symm, c2, A_u (μ := s2 μ 24 1 0) ha c3⟩
    show (0 : Int32) = (F_X10_chosen (s2 μ 24 1 0)).2 24 1
    rw [c3.2 1 (by omega) (by omega) (by omega)]
    rfl
theorem S_serve {σ μ : Sg} (h : SIM σ μ) (ha : AR (μ 25)) : hcd [5, 2] (X_X9_serve σ) = (F_X10_serve μ).2 24 1 ∧ (X_X9_serve σ = 0 → (F_X9_serve σ).1 = (F_X10_serve μ).1) ∧ SIM (F_X9_serve σ).2 (F_X10_serve μ).2 ∧ AR ((F_X10_serve μ).2 25) := by
  obtain ⟨m, hm, em⟩ := h.1.2.1.2.1
  have ep : F_X10_pending (s2 μ 24 1 0) = nI (pcnt (μ 25) m) := pending_eq (μ := s2 μ 24 1 0) hm em
  have e51 : σ 5 1 = nI (pcnt (μ 25) m) := (h.1.2.2.2.1.2 m hm em).1
  have hpl := pcnt_le (μ 25) m
  unfold X_X9_serve F_X9_serve F_X10_serve
  rw [ep, e51]
  by_cases z : pcnt (μ 25) m = 0
  · rw [z, if_pos (show nI 0 = (0 : Int32) from rfl), if_pos (show nI 0 = (0 : Int32) from rfl), if_pos (show nI 0 = (0 : Int32) from rfl)]
    exact ⟨rfl, fun h0 => absurd h0 (by decide), (h.t 0).t 1, ha⟩
  · have hp0 : ¬ nI (pcnt (μ 25) m) = 0 := nI_n0 (by omega) (by omega)
    rw [if_neg hp0, if_neg hp0, if_neg hp0]
    rcases time_eq h with ⟨c1, c2, k, hk, ek⟩ | ⟨c1, c2⟩
    · rw [c1, if_pos rfl, if_pos rfl, if_pos c2]
      obtain ⟨s1, s2', s3, s4, -, -, -⟩ := serve_step (h.t 0) ha ⟨k, by omega, ek⟩ hm em (by show 0 < pcnt (μ 25) m; omega)
      exact ⟨s4.symm, fun _ => s1, s2', s3⟩
    · rw [c1, if_neg (show ¬ (2 : Nat) = 0 by decide), if_neg (show ¬ (2 : Nat) = 0 by decide), if_neg c2]
      exact ⟨rfl, fun h0 => absurd h0 (by decide), (h.t 0).t 2, ha⟩
