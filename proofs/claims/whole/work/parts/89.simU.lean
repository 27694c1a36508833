theorem place_form {μ : Sg} {b : Int32} (hm : ∃ m : Nat, m ≤ 4 ∧ μ 25 11 = nI m) : (∃ k : Nat, k < 4 ∧ F_X10_place μ b = nI (572 + k) ∧ μ 25 (20 + k) = b) ∨ F_X10_place μ b = b := by
  obtain ⟨m, hm4, em⟩ := hm
  have key : ∀ n j : Nat, j + n = 5 → j ≤ 4 → (∃ k : Nat, k < 4 ∧ L_X10_place_2 μ b n (nI j) = nI (572 + k) ∧ μ 25 (20 + k) = b) ∨ L_X10_place_2 μ b n (nI j) = b := by
    intro n
    induction n with
    | zero => intro j h1 h2; omega
    | succ n ih =>
      intro j h1 h2
      rw [L_X10_place_2, em]
      by_cases c1 : nI m ≤ nI j
      · rw [if_pos c1]; exact Or.inr rfl
      · have hj := gt_of_nle rfl rfl (by omega) (by omega) c1
        rw [if_neg c1, show ((20 : Int32) + nI j).toNatClampNeg = 20 + j from tnA (c := 20) (by omega)]
        by_cases c2 : μ 25 (20 + j) = b
        · rw [if_pos c2]; exact Or.inl ⟨j, by omega, nI_add 572 j, c2⟩
        · rw [if_neg c2, nI_1 j]; exact ih (j + 1) (by omega) (by omega)
  exact key 5 0 (by omega) (by omega)
theorem place_inj {μ : Sg} {a b : Nat} (hm : ∃ m : Nat, m ≤ 4 ∧ μ 25 11 = nI m) (ha : a ≤ 571) (hb : b ≤ 571) (h : F_X10_place μ (nI a) = F_X10_place μ (nI b)) : a = b := by
  rcases place_form (b := nI a) hm with ⟨k, hk, e1, e2⟩ | e1 <;> rcases place_form (b := nI b) hm with ⟨q, hq, f1, f2⟩ | f1 <;> rw [e1, f1, nI_eq (by omega) (by omega)] at h
  · have : k = q := by omega
    subst this
    exact (nI_eq (by omega) (by omega)).mp (e2.symm.trans f2)
  · omega
  · omega
  · exact h
/-- the class's key -/
def keyC (σ : Sg) (fc : Int32) (i : Nat) : Int32 := if F_X2_cylinderOfPlace (F_X1_placeOfBlock σ (σ 9 i)) < fc then F_X1_placeOfBlock σ (σ 9 i) + 576 else F_X1_placeOfBlock σ (σ 9 i)
theorem lk_step {σ : Sg} {bd fc lk : Int32} {n i : Nat} (hi : i < 2 ^ 31) : L_X0_leastKeyAbove_7 σ bd fc (n + 1) lk (nI i) = if σ 8 1 ≤ nI i then lk else if (8 : Int32) ≤ nI i then lk else if keyC σ fc i ≤ bd then L_X0_leastKeyAbove_7 σ bd fc n lk (nI (i + 1)) else if lk ≤ keyC σ fc i then L_X0_leastKeyAbove_7 σ bd fc n lk (nI (i + 1)) else L_X0_leastKeyAbove_7 σ bd fc n (keyC σ fc i) (nI (i + 1)) := by
  rw [L_X0_leastKeyAbove_7, nI_clamp hi, nI_1 i]
  unfold keyC
  by_cases c : F_X2_cylinderOfPlace (F_X1_placeOfBlock σ (σ 9 i)) < fc
  · rw [if_pos c, if_pos c]
  · rw [if_neg c, if_neg c]
theorem lk_L {σ : Sg} {bd fc : Int32} {c L K : Nat} {kk : Nat → Nat} (hc : c ≤ 8) (ec : σ 8 1 = nI c) (hbd : bd.toInt = (L : Int) - 1) (hk : ∀ i, i < c → keyC σ fc i = nI (kk i) ∧ kk i ≤ 1151) (hK : ∀ i, i < c → L ≤ kk i → K ≤ kk i) (hL : L ≤ K) (hKm : K ≤ 1151) : ∀ (n x lk : Nat), x + n = 9 → x ≤ c → K ≤ lk → lk ≤ 1000000000 → (lk = K ∨ ∃ i, x ≤ i ∧ i < c ∧ kk i = K) → L_X0_leastKeyAbove_7 σ bd fc n (nI lk) (nI x) = nI K := by
  intro n
  induction n with
  | zero => intro x lk h1 h2; omega
  | succ n ih =>
    intro x lk h1 h2 h3 h4 h5
    rw [lk_step (by omega), ec]
    by_cases c1 : nI c ≤ nI x
    · rw [if_pos c1]
      have := le_of_le rfl rfl (by omega) (by omega) c1
      rcases h5 with h5 | ⟨i, h6, h7, h8⟩
      · rw [h5]
      · omega
    · have hx := gt_of_nle rfl rfl (by omega) (by omega) c1
      rw [if_neg c1, if_neg (by rw [show (8 : Int32) = nI 8 from rfl, nI_leI (by omega) (by omega)]; omega)]
      obtain ⟨ek, bk⟩ := hk x hx
      have hKx := hK x hx
      rw [ek]
      by_cases c2 : nI (kk x) ≤ bd
      · rw [if_pos c2]
        rw [i32le, nI_toInt (by omega), hbd] at c2
        refine ih (x + 1) lk (by omega) (by omega) h3 h4 ?_
        rcases h5 with h5 | ⟨i, h6, h7, h8⟩
        · exact Or.inl h5
        · refine Or.inr ⟨i, ?_, h7, h8⟩
          have : i ≠ x := fun z => by subst z; omega
          omega
      · rw [if_neg c2]
        rw [i32le, nI_toInt (by omega), hbd] at c2
        by_cases c3 : nI lk ≤ nI (kk x)
        · rw [if_pos c3]
          have := le_of_le rfl rfl (by omega) (by omega) c3
          refine ih (x + 1) lk (by omega) (by omega) h3 h4 ?_
          rcases h5 with h5 | ⟨i, h6, h7, h8⟩
          · exact Or.inl h5
          · by_cases z : i = x
            · subst z; exact Or.inl (by omega)
            · exact Or.inr ⟨i, by omega, h7, h8⟩
        · rw [if_neg c3]
          have := gt_of_nle rfl rfl (by omega) (by omega) c3
          refine ih (x + 1) (kk x) (by omega) (by omega) (hKx (by omega)) (by omega) ?_
          rcases h5 with h5 | ⟨i, h6, h7, h8⟩
          · have := hKx (by omega)
            omega
          · by_cases z : i = x
            · subst z; exact Or.inl h8
            · exact Or.inr ⟨i, by omega, h7, h8⟩
/-- the reference's next dirty block -/
theorem in_pl {μ : Sg} {p lo hi : Nat} (hp : p ≤ 575) (hl : lo ≤ 576) (hh : hi ≤ 576) : F_X10_in (nI p) (nI lo) (nI hi - 1) = if lo ≤ p ∧ p < hi then 1 else 0 := by
  have hs : (nI hi - 1).toInt = (hi : Int) - 1 := by rw [Int32.toInt_sub, nI_toInt (by omega), show (1 : Int32).toInt = 1 by decide, bm32 (by omega) (by omega)]
  unfold F_X10_in
  by_cases c1 : lo ≤ p
  · rw [if_neg (show ¬ nI p < nI lo by rw [nI_ltI (by omega) (by omega)]; omega)]
    by_cases c2 : p < hi
    · rw [if_neg (show ¬ nI hi - 1 < nI p by rw [i32lt, hs, nI_toInt (by omega)]; omega), if_pos ⟨c1, c2⟩]
    · rw [if_pos (show nI hi - 1 < nI p by rw [i32lt, hs, nI_toInt (by omega)]; omega), if_neg (show ¬ (lo ≤ p ∧ p < hi) from fun z => c2 z.2)]
  · rw [if_pos (show nI p < nI lo by rw [nI_ltI (by omega) (by omega)]; omega), if_neg (show ¬ (lo ≤ p ∧ p < hi) from fun z => c1 z.1)]
theorem df_step {μ : Sg} {pN : Nat → Nat} (hp : ∀ b, b ≤ 571 → F_X10_place μ (nI b) = nI (pN b) ∧ pN b ≤ 575) {lo hi n x : Nat} {bs : Int32} (hl : lo ≤ 576) (hh : hi ≤ 576) (hx : x ≤ 571) : L_X10_dirtyFrom_5 μ (nI lo) (nI hi) (n + 1) bs (nI x) = if μ 25 (510 + x) = 1 ∧ lo ≤ pN x ∧ pN x < hi then (if bs < 0 then L_X10_dirtyFrom_5 μ (nI lo) (nI hi) n (nI x) (nI (x + 1)) else if F_X10_place μ bs ≤ nI (pN x) then L_X10_dirtyFrom_5 μ (nI lo) (nI hi) n bs (nI (x + 1)) else L_X10_dirtyFrom_5 μ (nI lo) (nI hi) n (nI x) (nI (x + 1))) else L_X10_dirtyFrom_5 μ (nI lo) (nI hi) n bs (nI (x + 1)) := by
  obtain ⟨ep, bp⟩ := hp x hx
  rw [L_X10_dirtyFrom_5, if_neg (show ¬ (572 : Int32) ≤ nI x by rw [show (572 : Int32) = nI 572 from rfl, nI_leI (by omega) (by omega)]; omega), show ((510 : Int32) + nI x).toNatClampNeg = 510 + x from tnA (c := 510) (by omega), ep, in_pl (μ := μ) bp hl hh, nI_1 x]
  by_cases c1 : μ 25 (510 + x) = 1
  · rw [if_pos c1]
    by_cases c2 : lo ≤ pN x ∧ pN x < hi
    · rw [if_pos c2, if_neg (show ¬ (1 : Int32) = 0 by decide), if_pos (show μ 25 (510 + x) = 1 ∧ lo ≤ pN x ∧ pN x < hi from ⟨c1, c2⟩)]
    · rw [if_neg c2, if_pos rfl, if_neg (show ¬ (μ 25 (510 + x) = 1 ∧ lo ≤ pN x ∧ pN x < hi) from fun z => c2 z.2)]
  · rw [if_neg c1, if_neg (show ¬ (μ 25 (510 + x) = 1 ∧ lo ≤ pN x ∧ pN x < hi) from fun z => c1 z.1)]
theorem df_none {μ : Sg} {pN : Nat → Nat} (hp : ∀ b, b ≤ 571 → F_X10_place μ (nI b) = nI (pN b) ∧ pN b ≤ 575) {lo hi : Nat} (hl : lo ≤ 576) (hh : hi ≤ 576) (hQ : ∀ b, b ≤ 571 → ¬ (μ 25 (510 + b) = 1 ∧ lo ≤ pN b ∧ pN b < hi)) : F_X10_dirtyFrom μ (nI lo) (nI hi) = -1 := by
  have key : ∀ n x : Nat, x + n = 573 → x ≤ 572 → L_X10_dirtyFrom_5 μ (nI lo) (nI hi) n (-1) (nI x) = -1 := by
    intro n
    induction n with
    | zero => intro x h1 h2; omega
    | succ n ih =>
      intro x h1 h2
      by_cases c : x = 572
      · rw [c, L_X10_dirtyFrom_5, if_pos (show (572 : Int32) ≤ nI 572 by decide)]
      · rw [df_step hp hl hh (by omega), if_neg (hQ x (by omega))]
        exact ih (x + 1) (by omega) (by omega)
  exact key 573 0 (by omega) (by omega)
theorem df_some {μ : Sg} {pN : Nat → Nat} (hp : ∀ b, b ≤ 571 → F_X10_place μ (nI b) = nI (pN b) ∧ pN b ≤ 575) (hi2 : ∀ a b, a ≤ 571 → b ≤ 571 → pN a = pN b → a = b) {lo hi b0 : Nat} (hl : lo ≤ 576) (hh : hi ≤ 576) (hb0 : b0 ≤ 571) (h0 : μ 25 (510 + b0) = 1 ∧ lo ≤ pN b0 ∧ pN b0 < hi) (hQ : ∀ b, b ≤ 571 → (μ 25 (510 + b) = 1 ∧ lo ≤ pN b ∧ pN b < hi) → pN b0 ≤ pN b) : F_X10_dirtyFrom μ (nI lo) (nI hi) = nI b0 := by
  have key : ∀ (n x : Nat) (bs : Int32), x + n = 573 → x ≤ 572 → ((bs = -1 ∧ x ≤ b0) ∨ ∃ b, b ≤ 571 ∧ bs = nI b ∧ (μ 25 (510 + b) = 1 ∧ lo ≤ pN b ∧ pN b < hi) ∧ (b = b0 ∨ x ≤ b0)) → L_X10_dirtyFrom_5 μ (nI lo) (nI hi) n bs (nI x) = nI b0 := by
    intro n
    induction n with
    | zero => intro x bs h1 h2; omega
    | succ n ih =>
      intro x bs h1 h2 h3
      by_cases c : x = 572
      · rw [c, L_X10_dirtyFrom_5, if_pos (show (572 : Int32) ≤ nI 572 by decide)]
        rcases h3 with ⟨q1, q2⟩ | ⟨b, hb, q1, q2, q3⟩
        · omega
        · rcases q3 with q3 | q3
          · rw [q1, q3]
          · omega
      · rw [df_step hp hl hh (by omega)]
        by_cases c2 : μ 25 (510 + x) = 1 ∧ lo ≤ pN x ∧ pN x < hi
        · rw [if_pos c2]
          have hQx := hQ x (by omega) c2
          have tox : x = b0 ∨ x + 1 ≤ b0 → ((nI x = -1 ∧ x + 1 ≤ b0) ∨ ∃ b, b ≤ 571 ∧ nI x = nI b ∧ (μ 25 (510 + b) = 1 ∧ lo ≤ pN b ∧ pN b < hi) ∧ (b = b0 ∨ x + 1 ≤ b0)) := fun z => Or.inr ⟨x, by omega, rfl, c2, z⟩
          rcases h3 with ⟨q1, q2⟩ | ⟨b, hb, q1, q2, q3⟩
          · rw [q1, if_pos (show (-1 : Int32) < 0 by decide)]
            exact ih (x + 1) (nI x) (by omega) (by omega) (tox (by omega))
          · have hQb := hQ b hb q2
            rw [q1, if_neg (nI_nlt0 (by omega)), (hp b hb).1]
            have hpb := (hp b hb).2
            have hpx := (hp x (by omega)).2
            by_cases c3 : nI (pN b) ≤ nI (pN x)
            · rw [if_pos c3]
              have := le_of_le rfl rfl (by omega) (by omega) c3
              refine ih (x + 1) (nI b) (by omega) (by omega) (Or.inr ⟨b, hb, rfl, q2, ?_⟩)
              rcases q3 with q3 | q3
              · exact Or.inl q3
              · by_cases z : x = b0
                · subst z
                  exact Or.inl (hi2 b x hb hb0 (by omega))
                · exact Or.inr (by omega)
            · rw [if_neg c3]
              have := gt_of_nle rfl rfl (by omega) (by omega) c3
              refine ih (x + 1) (nI x) (by omega) (by omega) (tox ?_)
              rcases q3 with q3 | q3
              · subst q3; omega
              · omega
        · rw [if_neg c2]
          refine ih (x + 1) bs (by omega) (by omega) ?_
          have nx : x ≠ b0 := fun z => c2 (by rw [z]; exact h0)
          rcases h3 with ⟨q1, q2⟩ | ⟨b, hb, q1, q2, q3⟩
          · exact Or.inl ⟨q1, by omega⟩
          · exact Or.inr ⟨b, hb, q1, q2, by omega⟩
  exact key 573 0 (-1) (by omega) (by omega) (Or.inl ⟨rfl, by omega⟩)
/-- accesses don't look at dirty blocks -/
theorem acc_cong {μ μ' : Sg} {p : Nat} (hp : p ≤ 575) (h : ∀ i, i < 510 ∨ 1082 ≤ i → μ' 25 i = μ 25 i) : (∀ i, i < 510 ∨ 1082 ≤ i → F_X10_accesses μ' (nI p) 25 i = F_X10_accesses μ (nI p) 25 i) := by
  have g : ∀ i, i < 510 → μ' 25 i = μ 25 i := fun i hi => h i (Or.inl hi)
  have es : ∀ a b, F_X10_seek μ' a b = F_X10_seek μ a b := fun a b => by unfold F_X10_seek; rw [g 0 (by omega), g 1 (by omega), g 2 (by omega)]
  have ew : ∀ a b, F_X10_waits μ' a b = F_X10_waits μ a b := fun a b => by unfold F_X10_waits F_X10_angleAt; rw [g 3 (by omega)]
  obtain ⟨f13, f14, f15, f16, f8, fp, fq⟩ := acc_form (μ := μ) hp
  obtain ⟨k13, k14, k15, k16, k8, kp, kq⟩ := acc_form (μ := μ') hp
  rw [es, g 9 (by omega)] at k13
  rw [es, ew, g 9 (by omega), g 8 (by omega)] at k14 k8
  intro i hi
  by_cases c8 : i = 8
  · rw [c8, k8, f8]
  by_cases c9 : i = 9
  · rw [c9, acc_9, acc_9]
  by_cases c13 : i < 13 ∨ 16 < i
  · by_cases c11 : i < 1100
    · rw [acc_fr hp c8 c9 c13 c11, acc_fr hp c8 c9 c13 c11]; exact h i hi
    · obtain ⟨q, rfl⟩ : ∃ q, i = 1100 + q := ⟨i - 1100, by omega⟩
      by_cases z : q = p
      · subst z; rw [kp, fp, h _ hi]
      · rw [kq q z, fq q z]; exact h _ hi
  · rcases (show i = 13 ∨ i = 14 ∨ i = 15 ∨ i = 16 by omega) with rfl | rfl | rfl | rfl
    · rw [k13, f13, g 13 (by omega)]
    · rw [k14, f14, g 14 (by omega)]
    · rw [k15, f15, g 15 (by omega)]
    · rw [k16, f16, g 16 (by omega)]
