/-- how far a reading has come -/
def ADV (d : Nat) (μ μ' : Sg) : Prop := ∃ q q' : Nat, μ 24 3 = nI q ∧ μ' 24 3 = nI q' ∧ q + d ≤ q' ∧ q' ≤ 40
theorem ADV.tr {d d' : Nat} {a b c : Sg} (h : ADV d a b) (h2 : ADV d' b c) : ADV (d + d') a c := by
  obtain ⟨q, q', e1, e2, h3, h4⟩ := h
  obtain ⟨q2, q3, e3, e4, h5, h6⟩ := h2
  have : q' = q2 := by rw [e2, nI_eq (by omega) (by omega)] at e3; exact e3
  exact ⟨q, q3, e1, e4, by omega, h6⟩
theorem ADV.le {d d' : Nat} {a b : Sg} (h : ADV d a b) (hd : d' ≤ d) : ADV d' a b := by
  obtain ⟨q, q', e1, e2, h3, h4⟩ := h; exact ⟨q, q', e1, e2, by omega, h4⟩
theorem ADV.rf {a : Sg} (h : TOK (a 24)) : ADV 0 a a := by
  obtain ⟨-, q, hq, eq⟩ := h; exact ⟨q, q, eq, eq, by omega, hq⟩
theorem skips_adv {μ : Sg} {ch : Int32} (hT : TOK (μ 24)) (hc : ¬ ch = -1) : ADV 0 μ (F_X10_skips μ ch).2 ∧ (¬ (F_X10_skips μ ch).1 = 0 → ADV 1 μ (F_X10_skips μ ch).2) := by
  by_cases h : (F_X10_skips μ ch).1 = 0
  · rw [(skips_no h).1]; exact ⟨ADV.rf hT, fun q => absurd h q⟩
  · obtain ⟨a, b⟩ := skips_yes h
    obtain ⟨q, L, hL, eL, eq, hlt, -⟩ := here_in hT (by rw [b]; exact hc)
    have : ADV 1 μ (F_X10_skips μ ch).2 := by rw [a]; exact ⟨q, q + 1, eq, by rw [s2_e, eq]; exact nI_1 q, by omega, by omega⟩
    exact ⟨this.le (by omega), fun _ => this⟩
theorem L_digits_adv {μ : Sg} {mo : Int32} {m : Nat} (hm : m ≤ 4) (em : mo = nI m) : ∀ (n j : Nat) (μ1 : Sg), j + n = 5 → j ≤ 4 → TOK (μ1 24) → ADV 0 μ1 (L_X10_digits_7 μ mo n (nI j) μ1).2 ∧ (¬ (L_X10_digits_7 μ mo n (nI j) μ1).1 = 0 → 1 ≤ j ∨ ADV 1 μ1 (L_X10_digits_7 μ mo n (nI j) μ1).2) := by
  intro n
  induction n with
  | zero => intro j μ1 hj h4; omega
  | succ n ih =>
    intro j μ1 hj h4 hT
    have base : ADV 0 μ1 (if nI j ≤ 0 then ((0 : Int32), μ1) else (1, μ1)).2 ∧ (¬ (if nI j ≤ 0 then ((0 : Int32), μ1) else (1, μ1)).1 = 0 → 1 ≤ j ∨ ADV 1 μ1 (if nI j ≤ 0 then ((0 : Int32), μ1) else (1, μ1)).2) := by
      by_cases h0 : nI j ≤ 0
      · rw [if_pos h0]; exact ⟨ADV.rf hT, fun h => absurd rfl h⟩
      · rw [if_neg h0]
        refine ⟨ADV.rf hT, fun _ => Or.inl ?_⟩
        rcases Nat.eq_zero_or_pos j with q | q
        · subst q; exact absurd (by decide) h0
        · exact q
    rw [L_X10_digits_7]
    by_cases h1 : mo ≤ nI j
    · rw [if_pos h1]; exact base
    rw [if_neg h1]
    have hlt4 := gt_of_nle em rfl (by omega) (by omega) h1
    by_cases h : F_X10_in (F_X10_here μ1) 48 57 = 0
    · rw [if_pos h]; exact base
    rw [if_neg h]
    have hne := in_ne h
    obtain ⟨q, L, hL, eL, eq, hlt, -⟩ := here_in hT hne
    have step : ∀ a : Int32, ADV 1 μ1 (s2 (s2 μ1 24 4 a) 24 3 (μ1 24 3 + 1)) := fun a => ⟨q, q + 1, eq, by rw [s2_e, eq]; exact nI_1 q, by omega, by omega⟩
    rw [show nI j + (1 : Int32) = nI (j + 1) from nI_1 j]
    have r := ih (j + 1) _ (by omega) (by omega) (hT.adv (a := 10 * μ1 24 4 + F_X10_here μ1 - 48) hne)
    exact ⟨((step _).tr r.1).le (by omega), fun _ => Or.inr (((step _).tr r.1).le (by omega))⟩
theorem digits_adv {μ : Sg} {mo : Int32} {m : Nat} (hm : m ≤ 4) (em : mo = nI m) (hT : TOK (μ 24)) : ADV 0 μ (F_X10_digits μ mo).2 ∧ (¬ (F_X10_digits μ mo).1 = 0 → ADV 1 μ (F_X10_digits μ mo).2) := by
  have r := L_digits_adv (μ := μ) hm em 5 0 (s2 μ 24 4 0) (by omega) (by omega) hT
  unfold F_X10_digits
  exact ⟨r.1, fun h => (r.2 h).resolve_left (by omega)⟩
/-- what a reading leaves alone -/
def FRT (μ μ' : Sg) : Prop := (∀ c, c ≠ 24 → c ≠ 28 → μ' c = μ c) ∧ μ' 24 2 = μ 24 2
theorem FRT.tr {a b c : Sg} (h : FRT a b) (h2 : FRT b c) : FRT a c := ⟨fun x hx hy => (h2.1 x hx hy).trans (h.1 x hx hy), h2.2.trans h.2⟩
/-- all that is wanted of one item's reading -/
def ITM (μ : Sg) (i : Nat) (r : Int32 × Sg) : Prop := FRT μ r.2 ∧ TOK (r.2 24) ∧ (¬ r.1 = 0 → ADV 2 μ r.2 ∧ r.2 24 6 = nI (i + 1)) ∧ (r.1 = 0 → r.2 24 6 = nI i)
def RDS (d : Nat) (μ : Sg) (i : Nat) (μ' : Sg) : Prop := IOK μ' i ∧ FRT μ μ' ∧ ADV d μ μ'
theorem RDS.sk {d : Nat} {μ μ1 μ2 : Sg} {i : Nat} {ch : Int32} {r : Int32 × Sg} (e : F_X10_skips μ2 ch = r) (h : RDS d μ i μ1) (h2 : FRT μ1 μ2) (h3 : μ2 24 = μ1 24) (hc : ¬ ch = -1) : RDS d μ i r.2 ∧ (¬ r.1 = 0 → RDS (d + 1) μ i r.2) := by
  have hI2 : IOK μ2 i := by unfold IOK; rw [h3]; exact h.1
  have a := skips_adv (ch := ch) hI2.1 hc
  have f := skips_fr (μ := μ2) (ch := ch)
  have hA : ADV d μ μ2 := by
    obtain ⟨q, q', e1, e2, h4, h5⟩ := h.2.2
    exact ⟨q, q', e1, by rw [h3]; exact e2, h4, h5⟩
  rw [← e]
  have fr : FRT μ (F_X10_skips μ2 ch).2 := (h.2.1.tr h2).tr ⟨fun c h24 _ => f.1 c h24, f.2.2⟩
  exact ⟨⟨hI2.sk hc, fr, (hA.tr a.1).le (by omega)⟩, fun q => ⟨hI2.sk hc, fr, hA.tr (a.2 q)⟩⟩
theorem RDS.dg {d : Nat} {μ μ1 : Sg} {i : Nat} {mo : Int32} {m : Nat} {r : Int32 × Sg} (e : F_X10_digits μ1 mo = r) (h : RDS d μ i μ1) (hm : m ≤ 4) (em : mo = nI m) : RDS d μ i r.2 ∧ (¬ r.1 = 0 → RDS (d + 1) μ i r.2) := by
  have a := digits_adv hm em h.1.1
  have f := digits_fr (mo := mo) h.1.1
  rw [← e]
  have fr : FRT μ (F_X10_digits μ1 mo).2 := h.2.1.tr ⟨fun c h24 _ => f.1.1 c h24, f.1.2.2⟩
  exact ⟨⟨h.1.dg, fr, (h.2.2.tr a.1).le (by omega)⟩, fun q => ⟨h.1.dg, fr, h.2.2.tr (a.2 q)⟩⟩
theorem RDS.no {d : Nat} {μ μ1 : Sg} {i : Nat} (h : RDS d μ i μ1) : ITM μ i ((0 : Int32), μ1) := ⟨h.2.1, h.1.1, fun q => absurd rfl q, fun _ => h.1.2⟩
theorem RDS.yes {μ μ1 μ2 : Sg} {i : Nat} (h : RDS 2 μ i μ1) (h2 : FRT μ1 μ2) (h3 : μ2 24 = μ1 24) : ITM μ i ((1 : Int32), s2 μ2 24 6 ((μ2 24 6) + (1 : Int32))) := by
  refine ⟨(h.2.1.tr h2).tr ⟨fun c h24 _ => s2_o h24, rfl⟩, ?_, fun _ => ⟨?_, ?_⟩, fun q => absurd (show (1 : Int32) = 0 from q) (by decide)⟩
  · obtain ⟨⟨L, hL, eL⟩, q, hq, eq⟩ := h.1.1
    exact ⟨⟨L, hL, by show μ2 24 2 = nI L; rw [h3]; exact eL⟩, q, hq, by show μ2 24 3 = nI q; rw [h3]; exact eq⟩
  · obtain ⟨q, q', e1, e2, h4, h5⟩ := h.2.2
    exact ⟨q, q', e1, by show μ2 24 3 = nI q'; rw [h3]; exact e2, h4, h5⟩
  · show s2 μ2 24 6 (μ2 24 6 + 1) 24 6 = nI (i + 1)
    rw [s2_e, h3, h.1.2]; exact nI_1 i
theorem FRT28 {μ : Sg} {k : Nat} {v : Int32} : FRT μ (s2 μ 28 k v) := ⟨fun c _ h28 => s2_o h28, rfl⟩
/-- the second half of an item, from its block's number on -/
theorem item_tail {μ μ1 : Sg} {i : Nat} (h : RDS 2 μ i μ1) (k1 k2 k3 : Nat) (v1 v2 v3 : Int32) : ITM μ i (let r3 := F_X10_skips (s2 (s2 (s2 μ1 28 k1 v1) 28 k2 v2) 28 k3 v3) (64 : Int32); (if r3.1 = 0 then ((1 : Int32), (s2 r3.2 24 6 ((r3.2 24 6) + (1 : Int32)))) else (let r4 := F_X10_digits r3.2 (4 : Int32); (if r4.1 = 0 then ((0 : Int32), r4.2) else ((1 : Int32), (s2 (s2 r4.2 28 (((3 : Int32) * (r4.2 24 6)) + (2 : Int32)).toNatClampNeg (r4.2 24 4)) 24 6 ((r4.2 24 6) + (1 : Int32)))))))) := by
  dsimp only
  generalize h3 : F_X10_skips (s2 (s2 (s2 μ1 28 k1 v1) 28 k2 v2) 28 k3 v3) 64 = r3
  have a := RDS.sk h3 h (FRT28.tr (FRT28.tr FRT28)) rfl (by decide)
  by_cases q : r3.1 = 0
  · rw [if_pos q]; exact a.1.yes ⟨fun _ _ _ => rfl, rfl⟩ rfl
  · rw [if_neg q]
    generalize h4 : F_X10_digits r3.2 4 = r4
    have b := RDS.dg (m := 4) h4 (a.2 q) (by omega) rfl
    by_cases z : r4.1 = 0
    · rw [if_pos z]; exact b.1.no
    · rw [if_neg z]; exact RDS.yes (μ1 := r4.2) ⟨b.1.1, b.1.2.1, b.1.2.2.le (by omega)⟩ FRT28 rfl
theorem item_ok {μ : Sg} {i : Nat} (h : IOK μ i) : ITM μ i (F_X10_isItem μ) := by
  have h0 : RDS 0 μ i μ := ⟨h, ⟨fun _ _ _ => rfl, rfl⟩, ADV.rf h.1⟩
  unfold F_X10_isItem
  have main : ∀ v : Int32, ITM μ i (let r1 := F_X10_skips μ (114 : Int32); (if r1.1 = 0 then (let r5 := F_X10_skips r1.2 (119 : Int32); (if r5.1 = 0 then ((0 : Int32), r5.2) else (let r6 := F_X10_digits r5.2 (3 : Int32); (if r6.1 = 0 then ((0 : Int32), r6.2) else (let r7 := F_X10_skips (s2 (s2 (s2 r6.2 28 ((3 : Int32) * (r6.2 24 6)).toNatClampNeg v) 28 (((3 : Int32) * (r6.2 24 6)) + (1 : Int32)).toNatClampNeg (r6.2 24 4)) 28 (((3 : Int32) * (r6.2 24 6)) + (2 : Int32)).toNatClampNeg (0 : Int32)) (64 : Int32); (if r7.1 = 0 then ((1 : Int32), (s2 r7.2 24 6 ((r7.2 24 6) + (1 : Int32)))) else (let r8 := F_X10_digits r7.2 (4 : Int32); (if r8.1 = 0 then ((0 : Int32), r8.2) else ((1 : Int32), (s2 (s2 r8.2 28 (((3 : Int32) * (r8.2 24 6)) + (2 : Int32)).toNatClampNeg (r8.2 24 4)) 24 6 ((r8.2 24 6) + (1 : Int32)))))))))))) else (let r2 := F_X10_digits r1.2 (3 : Int32); (if r2.1 = 0 then ((0 : Int32), r2.2) else (let r3 := F_X10_skips (s2 (s2 (s2 r2.2 28 ((3 : Int32) * (r2.2 24 6)).toNatClampNeg v) 28 (((3 : Int32) * (r2.2 24 6)) + (1 : Int32)).toNatClampNeg (r2.2 24 4)) 28 (((3 : Int32) * (r2.2 24 6)) + (2 : Int32)).toNatClampNeg (0 : Int32)) (64 : Int32); (if r3.1 = 0 then ((1 : Int32), (s2 r3.2 24 6 ((r3.2 24 6) + (1 : Int32)))) else (let r4 := F_X10_digits r3.2 (4 : Int32); (if r4.1 = 0 then ((0 : Int32), r4.2) else ((1 : Int32), (s2 (s2 r4.2 28 (((3 : Int32) * (r4.2 24 6)) + (2 : Int32)).toNatClampNeg (r4.2 24 4)) 24 6 ((r4.2 24 6) + (1 : Int32)))))))))))) := by
    intro v
    dsimp only
    generalize h1 : F_X10_skips μ 114 = r1
    have a := RDS.sk h1 h0 ⟨fun _ _ _ => rfl, rfl⟩ rfl (by decide)
    by_cases q1 : r1.1 = 0
    · rw [if_pos q1]
      generalize h2 : F_X10_skips r1.2 119 = r2
      have b := RDS.sk h2 a.1 ⟨fun _ _ _ => rfl, rfl⟩ rfl (by decide)
      by_cases q2 : r2.1 = 0
      · rw [if_pos q2]; exact b.1.no
      · rw [if_neg q2]
        generalize h3 : F_X10_digits r2.2 3 = r3
        have d := RDS.dg (m := 3) h3 (b.2 q2) (by omega) rfl
        by_cases q3 : r3.1 = 0
        · rw [if_pos q3]; exact d.1.no
        · rw [if_neg q3]; exact item_tail (d.2 q3) _ _ _ _ _ _
    · rw [if_neg q1]
      generalize h3 : F_X10_digits r1.2 3 = r3
      have d := RDS.dg (m := 3) h3 (a.2 q1) (by omega) rfl
      by_cases q3 : r3.1 = 0
      · rw [if_pos q3]; exact d.1.no
      · rw [if_neg q3]; exact item_tail (d.2 q3) _ _ _ _ _ _
  by_cases hw : F_X10_here μ = 119
  · rw [if_pos hw]; exact main 1
  · rw [if_neg hw]; exact main 0
theorem fo_step {μ μ1 : Sg} {i q n : Nat} {r1 r2 : Int32 × Sg} (hK : IOK μ1 i) (eq : μ1 24 3 = nI q) (h3q : 3 * i ≤ q) (h40 : q ≤ 40) (hn : i + (n + 1) = 15) (hR : FRT μ μ1) (e1 : F_X10_isItem μ1 = r1) (h1 : ¬ r1.1 = 0) (e2 : F_X10_skips r1.2 44 = r2) (h2 : ¬ r2.1 = 0) : (∃ i q : Nat, IOK r2.2 i ∧ r2.2 24 3 = nI q ∧ 3 * i ≤ q ∧ q ≤ 40 ∧ i + n = 15) ∧ FRT μ r2.2 := by
  have hit := item_ok hK
  rw [e1] at hit
  obtain ⟨a, b, d, -⟩ := hit
  obtain ⟨A, e6⟩ := d h1
  have hI : IOK r1.2 (i + 1) := ⟨b, e6⟩
  have s := skips_adv (ch := 44) b (by decide)
  have f := skips_fr (μ := r1.2) (ch := 44)
  have k := hI.sk (ch := 44) (by decide)
  rw [e2] at s f k
  obtain ⟨x, y, ex, ey, hxy, hy⟩ := A.tr (s.2 h2)
  have hx : x = q := by
    rw [eq, nI_eq (by omega) (by omega)] at ex; omega
  exact ⟨⟨i + 1, y, k, ey, by omega, hy, by omega⟩, (hR.tr a).tr ⟨fun c h24 _ => f.1 c h24, f.2.2⟩⟩
def L_X10_faultOf_10 (μ : Sg) : Nat → Sg → Int32 × Sg
  | 0, _ => (0, μ)
  | n + 1, μ1 => (let r1 := F_X10_isItem μ1; (if r1.1 = 0 then (r1.2 24 3, r1.2) else (let r2 := F_X10_skips r1.2 (44 : Int32); (if r2.1 = 0 then (if (r2.2 24 2) ≤ (r2.2 24 3) then ((-1 : Int32), r2.2) else (r2.2 24 3, r2.2)) else L_X10_faultOf_10 μ n r2.2))))
def F_X10_faultOf (μ : Sg) : Int32 × Sg := L_X10_faultOf_10 μ 15 (s2 (s2 μ 24 3 (0 : Int32)) 24 6 (0 : Int32))
abbrev rm_X10_faultOf : Room := { frames := 3, cells := 0, slots := 0, locals := 65 }
set_option maxRecDepth 100000 in
set_option maxHeartbeats 4000000 in
theorem m_X10_faultOf (l : Launch) (G : GG) (E : EE) (σ μ : Sg) (Y : va_W) (hT : TOK (μ 24)) : KK l G yX10_faultOf cX10_faultOf 1 (some .int) rm_X10_faultOf [.ref (E.1 24)] (Wd G E σ μ Y) (some (.int (F_X10_faultOf μ).1)) (Wd G E σ (F_X10_faultOf μ).2 Y) := by
  refine KE.of (by decide) (Nat.le_of_ble_eq_true rfl) ?_
  intro zp ze zs zm za zb zt zc zA C _
  generalize hQ : MQ zb _ za zs _ _ zA = Q
  have loop_10 : ∀ (n : Nat) (μ1 : Sg), ((∃ i q : Nat, IOK μ1 i ∧ μ1 24 3 = nI q ∧ 3 * i ≤ q ∧ q ≤ 40 ∧ i + n = 15) ∧ FRT μ μ1) → F_X10_faultOf μ = L_X10_faultOf_10 μ n μ1 → V zp l ze rm_X10_faultOf zs zm za zb zt zc 1 G zA 0 0 Q 10 [(0, .ref (E.1 24))] [] (Wd G E σ μ1 Y) := by
    intro n
    induction n with
    | zero =>
      intro μ1 hI hL
      exact False.elim (by obtain ⟨⟨i, q, _, _, h1, h2, h3⟩, _⟩ := hI; omega)
    | succ n ih =>
      intro μ1 hI hL
      obtain ⟨⟨i, q, hK, eq, h3q, h40, hn⟩, hR⟩ := hI
      refine v_aload_n C 0 rfl dX10_faultOf_10 ?_
      refine v_cV1 (rest := []) C mv_RX10_133 (m_X10_isItem l G E σ μ1 Y (⟨i, by omega, hK⟩)) 24 g_24 rfl rfl rfl rfl (Nat.le_of_ble_eq_true rfl) ⟨Nat.le_of_ble_eq_true rfl, Nat.le_of_ble_eq_true rfl⟩ ⟨rfl, rfl⟩ ⟨Nat.zero_le _, Nat.zero_le _⟩ dX10_faultOf_11 ?_
      generalize hr1 : F_X10_isItem μ1 = r1
      have hit := item_ok hK
      rw [hr1] at hit
      refine v_if_ne (tgt := 22) C (by decide) dX10_faultOf_14 (fun h1 => ?_) (fun h1 => ?_)
      · refine v_aload_n C 0 rfl dX10_faultOf_22 ?_
        refine v_bipush (v := (44 : Int32)) C (by decide) dX10_faultOf_23 ?_
        refine v_cV1 (rest := []) C mv_RX10_124 (m_X10_skips l G E σ r1.2 Y (44 : Int32) hit.2.1) 24 g_24 rfl rfl rfl rfl (Nat.le_of_ble_eq_true rfl) ⟨Nat.le_of_ble_eq_true rfl, Nat.le_of_ble_eq_true rfl⟩ ⟨rfl, rfl⟩ ⟨Nat.zero_le _, Nat.zero_le _⟩ dX10_faultOf_25 ?_
        generalize hr2 : F_X10_skips r1.2 (44 : Int32) = r2
        refine v_if_ne (tgt := 10) C (by decide) dX10_faultOf_28 (fun h2 => ?_) (fun h2 => ?_)
        · refine v_lv [0] rfl ?_
          exact ih r2.2 (fo_step hK eq h3q h40 hn hR hr1 h1 hr2 h2) (by rw [hL, L_X10_faultOf_10]; simp only [hr1, if_neg h1, hr2, if_neg h2])
        · refine v_aload_n C 0 rfl dX10_faultOf_31 ?_
          refine v_get (v := .int (r2.2 24 3)) C fl_RX10_115 24 g_24 rfl dX10_faultOf_32 ?_
          refine v_aload_n C 0 rfl dX10_faultOf_35 ?_
          refine v_get (v := .int (r2.2 24 2)) C fl_RX10_112 24 g_24 rfl dX10_faultOf_36 ?_
          refine v_icmp_ge (tgt := 49) C (by decide) dX10_faultOf_39 (fun h3 => ?_) (fun h3 => ?_)
          · refine v_iconst (v := (-1 : Int32)) C (by decide) dX10_faultOf_49 ?_
            have e1 : F_X10_faultOf μ = ((-1 : Int32), r2.2) := by rw [hL, L_X10_faultOf_10]; simp only [hr1, if_neg h1, hr2, if_pos h2, if_pos h3]
            exact v_Q hQ (v_iret C () trivial (by rw [e1]) (by rw [e1]) (Nat.zero_le _) (Nat.zero_le _) dX10_faultOf_50)
          · refine v_aload_n C 0 rfl dX10_faultOf_42 ?_
            refine v_get (v := .int (r2.2 24 3)) C fl_RX10_115 24 g_24 rfl dX10_faultOf_43 ?_
            refine v_goto (tgt := 50) C (by decide) dX10_faultOf_46 ?_
            have e1 : F_X10_faultOf μ = (r2.2 24 3, r2.2) := by rw [hL, L_X10_faultOf_10]; simp only [hr1, if_neg h1, hr2, if_pos h2, if_neg h3]
            exact v_Q hQ (v_iret C () trivial (by rw [e1]) (by rw [e1]) (Nat.zero_le _) (Nat.zero_le _) dX10_faultOf_50)
      · refine v_aload_n C 0 rfl dX10_faultOf_17 ?_
        refine v_get (v := .int (r1.2 24 3)) C fl_RX10_115 24 g_24 rfl dX10_faultOf_18 ?_
        have e1 : F_X10_faultOf μ = (r1.2 24 3, r1.2) := by rw [hL, L_X10_faultOf_10]; simp only [hr1, if_pos h1]
        exact v_Q hQ (v_iret C () trivial (by rw [e1]) (by rw [e1]) (Nat.zero_le _) (Nat.zero_le _) dX10_faultOf_21)
  show V zp l ze rm_X10_faultOf zs zm za zb zt zc 1 G zA 0 0 Q 0 [(0, .ref (E.1 24))] [] (Wd G E σ μ Y)
  refine v_aload_n C 0 rfl dX10_faultOf_0 ?_
  refine v_iconst (v := (0 : Int32)) C (by decide) dX10_faultOf_1 ?_
  refine v_put C fp_RX10_115 24 g_24 rfl rfl (Nat.le_of_ble_eq_true rfl) (p_24_6 _) dX10_faultOf_2 ?_
  refine v_aload_n C 0 rfl dX10_faultOf_5 ?_
  refine v_iconst (v := (0 : Int32)) C (by decide) dX10_faultOf_6 ?_
  refine v_put C fp_RX10_130 24 g_24 rfl rfl (Nat.le_of_ble_eq_true rfl) (p_24_10 _) dX10_faultOf_7 ?_
  refine v_lv [0] rfl ?_
  exact loop_10 15 (s2 (s2 μ 24 3 (0 : Int32)) 24 6 (0 : Int32)) (⟨⟨0, 0, ⟨⟨hT.1, 0, by omega, rfl⟩, rfl⟩, rfl, by omega, by omega, by omega⟩, ⟨fun c h24 _ => (s2_o h24).trans (s2_o h24), rfl⟩⟩) (by rw [F_X10_faultOf])
