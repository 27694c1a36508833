theorem access_form {σ μ : Sg} {p : Nat} (h : SIM σ μ) (hp : p ≤ 575) : F_X1_access σ (nI p) = s2 (s2 (s2 (s2 (s2 (s2 (s2 σ 2 4 (μ 25 8 + ((F_X10_seek μ (μ 25 9) (F_X10_cylinderAt (nI p)) + F_X10_waits μ (μ 25 8 + F_X10_seek μ (μ 25 9) (F_X10_cylinderAt (nI p))) (nI p)) + F_X10_ticksOf (F_X10_cylinderAt (nI p))))) 2 5 (F_X10_cylinderAt (nI p))) 2 6 (σ 2 6 + F_X10_seek μ (μ 25 9) (F_X10_cylinderAt (nI p)))) 2 7 (σ 2 7 + F_X10_waits μ (μ 25 8 + F_X10_seek μ (μ 25 9) (F_X10_cylinderAt (nI p))) (nI p))) 2 8 (σ 2 8 + F_X10_ticksOf (F_X10_cylinderAt (nI p)))) 2 9 (σ 2 9 + 1)) 4 p (σ 4 p + 1) := by
  have hpl : plc (nI p) := ⟨p, hp, rfl⟩
  have ha : cyl (μ 25 9) := h.1.2.1.2.2.1
  have hw : ¬ F_X9_isWithin (nI p) 0 575 = 0 := by
    unfold F_X9_isWithin
    rw [if_neg (by rw [show (0 : Int32) = nI 0 from rfl, nI_ltI (by omega) (by omega)]; omega), if_neg (by rw [show (575 : Int32) = nI 575 from rfl, nI_ltI (by omega) (by omega)]; omega)]
    decide
  unfold F_X1_access
  rw [if_neg hw, geoC hpl, geoT hpl, h.1.1.2.1.1, h.1.1.2.1.2.1, seek_eq h.1.1 ha (geo_c hpl), waits_eq h.1.1 h.1.2.2.1 hpl (clk_t h.1.2.2.1 ha (geo_c hpl)), nI_clamp (by omega)]
theorem SIM.acc {σ μ : Sg} {x : Int32} (h : SIM σ μ) (hx : plc x) (hk : ∃ k : Nat, k ≤ 199000 ∧ μ 25 8 = nI k) : SIM (F_X1_access σ x) (F_X10_accesses μ x) ∧ ∃ d : Nat, d ≤ 916 ∧ F_X10_accesses μ x 25 8 = μ 25 8 + nI d := by
  obtain ⟨p, hp, rfl⟩ := hx
  have hpl : plc (nI p) := ⟨p, hp, rfl⟩
  have ha : cyl (μ 25 9) := h.1.2.1.2.2.1
  obtain ⟨f13, f14, f15, f16, f8, fp, fq⟩ := acc_form (μ := μ) hp
  obtain ⟨s, hs7, es⟩ := seek_rng h.1.2.2.1 ha (geo_c hpl)
  obtain ⟨w, hw7, ew⟩ := waits_rng h.1.1 h.1.2.2.1 hpl (clk_t h.1.2.2.1 ha (geo_c hpl))
  obtain ⟨t1, t2⟩ := ticN_ ⟨p, by omega⟩
  obtain ⟨t, ht7, et⟩ := nI_bd t1 (B := 20) t2 (by omega)
  have et : F_X10_ticksOf (F_X10_cylinderAt (nI p)) = nI t := et
  have hd : F_X10_accesses μ (nI p) 25 8 = μ 25 8 + nI (s + w + t) := by rw [f8, es, ← es, ew, es, et, nI_add, nI_add]
  refine ⟨?_, s + w + t, by omega, hd⟩
  rw [access_form h hp]
  obtain ⟨k, hk9, ek⟩ := hk
  have fr : ∀ i, i ≠ 8 → i ≠ 9 → (i < 13 ∨ 16 < i) → i < 1100 → F_X10_accesses μ (nI p) 25 i = μ 25 i := fun i h1 h2 h3 h4 => acc_fr hp h1 h2 h3 h4
  obtain ⟨⟨⟨⟨d0, d1, d2, d3⟩, ⟨d4, d5, d10⟩, ⟨d6, d7, d8, d9⟩, ds, da⟩, hm, hu, ⟨q1, q2⟩, hsc, ⟨c1, c2, c, c3, c4, c5, c6, c7⟩⟩, htx⟩ := h
  refine ⟨⟨⟨⟨?_, ?_, ?_, ?_⟩, ⟨?_, ?_, ?_⟩, ⟨?_, ?_, ?_, ?_⟩, fun k hk => ?_, fun q hq => ?_⟩, hm.acc hpl, ⟨?_, ?_, ?_, ?_, k + (s + w + t), by omega, ?_⟩, ⟨?_, fun n hn en => ?_⟩, ?_, ⟨?_, ?_, c, c3, c4, c5, c6, fun b hb => ?_⟩⟩, ?_⟩
  · rw [fr 0 (by omega) (by omega) (by omega) (by omega)]; exact d0
  · rw [fr 1 (by omega) (by omega) (by omega) (by omega)]; exact d1
  · rw [fr 2 (by omega) (by omega) (by omega) (by omega)]; exact d2
  · rw [fr 3 (by omega) (by omega) (by omega) (by omega)]; exact d3
  · rw [f8]; rfl
  · rw [acc_9]; rfl
  · rw [fr 11 (by omega) (by omega) (by omega) (by omega)]; exact d10
  · rw [f13, ← d6]; rfl
  · rw [f14, ← d7]; rfl
  · rw [f15, ← d8]; rfl
  · rw [f16, ← d9]; rfl
  · rw [fr (20 + k) (by omega) (by omega) (by omega) (by omega)]; exact ds k hk
  · by_cases e : q = p
    · subst e; rw [s2_e, fp, ← da q hq]
    · rw [s2_n e, fq q e]; exact da q hq
  · rw [fr 0 (by omega) (by omega) (by omega) (by omega)]; exact hu.1
  · rw [fr 1 (by omega) (by omega) (by omega) (by omega)]; exact hu.2.1
  · rw [fr 2 (by omega) (by omega) (by omega) (by omega)]; exact hu.2.2.1
  · rw [fr 3 (by omega) (by omega) (by omega) (by omega)]; exact hu.2.2.2.1
  · rw [hd, ek, nI_add]
  · rw [fr 12 (by omega) (by omega) (by omega) (by omega)]; exact q1
  · rw [fr 12 (by omega) (by omega) (by omega) (by omega)] at en
    obtain ⟨q3, q4⟩ := q2 n hn en
    refine ⟨?_, fun i hi => ?_⟩
    · rw [pcnt_cong (fun i h1 h2 => fr i (by omega) (by omega) (by omega) (by omega)) n hn]; exact q3
    · rw [fr _ (by omega) (by omega) (by omega) (by omega), fr _ (by omega) (by omega) (by omega) (by omega), fr _ (by omega) (by omega) (by omega) (by omega), fr _ (by omega) (by omega) (by omega) (by omega), fr _ (by omega) (by omega) (by omega) (by omega)]; exact q4 i hi
  · unfold RSc; rw [fr 4 (by omega) (by omega) (by omega) (by omega), fr 10 (by omega) (by omega) (by omega) (by omega), fr 5 (by omega) (by omega) (by omega) (by omega), fr 6 (by omega) (by omega) (by omega) (by omega)]; exact hsc
  · rw [fr 7 (by omega) (by omega) (by omega) (by omega)]; exact c1
  · rw [fr 7 (by omega) (by omega) (by omega) (by omega)]; exact c2
  · rw [fr _ (by omega) (by omega) (by omega) (by omega)]; exact c7 b hb
  · unfold RTx; rw [acc_o (c := 24) (by decide), acc_o (c := 27) (by decide)]; exact htx
