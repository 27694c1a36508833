/-! both searches answer alike -/
theorem RD.cells {σ σ' : Sg} {g : Nat → Int32} (h : RD σ g) (h2 : σ' 2 = σ 2) (h3 : σ' 3 = σ 3) (h4 : σ' 4 = σ 4) : RD σ' g := by unfold RD; rw [h2, h3, h4]; exact h
theorem ens_of {σ μ : Sg} (h : SIM σ μ) (ha : AR (μ 25)) {m : Nat} (hm : m ≤ 80) (em : μ 25 12 = nI m) {on he : Int32} {l : List Nat} (hl : l.length ≤ 6) (hmem : ∀ i, i < l.length → l.getD i 0 < m) {fm : Nat → Int32} (hfm : ∀ i, i < l.length → fm i = nI (l.getD i 0)) {σ0 : Sg} (hG : GI σ he σ0 l) : ENS σ0 l.length (enR (μ 25) fm) (cyR (μ 25) fm) (okR (μ 25) fm he) fm := by
  have k25 : (kS (μ 25)) 25 = μ 25 := rfl
  have pl : ∀ i, i < l.length → F_X1_placeOfBlock σ (σ 40 (l.getD i 0)) = F_X10_place (kS (μ 25)) (μ 25 ((110 : Int32) + fm i).toNatClampNeg) := fun i hi => by
    have hq := hmem i hi
    rw [((h.1.2.2.2.1.2 m hm em).2 _ hq).1, hfm i hi, show ((110 : Int32) + nI (l.getD i 0)).toNatClampNeg = 110 + l.getD i 0 from tnA (c := 110) (by omega), place_eq h.1.1 h.1.2.1.1]
    exact (place_25 (μ := μ) (μ' := kS (μ 25)) rfl _).symm
  have plp : ∀ i, i < l.length → plc (F_X10_place (kS (μ 25)) (μ 25 ((110 : Int32) + fm i).toNatClampNeg)) := fun i hi => by
    have hq := hmem i hi
    rw [hfm i hi, show ((110 : Int32) + nI (l.getD i 0)).toNatClampNeg = 110 + l.getD i 0 from tnA (c := 110) (by omega)]
    exact place_plc (μ := kS (μ 25)) h.1.2.1.1 (h.1.2.1.2.2.2.2.2 _ (by omega))
  have cye : ∀ i, i < l.length → cyR (μ 25) fm i = F_X10_cylinderAt (F_X10_place (kS (μ 25)) (μ 25 ((110 : Int32) + fm i).toNatClampNeg)) := fun i hi => rfl
  have hu : NU ((kS (μ 25)) 25) := h.1.2.2.1
  refine ⟨hl, fun σ1 t am i k hC hi hk ht hc => ?_, fun i hi => ?_, fun t am i k hi hk ht hc => ?_⟩
  · obtain ⟨T, hT, rfl⟩ := ht
    obtain ⟨g1, g2, g3⟩ := hG
    obtain ⟨a11, a12, a13, a14, a15, a16⟩ := g3 i hi
    have o : ∀ c, c < 10 → σ1 c = σ c := fun c hc => (hC.1 c (by omega) (by omega) (by omega) (by omega)).trans (g1 c (by omega))
    have hRD : RD σ1 ((kS (μ 25)) 25) := RD.cells h.1.1 (o 2 (by omega)) (o 3 (by omega)) (o 4 (by omega))
    have b12 : σ1 12 i = F_X10_cylinderAt (F_X10_place (kS (μ 25)) (μ 25 ((110 : Int32) + fm i).toNatClampNeg)) := by
      rw [hC.1 12 (by omega) (by omega) (by omega) (by omega), a12, pl i hi, geoC (plp i hi)]
    have b13 : σ1 13 i = F_X1_angleOfPlace σ1 (F_X10_place (kS (μ 25)) (μ 25 ((110 : Int32) + fm i).toNatClampNeg)) := by
      rw [hC.1 13 (by omega) (by omega) (by omega) (by omega), a13, pl i hi]
      unfold F_X1_angleOfPlace
      rw [o 2 (by omega)]
    have b14 : σ1 14 i = F_X10_ticksOf (F_X10_cylinderAt (F_X10_place (kS (μ 25)) (μ 25 ((110 : Int32) + fm i).toNatClampNeg))) := by
      rw [hC.1 14 (by omega) (by omega) (by omega) (by omega), a14, pl i hi, geoT (plp i hi)]
    have hpl := plp i hi
    unfold endC enR F_X10_ends
    rw [b12, b13, b14]
    generalize F_X10_place (kS (μ 25)) (μ 25 ((110 : Int32) + fm i).toNatClampNeg) = p at hpl
    obtain ⟨s, hs7, es⟩ := seek_rng (μ := kS (μ 25)) hu hc (geo_c hpl)
    have ht3 : ∃ T' : Nat, T' ≤ 300000 ∧ nI T + F_X10_seek (kS (μ 25)) am (F_X10_cylinderAt p) = nI T' := ⟨T + s, by omega, by rw [es, nI_add]⟩
    obtain ⟨w, hw7, ew⟩ := waits_rng (μ := kS (μ 25)) hRD hu hpl ht3
    rw [seek_eq (μ := kS (μ 25)) hRD hc (geo_c hpl), waits_eq (μ := kS (μ 25)) hRD hu hpl ht3]
    obtain ⟨q, hq5, eq⟩ := hpl
    obtain ⟨t1, t2⟩ := ticN_ ⟨q, by omega⟩
    obtain ⟨u, hu7, et⟩ := nI_bd t1 (B := 20) t2 (by omega)
    have et : F_X10_ticksOf (F_X10_cylinderAt p) = nI u := by rw [eq]; exact et
    refine ⟨rfl, T, T + s + w + u, rfl, ?_, by omega, by omega, hT⟩
    rw [ew, es, et, nI_add, nI_add, nI_add]
  · obtain ⟨g1, g2, g3⟩ := hG
    obtain ⟨a11, a12, a13, a14, a15, a16⟩ := g3 i hi
    refine ⟨?_, ?_, by rw [a11, hfm i hi]⟩
    · rw [a12, pl i hi, geoC (plp i hi)]; rfl
    · rw [cye i hi]; exact geo_c (plp i hi)
  · obtain ⟨g1, g2, g3⟩ := hG
    obtain ⟨a11, a12, a13, a14, a15, a16⟩ := g3 i hi
    have hq := hmem i hi
    obtain ⟨e40, e41, e42, e43, e44⟩ := (h.1.2.2.2.1.2 m hm em).2 _ hq
    have hdl := dl_eq e42 ((ha.2.2.2 m hm em).2 _ hq).2
    have hbig : ∃ T' : Nat, T' ≤ 300000 ∧ enR (μ 25) fm t am i = nI T' := by
      obtain ⟨T, hT, rfl⟩ := ht
      have hpl := plp i hi
      unfold enR F_X10_ends
      generalize F_X10_place (kS (μ 25)) (μ 25 ((110 : Int32) + fm i).toNatClampNeg) = p at hpl
      obtain ⟨s, hs7, es⟩ := seek_rng (μ := kS (μ 25)) hu hc (geo_c hpl)
      have ht3 : ∃ T' : Nat, T' ≤ 300000 ∧ nI T + F_X10_seek (kS (μ 25)) am (F_X10_cylinderAt p) = nI T' := ⟨T + s, by omega, by rw [es, nI_add]⟩
      obtain ⟨w, hw7, ew⟩ := waits_rng (σ := σ) (μ := kS (μ 25)) h.1.1 hu hpl ht3
      obtain ⟨q, hq5, eq⟩ := hpl
      obtain ⟨t1, t2⟩ := ticN_ ⟨q, by omega⟩
      obtain ⟨u, hu7, et⟩ := nI_bd t1 (B := 20) t2 (by omega)
      have et : F_X10_ticksOf (F_X10_cylinderAt p) = nI u := by rw [eq]; exact et
      exact ⟨T + s + w + u, by omega, by rw [ew, es, et, nI_add, nI_add, nI_add]⟩
    obtain ⟨T', hT', eT'⟩ := hbig
    have big : ¬ (1000000000 : Int32) < enR (μ 25) fm t am i := by
      rw [eT', show (1000000000 : Int32) = nI 1000000000 from rfl, nI_ltI (by omega) (by omega)]; omega
    have t270 : ((270 : Int32) + fm i).toNatClampNeg = 270 + l.getD i 0 := by rw [hfm i hi]; exact tnA (c := 270) (by omega)
    rw [a15]
    unfold okR
    rw [t270]
    by_cases c : he = 0
    · rw [if_pos c]; simp [c, big]
    · rw [if_neg c]
      rcases hdl with ⟨q1, q2⟩ | ⟨q1, d, hd, q2⟩
      · rw [if_pos q1]
        have : (-1 : Int32) < 0 := by decide
        rw [q2]
        simp [c, big, this]
      · rw [if_neg (by rw [q1]; decide), e42]
        have : ¬ nI d < 0 := nI_nlt0 (by omega)
        rw [q2]
        simp [c, this, Int32.not_lt]
/-- what both searches show -/
theorem search_eq {σ μ : Sg} (h : SIM σ μ) (ha : AR (μ 25)) {m : Nat} (hm : m ≤ 80) (em : μ 25 12 = nI m) {on he : Int32} :
    (F_X3_run (F_X3_gather σ on he)) 10 0 = nI (gatL (selR (μ 25) on) 6 m 0 []).length ∧ F_X10_searches μ on he 6 24 7 = nI (gatL (selR (μ 25) on) 6 m 0 []).length ∧ (gatL (selR (μ 25) on) 6 m 0 []).length ≤ 6 ∧
    ((F_X10_searches μ on he 6 24 8 < 0 ∧ F_X3_run (F_X3_gather σ on he) 10 1 = 1000000000) ∨ ∃ T : Nat, T ≤ 300000 ∧ F_X10_searches μ on he 6 24 8 = nI T ∧ F_X3_run (F_X3_gather σ on he) 10 1 = nI T ∧ ∀ i, i < (gatL (selR (μ 25) on) 6 m 0 []).length → F_X3_run (F_X3_gather σ on he) 18 i = F_X10_searches μ on he 6 31 i) := by
  obtain ⟨s25, fm, hfm, hfew, s29, ord, b0, hB⟩ := searches_spec (wd := on) (mi := he) (mo := 6) (m6 := 6) hm em (by omega) rfl
  have hG := gather_GI h ha hm em (on := on) (he := he)
  have hmem : ∀ i, i < (gatL (selR (μ 25) on) 6 m 0 []).length → (gatL (selR (μ 25) on) 6 m 0 []).getD i 0 < m := fun i hi => by
    have : (gatL (selR (μ 25) on) 6 m 0 []).getD i 0 ∈ gatL (selR (μ 25) on) 6 m 0 [] := by
      rw [List.getD_eq_getElem?_getD, List.getElem?_eq_getElem hi]; simp
    rcases gatL_mem _ _ _ _ _ _ this with q | q
    · simp at q
    · omega
  have hens := ens_of h ha hm em (on := on) hfew.1 hmem hfm hG
  have hl := hfew.1
  obtain ⟨g1, g2, g3⟩ := hG
  have hC0 : CS (F_X3_gather σ on he) (gatL (selR (μ 25) on) 6 m 0 []).length (s2 (F_X3_gather σ on he) 10 1 1000000000) := ⟨fun c h10 _ _ _ => s2_f h10, g2⟩
  have e25 : F_X3_gather σ on he 2 5 = μ 25 9 := by rw [g1 2 (by omega)]; exact h.1.1.2.1.2.1
  have e24 : F_X3_gather σ on he 2 4 = μ 25 8 := by rw [g1 2 (by omega)]; exact h.1.1.2.1.1
  obtain ⟨k, hk, ek⟩ := h.1.2.2.1.2.2.2.2
  have key := try_spec hens g2 7 (s2 (F_X3_gather σ on he) 10 1 1000000000) 0 (μ 25 9) (μ 25 8) 0 (fun _ => false) ord (-1, b0) hC0 rfl (by omega) (by omega) (fun i hi => ⟨fun _ => rfl, fun _ => (g3 i hi).2.2.2.2.2⟩) (fun i hi => absurd hi (Nat.not_lt_zero _)) (Or.inl ⟨(show (-1 : Int32) < 0 by decide), rfl⟩) ⟨k, by omega, ek⟩ h.1.2.1.2.2.1
  have er : F_X3_run (F_X3_gather σ on he) = F_tryD 7 (s2 (F_X3_gather σ on he) 10 1 1000000000) 0 (μ 25 9) (μ 25 8) := by
    unfold F_X3_run F_X3_tryFrom; rw [e25, e24]
  rw [er]
  obtain ⟨k1, k2, k3, k4⟩ := key
  refine ⟨k1.2, hfew.2.1, hl, ?_⟩
  rcases k2 with ⟨q1, q2⟩ | ⟨T, hT, q1, q2, q3⟩
  · exact Or.inl ⟨by rw [← hB.1]; exact q1, q2⟩
  · exact Or.inr ⟨T, hT, by rw [← hB.1]; exact q1, q2, fun i hi => by rw [q3 i hi]; exact hB.2 i hi⟩
