theorem S_setPolicy {σ μ : Sg} {po : Int32} (h : SIM σ μ) : hcd [1] (X_X9_setPolicy σ po) = (F_X10_setPolicy μ po).2 24 1 ∧ (X_X9_setPolicy σ po = 0 → (F_X9_setPolicy σ po).1 = (F_X10_setPolicy μ po).1) ∧ SIM (F_X9_setPolicy σ po).2 (F_X10_setPolicy μ po).2 := by
  unfold X_X9_setPolicy F_X9_setPolicy F_X10_setPolicy
  rw [in_eq]
  by_cases c : F_X10_in po 0 6 = 0
  · rw [if_pos c, if_pos c, if_pos c]
    exact ⟨rfl, fun h0 => absurd h0 (by decide), (h.t 0).t 1⟩
  · rw [if_neg c, if_neg c, if_neg c]
    refine ⟨rfl, fun _ => h.1.2.2.2.2.1.1, ?_⟩
    obtain ⟨⟨hd, hm, hu, hq, hs, hc⟩, ht⟩ := h
    show SIM (s2 σ 7 0 po) (s2 (s2 μ 24 1 0) 25 4 po)
    exact SIM.low (σ := σ) (μ := μ) ⟨⟨hd, hm, hu, hq, hs, hc⟩, ht⟩ (fun i hi => (s2_n (by omega)).trans rfl) (fun c _ h7 _ => s2_f h7) rfl rfl hd.1 ⟨hd.2.1.1, hd.2.1.2.1⟩ hd.2.2.1 hm.2.2.1 hm.2.2.2.1 hm.2.2.2.2.1 hu ⟨rfl, hs.2⟩ ⟨hc.1, hc.2.1⟩ ht
theorem in1_bd {v : Int32} {B : Nat} {hi : Int32} (hB : B < 2 ^ 31) (e : hi = nI B) (h : ¬ F_X10_in v 1 hi = 0) : ∃ a : Nat, 1 ≤ a ∧ a ≤ B ∧ v = nI a := by
  obtain ⟨a, b⟩ := in_of h
  have h0 : (0 : Int32) ≤ v := Int32.le_trans (by decide) a
  rw [e] at b
  obtain ⟨j, hj, ej⟩ := nI_rng hB ⟨h0, b⟩
  have := le_of_le (x := 1) (a := 1) rfl ej (by omega) (by omega) a
  exact ⟨j, this, by omega, ej⟩
theorem nI_n0 {a : Nat} (h1 : 1 ≤ a) (h2 : a < 2 ^ 31) : ¬ nI a = 0 := by
  intro e
  have := congrArg Int32.toInt e
  rw [nI_toInt h2, show (0 : Int32).toInt = 0 by decide] at this
  omega
theorem S_setBuckets {σ μ : Sg} {wi ag : Int32} (h : SIM σ μ) : hcd [1] (X_X9_setBuckets σ wi ag) = F_X10_setBuckets μ wi ag 24 1 ∧ SIM (F_X9_setBuckets σ wi ag) (F_X10_setBuckets μ wi ag) := by
  unfold X_X9_setBuckets F_X9_setBuckets F_X10_setBuckets
  rw [in_eq, in_eq]
  by_cases c : F_X10_in wi 1 999 = 0
  · rw [if_pos c, if_pos c, if_pos c]
    exact ⟨rfl, (h.t 0).t 1⟩
  · rw [if_neg c, if_neg c, if_neg c]
    by_cases c2 : F_X10_in ag 1 9999 = 0
    · rw [if_pos c2, if_pos c2, if_pos c2]
      exact ⟨rfl, (h.t 0).t 1⟩
    · rw [if_neg c2, if_neg c2, if_neg c2]
      refine ⟨rfl, ?_⟩
      obtain ⟨a, ha, ha2, rfl⟩ := in1_bd (B := 999) (by decide) rfl c
      obtain ⟨b, hb, hb2, rfl⟩ := in1_bd (B := 9999) (by decide) rfl c2
      obtain ⟨⟨hd, hm, hu, hq, hs, hc⟩, ht⟩ := h
      exact SIM.low (σ := σ) (μ := μ) ⟨⟨hd, hm, hu, hq, hs, hc⟩, ht⟩ (fun i hi => (s2_n (by omega)).trans (s2_n (by omega))) (fun c _ h7 _ => (s2_f h7).trans (s2_f h7)) rfl rfl hd.1 ⟨hd.2.1.1, hd.2.1.2.1⟩ hd.2.2.1 hm.2.2.1 (nI_n0 ha (by omega)) (nI_n0 hb (by omega)) hu ⟨hs.1, hs.2.1, rfl, rfl, hs.2.2.2.2⟩ ⟨hc.1, hc.2.1⟩ ht
theorem S_setCurve {σ μ : Sg} {s r li : Int32} (h : SIM σ μ) : hcd [1] (X_X9_setCurve σ s r li) = F_X10_setCurve μ s r li 24 1 ∧ SIM (F_X9_setCurve σ s r li) (F_X10_setCurve μ s r li) := by
  unfold X_X9_setCurve F_X9_setCurve F_X10_setCurve
  rw [in_eq, in_eq, in_eq]
  by_cases c : F_X10_in s 0 50 = 0
  · rw [if_pos c, if_pos c, if_pos c]
    exact ⟨rfl, (h.t 0).t 1⟩
  rw [if_neg c, if_neg c, if_neg c]
  by_cases c2 : F_X10_in r 0 20 = 0
  · rw [if_pos c2, if_pos c2, if_pos c2]
    exact ⟨rfl, (h.t 0).t 1⟩
  rw [if_neg c2, if_neg c2, if_neg c2]
  by_cases c3 : F_X10_in li 0 9 = 0
  · rw [if_pos c3, if_pos c3, if_pos c3]
    exact ⟨rfl, (h.t 0).t 1⟩
  rw [if_neg c3, if_neg c3, if_neg c3]
  refine ⟨rfl, ?_⟩
  obtain ⟨⟨hd, hm, hu, hq, hs, hc⟩, ht⟩ := h
  exact SIM.low (σ := σ) (μ := μ) ⟨⟨hd, hm, hu, hq, hs, hc⟩, ht⟩ (fun i hi => ((s2_n (by omega)).trans (s2_n (by omega))).trans (s2_n (by omega))) (fun c h2 _ _ => ((s2_f h2).trans (s2_f h2)).trans (s2_f h2)) rfl rfl ⟨rfl, rfl, rfl, hd.1.2.2.2⟩ ⟨hd.2.1.1, hd.2.1.2.1⟩ hd.2.2.1 hm.2.2.1 hm.2.2.2.1 hm.2.2.2.2.1
    ⟨in_bd (B := 50) (by decide) rfl c, in_bd (B := 20) (by decide) rfl c2, in_bd (B := 9) (by decide) rfl c3, hu.2.2.2.1, hu.2.2.2.2⟩ hs ⟨hc.1, hc.2.1⟩ ht
theorem S_seekTime {σ μ : Sg} {fr to : Int32} (h : SIM σ μ) : hcd [3] (X_X9_seekTime σ fr to) = (F_X10_seekTime μ fr to).2 24 1 ∧ (X_X9_seekTime σ fr to = 0 → F_X9_seekTime σ fr to = (F_X10_seekTime μ fr to).1) ∧ SIM σ (F_X10_seekTime μ fr to).2 := by
  unfold X_X9_seekTime F_X9_seekTime F_X10_seekTime
  rw [in_eq, in_eq]
  by_cases c : F_X10_in fr 0 63 = 0
  · rw [if_pos c, if_pos c, if_pos c]
    exact ⟨rfl, fun h0 => absurd h0 (by decide), (h.t 0).t 1⟩
  rw [if_neg c, if_neg c, if_neg c]
  by_cases c2 : F_X10_in to 0 63 = 0
  · rw [if_pos c2, if_pos c2, if_pos c2]
    exact ⟨rfl, fun h0 => absurd h0 (by decide), (h.t 0).t 1⟩
  rw [if_neg c2, if_neg c2, if_neg c2]
  exact ⟨rfl, fun _ => seek_eq (μ := s2 μ 24 1 0) h.1.1 (in_bd (B := 63) (by decide) rfl c) (in_bd (B := 63) (by decide) rfl c2), h.t 0⟩
theorem S_placeOf {σ μ : Sg} {b : Int32} (h : SIM σ μ) : hcd [3] (X_X9_placeOf σ b) = (F_X10_placeOf μ b).2 24 1 ∧ (X_X9_placeOf σ b = 0 → F_X9_placeOf σ b = (F_X10_placeOf μ b).1) ∧ SIM σ (F_X10_placeOf μ b).2 := by
  unfold X_X9_placeOf F_X9_placeOf F_X10_placeOf X_X9_requireBlock
  rw [show F_X9_isBlock b = F_X10_isBlock b from rfl]
  by_cases c : F_X10_isBlock b = 0
  · rw [if_pos c, if_pos c, if_neg (by decide)]
    exact ⟨rfl, fun h0 => absurd h0 (by decide), (h.t 0).t 1⟩
  · rw [if_neg c, if_neg c, if_pos rfl, if_pos rfl]
    exact ⟨rfl, fun _ => place_eq (μ := s2 μ 24 1 0) h.1.1 h.1.2.1.1, h.t 0⟩
theorem S_cylinderOf {σ μ : Sg} {b : Int32} (h : SIM σ μ) : hcd [3] (X_X9_cylinderOf σ b) = (F_X10_cylinderOf μ b).2 24 1 ∧ (X_X9_cylinderOf σ b = 0 → F_X9_cylinderOf σ b = (F_X10_cylinderOf μ b).1) ∧ SIM σ (F_X10_cylinderOf μ b).2 := by
  unfold X_X9_cylinderOf F_X9_cylinderOf F_X10_cylinderOf X_X9_requireBlock
  rw [show F_X9_isBlock b = F_X10_isBlock b from rfl]
  by_cases c : F_X10_isBlock b = 0
  · rw [if_pos c, if_pos c, if_neg (by decide)]
    exact ⟨rfl, fun h0 => absurd h0 (by decide), (h.t 0).t 1⟩
  · rw [if_neg c, if_neg c, if_pos rfl, if_pos rfl]
    have hp : plc (F_X10_place (s2 μ 24 1 0) b) := place_plc (μ := s2 μ 24 1 0) h.1.2.1.1 (in_bd (B := 571) (by decide) rfl c)
    have e := place_eq (σ := σ) (μ := s2 μ 24 1 0) (b := b) h.1.1 h.1.2.1.1
    refine ⟨rfl, fun _ => ?_, h.t 0⟩
    rw [e]; exact geoC hp
theorem S_sectorOf {σ μ : Sg} {b : Int32} (h : SIM σ μ) : hcd [3] (X_X9_sectorOf σ b) = (F_X10_sectorOf μ b).2 24 1 ∧ (X_X9_sectorOf σ b = 0 → F_X9_sectorOf σ b = (F_X10_sectorOf μ b).1) ∧ SIM σ (F_X10_sectorOf μ b).2 := by
  unfold X_X9_sectorOf F_X9_sectorOf F_X10_sectorOf X_X9_requireBlock
  rw [show F_X9_isBlock b = F_X10_isBlock b from rfl]
  by_cases c : F_X10_isBlock b = 0
  · rw [if_pos c, if_pos c, if_neg (by decide)]
    exact ⟨rfl, fun h0 => absurd h0 (by decide), (h.t 0).t 1⟩
  · rw [if_neg c, if_neg c, if_pos rfl, if_pos rfl]
    have hp : plc (F_X10_place (s2 μ 24 1 0) b) := place_plc (μ := s2 μ 24 1 0) h.1.2.1.1 (in_bd (B := 571) (by decide) rfl c)
    have e := place_eq (σ := σ) (μ := s2 μ 24 1 0) (b := b) h.1.1 h.1.2.1.1
    refine ⟨rfl, fun _ => ?_, h.t 0⟩
    rw [e]; exact geoS hp
theorem S_startAngle {σ μ : Sg} {b : Int32} (h : SIM σ μ) : hcd [3] (X_X9_startAngle σ b) = (F_X10_startAngle μ b).2 24 1 ∧ (X_X9_startAngle σ b = 0 → F_X9_startAngle σ b = (F_X10_startAngle μ b).1) ∧ SIM σ (F_X10_startAngle μ b).2 := by
  unfold X_X9_startAngle F_X9_startAngle F_X10_startAngle X_X9_requireBlock
  rw [show F_X9_isBlock b = F_X10_isBlock b from rfl]
  by_cases c : F_X10_isBlock b = 0
  · rw [if_pos c, if_pos c, if_neg (by decide)]
    exact ⟨rfl, fun h0 => absurd h0 (by decide), (h.t 0).t 1⟩
  · rw [if_neg c, if_neg c, if_pos rfl, if_pos rfl]
    have hp : plc (F_X10_place (s2 μ 24 1 0) b) := place_plc (μ := s2 μ 24 1 0) h.1.2.1.1 (in_bd (B := 571) (by decide) rfl c)
    have e := place_eq (σ := σ) (μ := s2 μ 24 1 0) (b := b) h.1.1 h.1.2.1.1
    refine ⟨rfl, fun _ => ?_, h.t 0⟩
    rw [e]; exact angle_eq (μ := s2 μ 24 1 0) h.1.1 hp
theorem S_accessTime {σ μ : Sg} {b : Int32} (h : SIM σ μ) : hcd [3] (X_X9_accessTime σ b) = (F_X10_accessTime μ b).2 24 1 ∧ (X_X9_accessTime σ b = 0 → F_X9_accessTime σ b = (F_X10_accessTime μ b).1) ∧ SIM σ (F_X10_accessTime μ b).2 := by
  unfold X_X9_accessTime F_X9_accessTime F_X10_accessTime X_X9_requireBlock
  rw [show F_X9_isBlock b = F_X10_isBlock b from rfl]
  by_cases c : F_X10_isBlock b = 0
  · rw [if_pos c, if_pos c, if_neg (by decide)]
    exact ⟨rfl, fun h0 => absurd h0 (by decide), (h.t 0).t 1⟩
  · rw [if_neg c, if_neg c, if_pos rfl, if_pos rfl]
    have hp : plc (F_X10_place (s2 μ 24 1 0) b) := place_plc (μ := s2 μ 24 1 0) h.1.2.1.1 (in_bd (B := 571) (by decide) rfl c)
    have e := place_eq (σ := σ) (μ := s2 μ 24 1 0) (b := b) h.1.1 h.1.2.1.1
    refine ⟨rfl, fun _ => ?_, h.t 0⟩
    exact takes_eq (μ := s2 μ 24 1 0) h.1.1 h.1.2.2.1 h.1.2.1.2.2.1 h.1.2.1.1 hp
theorem S_accessesOf {σ μ : Sg} {b : Int32} (h : SIM σ μ) : hcd [3] (X_X9_accessesOf σ b) = (F_X10_accessesOf μ b).2 24 1 ∧ (X_X9_accessesOf σ b = 0 → F_X9_accessesOf σ b = (F_X10_accessesOf μ b).1) ∧ SIM σ (F_X10_accessesOf μ b).2 := by
  unfold X_X9_accessesOf F_X9_accessesOf F_X10_accessesOf X_X9_requireBlock
  rw [show F_X9_isBlock b = F_X10_isBlock b from rfl]
  by_cases c : F_X10_isBlock b = 0
  · rw [if_pos c, if_pos c, if_neg (by decide)]
    exact ⟨rfl, fun h0 => absurd h0 (by decide), (h.t 0).t 1⟩
  · rw [if_neg c, if_neg c, if_pos rfl, if_pos rfl]
    have hp : plc (F_X10_place (s2 μ 24 1 0) b) := place_plc (μ := s2 μ 24 1 0) h.1.2.1.1 (in_bd (B := 571) (by decide) rfl c)
    have e := place_eq (σ := σ) (μ := s2 μ 24 1 0) (b := b) h.1.1 h.1.2.1.1
    refine ⟨rfl, fun _ => ?_, h.t 0⟩
    rw [e]
    obtain ⟨k, hk, ek⟩ := hp
    rw [ek]
    unfold F_X1_accessesAt
    rw [if_neg (by unfold F_X9_isWithin; rw [if_neg (by rw [show (0 : Int32) = nI 0 from rfl, nI_ltI (by omega) (by omega)]; omega), if_neg (by rw [show (575 : Int32) = nI 575 from rfl, nI_ltI (by omega) (by omega)]; omega)]; decide), nI_clamp (by omega)]
    show σ 4 k = μ 25 ((1100 : Int32) + nI k).toNatClampNeg
    rw [show ((1100 : Int32) + nI k).toNatClampNeg = 1100 + k from tnA (c := 1100) (by omega)]
    exact h.1.1.2.2.2.2 k (by omega)
