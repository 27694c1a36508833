theorem nI_mulN (a b : Nat) : nI a * nI b = nI (a * b) := (Int32.ofNat_mul a b).symm
theorem cylN_ : ∀ p : Fin 576, 0 ≤ (F_X10_cylinderAt (nI p.1)).toInt ∧ (F_X10_cylinderAt (nI p.1)).toInt ≤ 63 := by decide +kernel
theorem secN_ : ∀ p : Fin 576, 0 ≤ ((nI p.1 - F_X10_firstOf (F_X10_cylinderAt (nI p.1))) * F_X10_ticksOf (F_X10_cylinderAt (nI p.1))).toInt ∧ ((nI p.1 - F_X10_firstOf (F_X10_cylinderAt (nI p.1))) * F_X10_ticksOf (F_X10_cylinderAt (nI p.1))).toInt < 120 := by decide +kernel
theorem ticN_ : ∀ p : Fin 576, 0 ≤ (F_X10_ticksOf (F_X10_cylinderAt (nI p.1))).toInt ∧ (F_X10_ticksOf (F_X10_cylinderAt (nI p.1))).toInt ≤ 20 := by decide +kernel
theorem rootN_ : ∀ d : Fin 64, 0 ≤ (F_X10_rootOf (nI d.1)).toInt ∧ (F_X10_rootOf (nI d.1)).toInt ≤ 8 := by decide +kernel
theorem nI_bd {x : Int32} {B : Nat} (h1 : 0 ≤ x.toInt) (h2 : x.toInt ≤ B) (hB : B < 2 ^ 31) : ∃ k : Nat, k ≤ B ∧ x = nI k :=
  ⟨x.toInt.toNat, by omega, i32_toInt_inj (by rw [nI_toInt (by omega)]; omega)⟩
/-- the ranges of the curve, the skew and the clock -/
def NU (g : Nat → Int32) : Prop := (∃ a : Nat, a ≤ 50 ∧ g 0 = nI a) ∧ (∃ a : Nat, a ≤ 20 ∧ g 1 = nI a) ∧ (∃ a : Nat, a ≤ 9 ∧ g 2 = nI a) ∧ (∃ a : Nat, a ≤ 40 ∧ g 3 = nI a) ∧ ∃ a : Nat, a ≤ 200000 ∧ g 8 = nI a
theorem angle_rng {μ : Sg} {p : Int32} (hp : plc p) (hs : ∃ a : Nat, a ≤ 40 ∧ μ 25 3 = nI a) : 0 ≤ (F_X10_angleAt μ p).toInt ∧ (F_X10_angleAt μ p).toInt < 120 := by
  obtain ⟨k, hk, rfl⟩ := hp
  obtain ⟨a, ha, ea⟩ := hs
  obtain ⟨c1, c2⟩ := cylN_ ⟨k, by omega⟩
  obtain ⟨s1, s3⟩ := secN_ ⟨k, by omega⟩
  obtain ⟨cc, hcc, ec⟩ := nI_bd c1 (B := 63) c2 (by omega)
  obtain ⟨ss, hss, es⟩ := nI_bd s1 (B := 119) (by omega) (by omega)
  unfold F_X10_angleAt
  have e1 : ((nI k - F_X10_firstOf (F_X10_cylinderAt (nI k))) * F_X10_ticksOf (F_X10_cylinderAt (nI k))) + F_X10_cylinderAt (nI k) * μ 25 3 = nI (ss + cc * a) := by
    rw [show (nI k - F_X10_firstOf (F_X10_cylinderAt (nI k))) * F_X10_ticksOf (F_X10_cylinderAt (nI k)) = nI ss from es, show F_X10_cylinderAt (nI k) = nI cc from ec, ea, nI_mulN, nI_add]
  have hb : cc * a ≤ 63 * 40 := Nat.mul_le_mul hcc ha
  rw [e1, rem120, nI_toInt (by omega), if_pos (by omega)]
  omega
theorem seek_rng {μ : Sg} {fr to : Int32} (h : NU (μ 25)) (h1 : cyl fr) (h2 : cyl to) : ∃ w : Nat, w ≤ 777 ∧ F_X10_seek μ fr to = nI w := by
  obtain ⟨⟨a0, ha0, e0⟩, ⟨a1, ha1, e1⟩, ⟨a2, ha2, e2⟩, -⟩ := h
  have key : ∀ ds : Int32, (∃ d : Nat, d ≤ 63 ∧ ds = nI d) → ∃ w : Nat, w ≤ 777 ∧ (μ 25 0 + μ 25 1 * F_X10_rootOf ds) + μ 25 2 * ds = nI w := by
    intro ds hd
    obtain ⟨d, hd, rfl⟩ := hd
    obtain ⟨r1, r2⟩ := rootN_ ⟨d, by omega⟩
    obtain ⟨r, hr, er⟩ := nI_bd r1 (B := 8) r2 (by omega)
    have b1 : a1 * r ≤ 20 * 8 := Nat.mul_le_mul ha1 hr
    have b2 : a2 * d ≤ 9 * 63 := Nat.mul_le_mul ha2 hd
    exact ⟨a0 + a1 * r + a2 * d, by omega, by rw [e0, e1, e2, show F_X10_rootOf (nI d) = nI r from er, nI_mulN, nI_mulN, nI_add, nI_add]⟩
  unfold F_X10_seek
  by_cases c1 : to ≤ fr
  · rw [if_pos c1]
    by_cases c2 : fr - to = 0
    · rw [if_pos c2]; exact ⟨0, by omega, rfl⟩
    · rw [if_neg c2]; exact key _ (dist_ge h1 h2 c1)
  · rw [if_neg c1]
    by_cases c2 : to - fr = 0
    · rw [if_pos c2]; exact ⟨0, by omega, rfl⟩
    · rw [if_neg c2]; exact key _ (dist_ge h2 h1 (Int32.le_of_lt (Int32.not_le.mp c1)))
theorem waits_eq {σ μ : Sg} {t p : Int32} (h : RD σ (μ 25)) (hu : NU (μ 25)) (hp : plc p) (ht : ∃ T : Nat, T ≤ 300000 ∧ t = nI T) : F_X1_ticksOfWait (F_X1_angleOfPlace σ p) t = F_X10_waits μ t p := by
  obtain ⟨T, hT, rfl⟩ := ht
  rw [angle_eq h hp, wait_eq (angle_rng hp hu.2.2.2.1) ⟨by rw [nI_toInt (by omega)]; omega, by rw [nI_toInt (by omega)]; omega⟩]
  rfl
theorem waits_rng {σ μ : Sg} {t p : Int32} (h : RD σ (μ 25)) (hu : NU (μ 25)) (hp : plc p) (ht : ∃ T : Nat, T ≤ 300000 ∧ t = nI T) : ∃ w : Nat, w ≤ 119 ∧ F_X10_waits μ t p = nI w := by
  rw [← waits_eq h hu hp ht]
  unfold F_X1_ticksOfWait
  have e := fmod120 (F_X1_angleOfPlace σ p - t)
  exact nI_bd (B := 119) (by omega) (by omega) (by omega)
theorem clk_t {μ : Sg} {fr to : Int32} (hu : NU (μ 25)) (h1 : cyl fr) (h2 : cyl to) : ∃ T : Nat, T ≤ 300000 ∧ μ 25 8 + F_X10_seek μ fr to = nI T := by
  obtain ⟨w, hw, ew⟩ := seek_rng hu h1 h2
  obtain ⟨c, hc, ec⟩ := hu.2.2.2.2
  exact ⟨c + w, by omega, by rw [ew, ec, nI_add]⟩
theorem cancel4 (c s w t : Int32) : (((c + s) + w) + t) - c = (s + w) + t := by grind
theorem takes_eq {σ μ : Sg} {b : Int32} (h : RD σ (μ 25)) (hu : NU (μ 25)) (ha : cyl (μ 25 9)) (hm : ∃ m : Nat, m ≤ 4 ∧ μ 25 11 = nI m) (hp : plc (F_X10_place μ b)) : F_X1_ticksToAccess σ (F_X1_placeOfBlock σ b) = F_X10_takes μ b := by
  rw [place_eq h hm]
  have hc : cyl (F_X10_cylinderAt (F_X10_place μ b)) := by
    obtain ⟨k, hk, e⟩ := hp
    rw [e]
    obtain ⟨c1, c2⟩ := cylN_ ⟨k, by omega⟩
    exact nI_bd c1 (B := 63) c2 (by omega)
  unfold F_X1_ticksToAccess F_X10_takes F_X10_ends
  rw [geoC hp, geoT hp, h.2.1.1, h.2.1.2.1, seek_eq h ha hc, waits_eq h hu hp (clk_t hu ha hc), cancel4]
