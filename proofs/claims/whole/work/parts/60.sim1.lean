/-! THE TWO SIDES AGREE -/
theorem in_eq (v lo hi : Int32) : F_X9_isWithin v lo hi = F_X10_in v lo hi := rfl
theorem geoC_ : ∀ p : Fin 576, F_X2_cylinderOfPlace (nI p.1) = F_X10_cylinderAt (nI p.1) := by decide +kernel
theorem geoT_ : ∀ p : Fin 576, F_X2_sectorTicksAt (nI p.1) = F_X10_ticksOf (F_X10_cylinderAt (nI p.1)) := by decide +kernel
theorem geoC {p : Int32} (h : plc p) : F_X2_cylinderOfPlace p = F_X10_cylinderAt p := by
  obtain ⟨k, hk, rfl⟩ := h
  exact geoC_ ⟨k, by omega⟩
theorem geoT {p : Int32} (h : plc p) : F_X2_sectorTicksAt p = F_X10_ticksOf (F_X10_cylinderAt p) := by
  obtain ⟨k, hk, rfl⟩ := h
  exact geoT_ ⟨k, by omega⟩
theorem nI_nm1 {k : Nat} (h : k < 2 ^ 31) : ¬ nI k = -1 := by
  intro e
  have := congrArg Int32.toInt e
  rw [nI_toInt h] at this
  have h2 : (-1 : Int32).toInt = -1 := by decide
  omega
/-- the drive and the reference's numbers -/
def RD (σ : Sg) (g : Nat → Int32) : Prop := (σ 2 0 = g 0 ∧ σ 2 1 = g 1 ∧ σ 2 2 = g 2 ∧ σ 2 3 = g 3) ∧ (σ 2 4 = g 8 ∧ σ 2 5 = g 9 ∧ σ 2 10 = g 11) ∧ (σ 2 6 = g 13 ∧ σ 2 7 = g 14 ∧ σ 2 8 = g 15 ∧ σ 2 9 = g 16) ∧ (∀ k, k < 4 → σ 3 k = g (20 + k)) ∧ ∀ p, p < 576 → σ 4 p = g (1100 + p)
theorem place_L {σ μ : Sg} {b : Int32} (h11 : σ 2 10 = μ 25 11) (hm : ∃ m : Nat, m ≤ 4 ∧ μ 25 11 = nI m) (h3 : ∀ k, k < 4 → σ 3 k = μ 25 (20 + k)) : ∀ n j : Nat, j + n = 5 → j ≤ 4 → (if L_X1_spareOfBlock_2 σ b n (nI j) = -1 then b else L_X1_spareOfBlock_2 σ b n (nI j)) = L_X10_place_2 μ b n (nI j) := by
  obtain ⟨m, hm4, em⟩ := hm
  intro n
  induction n with
  | zero => intro j h1 h2; omega
  | succ n ih =>
    intro j h1 h2
    rw [L_X1_spareOfBlock_2, L_X10_place_2, h11]
    by_cases c1 : μ 25 11 ≤ nI j
    · rw [if_pos c1, if_pos c1, if_pos rfl]
    · have hj : j < m := gt_of_nle em (y := nI j) rfl (by omega) (by omega) c1
      rw [if_neg c1, if_neg c1, if_neg (show ¬ (4 : Int32) ≤ nI j by rw [show (4 : Int32) = nI 4 from rfl, nI_leI (by omega) (by omega)]; omega)]
      rw [nI_clamp (by omega), h3 j (by omega), show ((20 : Int32) + nI j).toNatClampNeg = 20 + j from tnA (c := 20) (by omega)]
      by_cases c2 : μ 25 (20 + j) = b
      · rw [if_pos c2, if_pos c2, if_neg (by rw [show (572 : Int32) = nI 572 from rfl, nI_add]; exact nI_nm1 (by omega))]
      · rw [if_neg c2, if_neg c2, nI_1 j]
        exact ih (j + 1) (by omega) (by omega)
theorem place_eq {σ μ : Sg} {b : Int32} (h : RD σ (μ 25)) (hm : ∃ m : Nat, m ≤ 4 ∧ μ 25 11 = nI m) : F_X1_placeOfBlock σ b = F_X10_place μ b := place_L h.2.1.2.2 hm h.2.2.2.1 5 0 rfl (by omega)
def rt : Nat → Int32 → Int32 → Int32
  | 0, _, x => x
  | n + 1, ds, x => if (64 : Int32) ≤ x then x else if ds < (x + 1) * (x + 1) then x else rt n ds (x + 1)
theorem rt_root_ : ∀ d : Fin 64, d.1 ≠ 0 → rt 64 (nI d.1) 1 = F_X10_rootOf (nI d.1) := by decide +kernel
theorem seek_L {σ : Sg} {fr to ds : Int32} : ∀ n j : Nat, j + n = 65 → j ≤ 64 → L_X1_ticksOfSeek_24 σ fr to n ds (nI j) = (σ 2 0 + σ 2 1 * rt n ds (nI j)) + σ 2 2 * ds := by
  intro n
  induction n with
  | zero => intro j h1 h2; omega
  | succ n ih =>
    intro j h1 h2
    rw [L_X1_ticksOfSeek_24, rt]
    by_cases c1 : (64 : Int32) ≤ nI j
    · rw [if_pos c1, if_pos c1]
    · have hj := gt_of_nle (a := 64) (b := j) rfl rfl (by omega) (by omega) c1
      rw [if_neg c1, if_neg c1]
      by_cases c2 : ds < (nI j + 1) * (nI j + 1)
      · rw [if_pos c2, if_pos c2]
      · rw [if_neg c2, if_neg c2, nI_1 j]
        exact ih (j + 1) (by omega) (by omega)
theorem seek_eq {σ μ : Sg} {fr to : Int32} (h : RD σ (μ 25)) (h1 : cyl fr) (h2 : cyl to) : F_X1_ticksOfSeek σ fr to = F_X10_seek μ fr to := by
  have key : ∀ ds : Int32, (∃ d : Nat, d ≤ 63 ∧ ds = nI d) → ¬ ds = 0 → L_X1_ticksOfSeek_24 σ fr to 64 ds 1 = (μ 25 0 + μ 25 1 * F_X10_rootOf ds) + μ 25 2 * ds := by
    intro ds hd hne
    obtain ⟨d, hd, rfl⟩ := hd
    have e := seek_L (σ := σ) (fr := fr) (to := to) (ds := nI d) 64 1 rfl (by omega)
    rw [show nI 1 = (1 : Int32) from rfl] at e
    rw [e, rt_root_ ⟨d, by omega⟩ (fun h0 => hne (by rw [show d = 0 from h0]; rfl)), h.1.1, h.1.2.1, h.1.2.2.1]
  unfold F_X1_ticksOfSeek F_X10_seek
  by_cases c1 : to ≤ fr
  · rw [if_pos c1, if_pos c1]
    by_cases c2 : fr - to = 0
    · rw [if_pos c2, if_pos c2]
    · rw [if_neg c2, if_neg c2]; exact key _ (dist_ge h1 h2 c1) c2
  · rw [if_neg c1, if_neg c1]
    by_cases c2 : to - fr = 0
    · rw [if_pos c2, if_pos c2]
    · rw [if_neg c2, if_neg c2]; exact key _ (dist_ge h2 h1 (Int32.le_of_lt (Int32.not_le.mp c1))) c2
theorem geoS_ : ∀ p : Fin 576, F_X2_sectorOfPlace (nI p.1) = nI p.1 - F_X10_firstOf (F_X10_cylinderAt (nI p.1)) := by decide +kernel
theorem geoS {p : Int32} (h : plc p) : F_X2_sectorOfPlace p = p - F_X10_firstOf (F_X10_cylinderAt p) := by
  obtain ⟨k, hk, rfl⟩ := h
  exact geoS_ ⟨k, by omega⟩
theorem angle_eq {σ μ : Sg} {p : Int32} (h : RD σ (μ 25)) (hp : plc p) : F_X1_angleOfPlace σ p = F_X10_angleAt μ p := by
  unfold F_X1_angleOfPlace F_X10_angleAt
  rw [geoS hp, geoT hp, geoC hp, h.1.2.2.2]
/-- waits: the angle a below 120, the time t not below 0 -/
theorem wait_num : ∀ a : Fin 120, ∀ r : Fin 120, F_J9_floorMod_7cf53 (nI a.1 - nI r.1) 120 = ((nI a.1 - nI r.1) + 120) - ((nI a.1 - nI r.1) + 120) / 120 * 120 := by decide +kernel
