/-! THE KEYS -/
def KR (A B : Nat) (kc kr : Int32) : Prop := ∃ h t : Nat, h ≤ 3 ∧ t < A ∧ kc = nI (A * h + t) ∧ kr = nI (B * h + t)
theorem KR.le {A B : Nat} {k1 r1 k2 r2 : Int32} (hA : A ≤ B) (hB : B ≤ 100000) (h1 : KR A B k1 r1) (h2 : KR A B k2 r2) : k1 ≤ k2 ↔ r1 ≤ r2 := by
  obtain ⟨a, t, ha, ht, rfl, rfl⟩ := h1
  obtain ⟨b, s, hb, hs, rfl, rfl⟩ := h2
  have ha4 : a = 0 ∨ a = 1 ∨ a = 2 ∨ a = 3 := by omega
  have hb4 : b = 0 ∨ b = 1 ∨ b = 2 ∨ b = 3 := by omega
  rcases ha4 with rfl | rfl | rfl | rfl <;> rcases hb4 with rfl | rfl | rfl | rfl <;> rw [nI_leI (by omega) (by omega), nI_leI (by omega) (by omega)] <;> omega
theorem KR.big {A B : Nat} {k1 r1 : Int32} (hA : A ≤ 100000) (h1 : KR A B k1 r1) : ¬ (1000000000 : Int32) ≤ k1 := by
  obtain ⟨a, t, ha, ht, rfl, rfl⟩ := h1
  have ha4 : a = 0 ∨ a = 1 ∨ a = 2 ∨ a = 3 := by omega
  rcases ha4 with rfl | rfl | rfl | rfl <;> rw [show (1000000000 : Int32) = nI 1000000000 from rfl, nI_leI (by omega) (by omega)] <;> omega
theorem takes_rng {σ μ : Sg} {b : Int32} (h : SIM σ μ) (hb : blk b) : ∃ t : Nat, t ≤ 916 ∧ F_X10_takes μ b = nI t := by
  have hp := place_plc (μ := μ) h.1.2.1.1 hb
  have ha : cyl (μ 25 9) := h.1.2.1.2.2.1
  obtain ⟨s, hs7, es⟩ := seek_rng h.1.2.2.1 ha (geo_c hp)
  obtain ⟨w, hw7, ew⟩ := waits_rng h.1.1 h.1.2.2.1 hp (clk_t h.1.2.2.1 ha (geo_c hp))
  obtain ⟨p, hp5, ep⟩ := hp
  obtain ⟨t1, t2⟩ := ticN_ ⟨p, by omega⟩
  obtain ⟨t, ht7, et⟩ := nI_bd t1 (B := 20) t2 (by omega)
  have et : F_X10_ticksOf (F_X10_cylinderAt (F_X10_place μ b)) = nI t := by rw [ep]; exact et
  refine ⟨s + w + t, by omega, ?_⟩
  unfold F_X10_takes F_X10_ends
  rw [cancel4, ew, es, et, nI_add, nI_add]
theorem dist_rng {x y : Int32} (hx : cyl x) (hy : cyl y) : ∃ d : Nat, d ≤ 63 ∧ (if 0 ≤ x - y then x - y else -(x - y)) = nI d := by
  obtain ⟨a, ha, rfl⟩ := hx
  obtain ⟨b, hb, rfl⟩ := hy
  have e : (nI a - nI b).toInt = (a : Int) - b := by rw [Int32.toInt_sub, nI_toInt (by omega), nI_toInt (by omega), bm32 (by omega) (by omega)]
  by_cases c : b ≤ a
  · rw [if_pos (by rw [i32le, e, show (0 : Int32).toInt = 0 by decide]; omega)]
    exact ⟨a - b, by omega, i32_toInt_inj (by rw [e, nI_toInt (by omega)]; omega)⟩
  · rw [if_neg (by rw [i32le, e, show (0 : Int32).toInt = 0 by decide]; omega)]
    exact ⟨b - a, by omega, i32_toInt_inj (by rw [Int32.toInt_neg, e, nI_toInt (by omega), bm32 (by omega) (by omega)]; omega)⟩
theorem bucket_rng {σ μ : Sg} {i m : Nat} (h : SIM σ μ) (ha : AR (μ 25)) (hm : m ≤ 80) (em : μ 25 12 = nI m) (hi : i < m) : ∃ b : Nat, b ≤ 3 ∧ F_X10_bucketOf μ (nI i) = nI b := by
  obtain ⟨⟨w, w1, w2, ew⟩, ⟨a, a1, a2, ea⟩, -, a4⟩ := ha
  obtain ⟨⟨ar, har, ear, har2⟩, hd⟩ := (a4 m hm em).2 i hi
  obtain ⟨k, hk, ek⟩ := h.1.2.2.1.2.2.2.2
  rw [ek, nI_toInt (by omega)] at har2
  have dv : ∀ x y : Nat, x < 2 ^ 31 → 1 ≤ y → y < 2 ^ 31 → nI x / nI y = nI (x / y) := fun x y hx hy hy2 => by
    apply i32_toInt_inj
    rw [Int32.toInt_div, nI_toInt hx, nI_toInt hy2, nI_toInt (Nat.lt_of_le_of_lt (Nat.div_le_self x y) hx), ← Int.ofNat_tdiv]
    have hz := Nat.div_le_self x y
    generalize x / y = z at hz
    exact bm32 (by omega) (by omega)
  have sb : ∀ x y : Nat, y ≤ x → nI x - nI y = nI (x - y) := fun x y hxy => by
    have : nI x = nI (x - y) + nI y := by rw [nI_add]; congr 1; omega
    rw [this]; grind
  have ag : (μ 25 8 - μ 25 (190 + i)) / μ 25 6 = nI ((k - ar) / a) := by
    rw [ek, ear, ea, sb _ _ (by omega), dv _ _ (by omega) a1 (by omega)]
  have sub3 : ∀ b : Nat, b ≤ 3 → ∀ q : Nat, q < 2 ^ 30 → ∃ r : Nat, r ≤ 3 ∧ (if 0 ≤ nI b - nI q then nI b - nI q else 0) = nI r := fun b hb q hq => by
    have e : (nI b - nI q).toInt = (b : Int) - q := by rw [Int32.toInt_sub, nI_toInt (by omega), nI_toInt (by omega), bm32 (by omega) (by omega)]
    by_cases c : q ≤ b
    · rw [if_pos (by rw [i32le, e, show (0 : Int32).toInt = 0 by decide]; omega)]
      exact ⟨b - q, by omega, sb _ _ c⟩
    · rw [if_neg (by rw [i32le, e, show (0 : Int32).toInt = 0 by decide]; omega)]
      exact ⟨0, by omega, rfl⟩
  have hq : (k - ar) / a < 2 ^ 30 := by have := Nat.div_le_self (k - ar) a; omega
  unfold F_X10_bucketOf
  rw [show ((270 : Int32) + nI i).toNatClampNeg = 270 + i from tnA (c := 270) (by omega), show ((190 : Int32) + nI i).toNatClampNeg = 190 + i from tnA (c := 190) (by omega), ag]
  have s3 := sub3 3 (by omega) _ hq
  have s0 := sub3 0 (by omega) _ hq
  rw [show nI 3 = (3 : Int32) from rfl] at s3
  rw [show nI 0 = (0 : Int32) from rfl] at s0
  rcases hd with q | ⟨d, hd, q⟩
  · rw [if_pos (by rw [q]; decide)]; exact s3
  · rw [if_neg (by rw [q]; exact nI_nlt0 (by omega))]
    by_cases c : 0 ≤ μ 25 (270 + i) - μ 25 8
    · rw [if_pos c]
      have hkd : k ≤ d := by
        rw [q, ek, i32le, Int32.toInt_sub, nI_toInt (by omega), nI_toInt (by omega), bm32 (by omega) (by omega), show (0 : Int32).toInt = 0 by decide] at c
        omega
      have el : (μ 25 (270 + i) - μ 25 8) / μ 25 5 = nI ((d - k) / w) := by rw [q, ek, ew, sb _ _ hkd, dv _ _ (by omega) w1 (by omega)]
      have := Nat.div_le_self (d - k) w
      rw [el]
      by_cases c2 : nI ((d - k) / w) ≤ 3
      · rw [if_pos c2]
        exact sub3 _ (le_of_le (y := 3) (b := 3) rfl rfl (by omega) (by omega) c2) _ hq
      · rw [if_neg c2]; exact s3
    · rw [if_neg c]; exact s0
