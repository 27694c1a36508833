/-! the search of the reference: its depth D falls -/
def FRS (μ μ' : Sg) : Prop := μ' 25 = μ 25 ∧ μ' 29 = μ 29 ∧ μ' 24 7 = μ 24 7 ∧ μ' 24 9 = μ 24 9
theorem FRS.rf (μ : Sg) : FRS μ μ := ⟨rfl, rfl, rfl, rfl⟩
theorem FRS.tr {a b c : Sg} (h : FRS a b) (h2 : FRS b c) : FRS a c := ⟨h2.1.trans h.1, h2.2.1.trans h.2.1, h2.2.2.1.trans h.2.2.1, h2.2.2.2.trans h.2.2.2⟩
def FEW (μ : Sg) (f : Nat) : Prop := f ≤ 6 ∧ μ 24 7 = nI f ∧ ∀ i, i < f → rq (μ 29 i)
def GP (D : Nat) (μ : Sg) (k am : Int32) : Prop := MOKg (μ 25) ∧ cyl am ∧ ∃ f j : Nat, FEW μ f ∧ j ≤ f ∧ k = nI j ∧ f - j < D
theorem FEW.mv {μ μ' : Sg} {f : Nat} (h : FEW μ f) (r : FRS μ μ') : FEW μ' f := ⟨h.1, by rw [r.2.2.1]; exact h.2.1, fun i hi => by rw [r.2.1]; exact h.2.2 i hi⟩
theorem go_rq {μ : Sg} {f i : Nat} {x : Int32} (h : FEW μ f) (ei : x = nI i) (q : i < f) : rq (μ 29 x.toNatClampNeg) := by
  have := h.1
  rw [ei, nI_clamp (by omega)]; exact h.2.2 i q
theorem go_frs {rc : Sg → Int32 → Int32 → Int32 → Sg} (hfr : ∀ μ k t a, FRS μ (rc μ k t a)) {μ : Sg} {i j : Nat} {r k e a : Int32} : FRS μ (s2 (rc (s2 (s2 μ 32 i 1) 30 j r) k e a) 32 i 0) := ((FRS.tr (b := s2 (s2 μ 32 i 1) 30 j r) ⟨rfl, rfl, rfl, rfl⟩ (hfr _ _ _ _)).tr ⟨rfl, rfl, rfl, rfl⟩)
theorem go_next {D : Nat} {μ μ' : Sg} {k : Int32} {r : Int32} {f j : Nat} (hM : MOKg (μ 25)) (hF : FEW μ f) (hR : FRS μ μ') (hr : rq r) (hj : j ≤ f) (ek : k = nI j) (hne : ¬ k = μ 24 7) (hD : f - j < D + 1) : GP D μ' (k + 1) (F_X10_cylinder μ' r) := by
  have hM' : MOKg (μ' 25) := by rw [hR.1]; exact hM
  have h6 := hF.1
  have hlt : j < f := by
    rcases Nat.lt_or_ge j f with q | q
    · exact q
    · exact absurd (by rw [ek, hF.2.1, show j = f by omega]) hne
  exact ⟨hM', cyl_of hM' hr, f, j + 1, hF.mv hR, by omega, by rw [ek]; exact nI_1 j, by omega⟩
def L_X10_goes_64 (rc : Sg → Int32 → Int32 → Int32 → Sg) (μ : Sg) (k : Int32) (t : Int32) (am : Int32) : Nat → Int32 → Sg → Sg
  | 0, _, _ => μ
  | n + 1, x, μ1 => (if (μ1 24 7) ≤ x then μ1 else (if (μ1 32 (x).toNatClampNeg) = 0 then (if (μ1 24 9) = 0 then L_X10_goes_64 rc μ k t am n (x + (1 : Int32)) (s2 (rc (s2 (s2 μ1 32 (x).toNatClampNeg (1 : Int32)) 30 (k).toNatClampNeg (μ1 29 (x).toNatClampNeg)) (k + (1 : Int32)) (F_X10_ends μ1 t am (F_X10_place μ1 (μ1 25 ((110 : Int32) + (μ1 29 (x).toNatClampNeg)).toNatClampNeg))) (F_X10_cylinder (s2 (s2 μ1 32 (x).toNatClampNeg (1 : Int32)) 30 (k).toNatClampNeg (μ1 29 (x).toNatClampNeg)) (μ1 29 (x).toNatClampNeg))) 32 (x).toNatClampNeg (0 : Int32)) else (if (μ1 25 ((270 : Int32) + (μ1 29 (x).toNatClampNeg)).toNatClampNeg) < 0 then L_X10_goes_64 rc μ k t am n (x + (1 : Int32)) (s2 (rc (s2 (s2 μ1 32 (x).toNatClampNeg (1 : Int32)) 30 (k).toNatClampNeg (μ1 29 (x).toNatClampNeg)) (k + (1 : Int32)) (F_X10_ends μ1 t am (F_X10_place μ1 (μ1 25 ((110 : Int32) + (μ1 29 (x).toNatClampNeg)).toNatClampNeg))) (F_X10_cylinder (s2 (s2 μ1 32 (x).toNatClampNeg (1 : Int32)) 30 (k).toNatClampNeg (μ1 29 (x).toNatClampNeg)) (μ1 29 (x).toNatClampNeg))) 32 (x).toNatClampNeg (0 : Int32)) else (if (F_X10_ends μ1 t am (F_X10_place μ1 (μ1 25 ((110 : Int32) + (μ1 29 (x).toNatClampNeg)).toNatClampNeg))) ≤ (μ1 25 ((270 : Int32) + (μ1 29 (x).toNatClampNeg)).toNatClampNeg) then L_X10_goes_64 rc μ k t am n (x + (1 : Int32)) (s2 (rc (s2 (s2 μ1 32 (x).toNatClampNeg (1 : Int32)) 30 (k).toNatClampNeg (μ1 29 (x).toNatClampNeg)) (k + (1 : Int32)) (F_X10_ends μ1 t am (F_X10_place μ1 (μ1 25 ((110 : Int32) + (μ1 29 (x).toNatClampNeg)).toNatClampNeg))) (F_X10_cylinder (s2 (s2 μ1 32 (x).toNatClampNeg (1 : Int32)) 30 (k).toNatClampNeg (μ1 29 (x).toNatClampNeg)) (μ1 29 (x).toNatClampNeg))) 32 (x).toNatClampNeg (0 : Int32)) else L_X10_goes_64 rc μ k t am n (x + (1 : Int32)) μ1))) else L_X10_goes_64 rc μ k t am n (x + (1 : Int32)) μ1))
def L_X10_goes_31 (rc : Sg → Int32 → Int32 → Int32 → Sg) (μ : Sg) (k : Int32) (t : Int32) (am : Int32) : Nat → Int32 → Sg → Sg
  | 0, _, _ => μ
  | n + 1, x, μ1 => (if (μ1 24 7) ≤ x then μ1 else L_X10_goes_31 rc μ k t am n (x + (1 : Int32)) (s2 μ1 31 (x).toNatClampNeg (μ1 30 (x).toNatClampNeg)))
def G_X10_goes (rc : Sg → Int32 → Int32 → Int32 → Sg) (μ : Sg) (k : Int32) (t : Int32) (am : Int32) : Sg := (if k = (μ 24 7) then (if (μ 24 8) < 0 then L_X10_goes_31 rc μ k t am 7 (0 : Int32) (s2 μ 24 8 t) else (if (μ 24 8) ≤ t then μ else L_X10_goes_31 rc μ k t am 7 (0 : Int32) (s2 μ 24 8 t))) else L_X10_goes_64 rc μ k t am 7 (0 : Int32) μ)
abbrev rms_X10_goes (fr lo : Nat) : Room := { frames := fr + 10, cells := 0, slots := 0, locals := lo + 400 }
set_option maxRecDepth 100000 in
set_option maxHeartbeats 4000000 in
theorem m_X10_goes_step (l : Launch) (G : GG) (E : EE) (fr lo : Nat) (rc : Sg → Int32 → Int32 → Int32 → Sg) (D : Nat) (hfr : ∀ μ k t a, FRS μ (rc μ k t a)) (hrec : ∀ (σ μ : Sg) (Y : va_W) (k t am : Int32), GP D μ k am → KK l G yX10_goes cX10_goes 7 none { frames := fr, cells := 0, slots := 0, locals := lo } [.ref (E.1 24), .int k, .int t, .int am] (Wd G E σ μ Y) none (Wd G E σ (rc μ k t am) Y)) (σ μ : Sg) (Y : va_W) (k : Int32) (t : Int32) (am : Int32) (hP : GP (D + 1) μ k am) : KK l G yX10_goes cX10_goes 7 none (rms_X10_goes fr lo) [.ref (E.1 24), .int k, .int t, .int am] (Wd G E σ μ Y) none (Wd G E σ (G_X10_goes rc μ k t am) Y) := by
  refine KE.of (by decide) (Nat.le_of_ble_eq_true rfl) ?_
  intro zp ze zs zm za zb zt zc zA C _
  generalize hQ : MQ zb _ za zs _ _ zA = Q
  have loop_64 : ∀ (n : Nat) (x : Int32) (μ1 : Sg), ((∃ i : Nat, x = nI i ∧ i ≤ 6 ∧ i + n = 7) ∧ FRS μ μ1 ∧ ¬ k = μ 24 7) → G_X10_goes rc μ k t am = L_X10_goes_64 rc μ k t am n x μ1 → V zp l ze (rms_X10_goes fr lo) zs zm za zb zt zc 7 G zA 0 0 Q 64 [(0, .ref (E.1 24)), (1, .int k), (2, .int t), (3, .int am), (4, .int x)] [] (Wd G E σ μ1 Y) := by
    intro n
    induction n with
    | zero =>
      intro x μ1 hI hL
      exact False.elim (by obtain ⟨⟨i, _, h4, hn⟩, _, _⟩ := hI; omega)
    | succ n ih =>
      intro x μ1 hI hL
      obtain ⟨hM, ha, f, jk, hF, hj, ek, hD⟩ := hP
      obtain ⟨⟨i, ei, h6, hn⟩, hR, hkf⟩ := hI
      have hM1 : MOKg (μ1 25) := by rw [hR.1]; exact hM
      have hF1 := hF.mv hR
      have hfi := hF.1
      have hkf1 : ¬ k = μ1 24 7 := by rw [hR.2.2.1]; exact hkf
      refine v_iload C 4 rfl dX10_goes_64 ?_
      refine v_aload_n C 0 rfl dX10_goes_66 ?_
      refine v_get (v := .int (μ1 24 7)) C fl_RX10_158 24 g_24 rfl dX10_goes_67 ?_
      refine v_icmp_ge (tgt := 202) C (by decide) dX10_goes_70 (fun h1 => ?_) (fun h1 => ?_)
      · have e1 : G_X10_goes rc μ k t am = μ1 := by rw [hL, L_X10_goes_64, if_pos h1]
        exact v_Q hQ (v_vret C () trivial rfl (by rw [e1]) (Nat.zero_le _) (Nat.zero_le _) dX10_goes_202)
      · refine v_aload_n C 0 rfl dX10_goes_73 ?_
        refine v_get (v := .ref (E.1 29)) C fl_RX10_26 24 g_24 rfl dX10_goes_74 ?_
        refine v_iload C 4 rfl dX10_goes_77 ?_
        refine v_iald (v := μ1 29 (x).toNatClampNeg) C 29 g_29 (vi_x ei (by omega) (by decide)) rfl dX10_goes_79 ?_
        refine v_istore (lv' := [(5, .int (μ1 29 (x).toNatClampNeg)), (0, .ref (E.1 24)), (1, .int k), (2, .int t), (3, .int am), (4, .int x)]) C (Nat.le_of_ble_eq_true rfl) rfl dX10_goes_80 ?_
        refine v_aload_n C 1 rfl dX10_goes_82 ?_
        refine v_get (v := .ref (E.1 32)) C fl_RX10_35 24 g_24 rfl dX10_goes_83 ?_
        refine v_iload C 5 rfl dX10_goes_86 ?_
        refine v_zald (v := μ1 32 (x).toNatClampNeg) C 32 g_32 (vi_x ei (by omega) (by decide)) rfl dX10_goes_88 ?_
        refine v_if_eq (tgt := 95) C (by decide) dX10_goes_89 (fun h2 => ?_) (fun h2 => ?_)
        · refine v_aload_n C 1 rfl dX10_goes_95 ?_
          refine v_iload_n C 3 rfl dX10_goes_96 ?_
          refine v_iload_n C 4 rfl dX10_goes_97 ?_
          refine v_aload_n C 1 rfl dX10_goes_98 ?_
          refine v_aload_n C 1 rfl dX10_goes_99 ?_
          refine v_get (v := .ref (E.1 25)) C fl_RX10_7 24 g_24 rfl dX10_goes_100 ?_
          refine v_bipush (v := (110 : Int32)) C (by decide) dX10_goes_103 ?_
          refine v_iload C 0 rfl dX10_goes_105 ?_
          refine v_iadd C dX10_goes_107 ?_
          refine v_iald (v := μ1 25 ((110 : Int32) + (μ1 29 (x).toNatClampNeg)).toNatClampNeg) C 25 g_25 (by obtain ⟨q, hq, eq⟩ := (go_rq hF1 ei (gt_of_nle hF1.2.1 ei (by omega) (by omega) h1)); exact vi_add 110 eq (by omega) (by decide)) rfl dX10_goes_108 ?_
          refine v_cV1 (rest := [.int am, .int t, .ref (E.1 24)]) C mv_RX10_89 (m_X10_place l G E σ μ1 Y (μ1 25 ((110 : Int32) + (μ1 29 (x).toNatClampNeg)).toNatClampNeg) hM1.1) 24 g_24 rfl rfl rfl rfl (Nat.le_of_ble_eq_true rfl) ⟨by show 0 + 1 ≤ fr + 10; omega, by show 8 + (3 + 11) + 0 ≤ lo + 400; omega⟩ ⟨rfl, rfl⟩ ⟨Nat.zero_le _, Nat.zero_le _⟩ dX10_goes_109 ?_
          refine v_cV1 (rest := []) C mv_RX10_92 (m_X10_ends l G E σ μ1 Y t am (F_X10_place μ1 (μ1 25 ((110 : Int32) + (μ1 29 (x).toNatClampNeg)).toNatClampNeg)) (geo_s (place_plc hM1.1 (rq_blk hM1 (go_rq hF1 ei (gt_of_nle hF1.2.1 ei (by omega) (by omega) h1))))) ha (geo_c (place_plc hM1.1 (rq_blk hM1 (go_rq hF1 ei (gt_of_nle hF1.2.1 ei (by omega) (by omega) h1)))))) 24 g_24 rfl rfl rfl rfl (Nat.le_of_ble_eq_true rfl) ⟨by show 4 + 1 ≤ fr + 10; omega, by show 8 + (6 + 11) + 85 ≤ lo + 400; omega⟩ ⟨rfl, rfl⟩ ⟨Nat.zero_le _, Nat.zero_le _⟩ dX10_goes_112 ?_
          refine v_istore (lv' := [(6, .int (F_X10_ends μ1 t am (F_X10_place μ1 (μ1 25 ((110 : Int32) + (μ1 29 (x).toNatClampNeg)).toNatClampNeg)))), (5, .int (μ1 29 (x).toNatClampNeg)), (0, .ref (E.1 24)), (1, .int k), (2, .int t), (3, .int am), (4, .int x)]) C (Nat.le_of_ble_eq_true rfl) rfl dX10_goes_115 ?_
          refine v_aload_n C 2 rfl dX10_goes_117 ?_
          refine v_get (v := .int (μ1 24 9)) C fl_RX10_164 24 g_24 rfl dX10_goes_118 ?_
          refine v_if_eq (tgt := 157) C (by decide) dX10_goes_121 (fun h3 => ?_) (fun h3 => ?_)
          · refine v_aload_n C 2 rfl dX10_goes_157 ?_
            refine v_get (v := .ref (E.1 32)) C fl_RX10_35 24 g_24 rfl dX10_goes_158 ?_
            refine v_iload C 6 rfl dX10_goes_161 ?_
            refine v_iconst (v := (1 : Int32)) C (by decide) dX10_goes_163 ?_
            refine v_zast (ws' := Wd G E σ (s2 μ1 32 (x).toNatClampNeg (1 : Int32)) Y) C 32 g_32 (vi_x ei (by omega) (by decide)) rfl (p_32 _ _) dX10_goes_164 ?_
            refine v_aload_n C 2 rfl dX10_goes_165 ?_
            refine v_get (v := .ref (E.1 30)) C fl_RX10_29 24 g_24 rfl dX10_goes_166 ?_
            refine v_iload_n C 3 rfl dX10_goes_169 ?_
            refine v_iload C 1 rfl dX10_goes_170 ?_
            refine v_iast (ws' := Wd G E σ (s2 (s2 μ1 32 (x).toNatClampNeg (1 : Int32)) 30 (k).toNatClampNeg (μ1 29 (x).toNatClampNeg)) Y) C 30 g_30 (vi_x ek (by have := hF.1; omega) (by decide)) (p_30 _ _) dX10_goes_172 ?_
            refine v_aload_n C 2 rfl dX10_goes_173 ?_
            refine v_iload_n C 3 rfl dX10_goes_174 ?_
            refine v_iconst (v := (1 : Int32)) C (by decide) dX10_goes_175 ?_
            refine v_iadd C dX10_goes_176 ?_
            refine v_iload C 0 rfl dX10_goes_177 ?_
            refine v_aload_n C 2 rfl dX10_goes_179 ?_
            refine v_iload C 1 rfl dX10_goes_180 ?_
            refine v_cV1 (rest := [.int (F_X10_ends μ1 t am (F_X10_place μ1 (μ1 25 ((110 : Int32) + (μ1 29 (x).toNatClampNeg)).toNatClampNeg))), .int (k + (1 : Int32)), .ref (E.1 24)]) C mv_RX10_143 (m_X10_cylinder l G E σ (s2 (s2 μ1 32 (x).toNatClampNeg (1 : Int32)) 30 (k).toNatClampNeg (μ1 29 (x).toNatClampNeg)) Y (μ1 29 (x).toNatClampNeg) hM1 (go_rq hF1 ei (gt_of_nle hF1.2.1 ei (by omega) (by omega) h1))) 24 g_24 rfl rfl rfl rfl (Nat.le_of_ble_eq_true rfl) ⟨by show 2 + 1 ≤ fr + 10; omega, by show 8 + (2 + 11) + 41 ≤ lo + 400; omega⟩ ⟨rfl, rfl⟩ ⟨Nat.zero_le _, Nat.zero_le _⟩ dX10_goes_182 ?_
            refine v_cV0 (rest := []) C mv_RX10_168 (hrec σ (s2 (s2 μ1 32 (x).toNatClampNeg (1 : Int32)) 30 (k).toNatClampNeg (μ1 29 (x).toNatClampNeg)) Y (k + (1 : Int32)) (F_X10_ends μ1 t am (F_X10_place μ1 (μ1 25 ((110 : Int32) + (μ1 29 (x).toNatClampNeg)).toNatClampNeg))) (F_X10_cylinder (s2 (s2 μ1 32 (x).toNatClampNeg (1 : Int32)) 30 (k).toNatClampNeg (μ1 29 (x).toNatClampNeg)) (μ1 29 (x).toNatClampNeg)) (go_next hM1 hF1 ⟨rfl, rfl, rfl, rfl⟩ (go_rq hF1 ei (gt_of_nle hF1.2.1 ei (by omega) (by omega) h1)) hj ek hkf1 hD)) 24 g_24 rfl rfl rfl rfl (Nat.le_of_ble_eq_true rfl) ⟨by show fr + 1 ≤ fr + 10; omega, by show 8 + (7 + 11) + lo ≤ lo + 400; omega⟩ ⟨rfl, rfl⟩ ⟨Nat.zero_le _, Nat.zero_le _⟩ dX10_goes_185 ?_
            refine v_aload_n C 2 rfl dX10_goes_188 ?_
            refine v_get (v := .ref (E.1 32)) C fl_RX10_35 24 g_24 rfl dX10_goes_189 ?_
            refine v_iload C 6 rfl dX10_goes_192 ?_
            refine v_iconst (v := (0 : Int32)) C (by decide) dX10_goes_194 ?_
            refine v_zast (ws' := Wd G E σ (s2 (rc (s2 (s2 μ1 32 (x).toNatClampNeg (1 : Int32)) 30 (k).toNatClampNeg (μ1 29 (x).toNatClampNeg)) (k + (1 : Int32)) (F_X10_ends μ1 t am (F_X10_place μ1 (μ1 25 ((110 : Int32) + (μ1 29 (x).toNatClampNeg)).toNatClampNeg))) (F_X10_cylinder (s2 (s2 μ1 32 (x).toNatClampNeg (1 : Int32)) 30 (k).toNatClampNeg (μ1 29 (x).toNatClampNeg)) (μ1 29 (x).toNatClampNeg))) 32 (x).toNatClampNeg (0 : Int32)) Y) C 32 g_32 (vi_x ei (by omega) (by decide)) rfl (p_32 _ _) dX10_goes_195 ?_
            refine v_iinc (v := x + (1 : Int32)) (lv' := [(4, .int (x + (1 : Int32))), (6, .int (F_X10_ends μ1 t am (F_X10_place μ1 (μ1 25 ((110 : Int32) + (μ1 29 (x).toNatClampNeg)).toNatClampNeg)))), (5, .int (μ1 29 (x).toNatClampNeg)), (0, .ref (E.1 24)), (1, .int k), (2, .int t), (3, .int am)]) C 6 rfl rfl (Nat.le_of_ble_eq_true rfl) rfl dX10_goes_196 ?_
            refine v_goto (tgt := 64) C (by decide) dX10_goes_199 ?_
            refine v_lv [3, 4, 5, 6, 0] rfl ?_
            exact ih (x + (1 : Int32)) (s2 (rc (s2 (s2 μ1 32 (x).toNatClampNeg (1 : Int32)) 30 (k).toNatClampNeg (μ1 29 (x).toNatClampNeg)) (k + (1 : Int32)) (F_X10_ends μ1 t am (F_X10_place μ1 (μ1 25 ((110 : Int32) + (μ1 29 (x).toNatClampNeg)).toNatClampNeg))) (F_X10_cylinder (s2 (s2 μ1 32 (x).toNatClampNeg (1 : Int32)) 30 (k).toNatClampNeg (μ1 29 (x).toNatClampNeg)) (μ1 29 (x).toNatClampNeg))) 32 (x).toNatClampNeg (0 : Int32)) (by have q := gt_of_nle hF1.2.1 ei (by omega) (by omega) h1; refine ⟨⟨i + 1, by rw [ei]; exact nI_1 i, by omega, by omega⟩, ?_, hkf⟩; first | exact hR | exact hR.tr (go_frs hfr)) (by rw [hL, L_X10_goes_64, if_neg h1, if_pos h2, if_pos h3])
          · refine v_aload_n C 2 rfl dX10_goes_124 ?_
            refine v_get (v := .ref (E.1 25)) C fl_RX10_7 24 g_24 rfl dX10_goes_125 ?_
            refine v_sipush (v := (270 : Int32)) C (by decide) dX10_goes_128 ?_
            refine v_iload C 1 rfl dX10_goes_131 ?_
            refine v_iadd C dX10_goes_133 ?_
            refine v_iald (v := μ1 25 ((270 : Int32) + (μ1 29 (x).toNatClampNeg)).toNatClampNeg) C 25 g_25 (by obtain ⟨q, hq, eq⟩ := (go_rq hF1 ei (gt_of_nle hF1.2.1 ei (by omega) (by omega) h1)); exact vi_add 270 eq (by omega) (by decide)) rfl dX10_goes_134 ?_
            refine v_if_lt (tgt := 157) C (by decide) dX10_goes_135 (fun h4 => ?_) (fun h4 => ?_)
            · refine v_aload_n C 2 rfl dX10_goes_157 ?_
              refine v_get (v := .ref (E.1 32)) C fl_RX10_35 24 g_24 rfl dX10_goes_158 ?_
              refine v_iload C 6 rfl dX10_goes_161 ?_
              refine v_iconst (v := (1 : Int32)) C (by decide) dX10_goes_163 ?_
              refine v_zast (ws' := Wd G E σ (s2 μ1 32 (x).toNatClampNeg (1 : Int32)) Y) C 32 g_32 (vi_x ei (by omega) (by decide)) rfl (p_32 _ _) dX10_goes_164 ?_
              refine v_aload_n C 2 rfl dX10_goes_165 ?_
              refine v_get (v := .ref (E.1 30)) C fl_RX10_29 24 g_24 rfl dX10_goes_166 ?_
              refine v_iload_n C 3 rfl dX10_goes_169 ?_
              refine v_iload C 1 rfl dX10_goes_170 ?_
              refine v_iast (ws' := Wd G E σ (s2 (s2 μ1 32 (x).toNatClampNeg (1 : Int32)) 30 (k).toNatClampNeg (μ1 29 (x).toNatClampNeg)) Y) C 30 g_30 (vi_x ek (by have := hF.1; omega) (by decide)) (p_30 _ _) dX10_goes_172 ?_
              refine v_aload_n C 2 rfl dX10_goes_173 ?_
              refine v_iload_n C 3 rfl dX10_goes_174 ?_
              refine v_iconst (v := (1 : Int32)) C (by decide) dX10_goes_175 ?_
              refine v_iadd C dX10_goes_176 ?_
              refine v_iload C 0 rfl dX10_goes_177 ?_
              refine v_aload_n C 2 rfl dX10_goes_179 ?_
              refine v_iload C 1 rfl dX10_goes_180 ?_
              refine v_cV1 (rest := [.int (F_X10_ends μ1 t am (F_X10_place μ1 (μ1 25 ((110 : Int32) + (μ1 29 (x).toNatClampNeg)).toNatClampNeg))), .int (k + (1 : Int32)), .ref (E.1 24)]) C mv_RX10_143 (m_X10_cylinder l G E σ (s2 (s2 μ1 32 (x).toNatClampNeg (1 : Int32)) 30 (k).toNatClampNeg (μ1 29 (x).toNatClampNeg)) Y (μ1 29 (x).toNatClampNeg) hM1 (go_rq hF1 ei (gt_of_nle hF1.2.1 ei (by omega) (by omega) h1))) 24 g_24 rfl rfl rfl rfl (Nat.le_of_ble_eq_true rfl) ⟨by show 2 + 1 ≤ fr + 10; omega, by show 8 + (2 + 11) + 41 ≤ lo + 400; omega⟩ ⟨rfl, rfl⟩ ⟨Nat.zero_le _, Nat.zero_le _⟩ dX10_goes_182 ?_
              refine v_cV0 (rest := []) C mv_RX10_168 (hrec σ (s2 (s2 μ1 32 (x).toNatClampNeg (1 : Int32)) 30 (k).toNatClampNeg (μ1 29 (x).toNatClampNeg)) Y (k + (1 : Int32)) (F_X10_ends μ1 t am (F_X10_place μ1 (μ1 25 ((110 : Int32) + (μ1 29 (x).toNatClampNeg)).toNatClampNeg))) (F_X10_cylinder (s2 (s2 μ1 32 (x).toNatClampNeg (1 : Int32)) 30 (k).toNatClampNeg (μ1 29 (x).toNatClampNeg)) (μ1 29 (x).toNatClampNeg)) (go_next hM1 hF1 ⟨rfl, rfl, rfl, rfl⟩ (go_rq hF1 ei (gt_of_nle hF1.2.1 ei (by omega) (by omega) h1)) hj ek hkf1 hD)) 24 g_24 rfl rfl rfl rfl (Nat.le_of_ble_eq_true rfl) ⟨by show fr + 1 ≤ fr + 10; omega, by show 8 + (7 + 11) + lo ≤ lo + 400; omega⟩ ⟨rfl, rfl⟩ ⟨Nat.zero_le _, Nat.zero_le _⟩ dX10_goes_185 ?_
              refine v_aload_n C 2 rfl dX10_goes_188 ?_
              refine v_get (v := .ref (E.1 32)) C fl_RX10_35 24 g_24 rfl dX10_goes_189 ?_
              refine v_iload C 6 rfl dX10_goes_192 ?_
              refine v_iconst (v := (0 : Int32)) C (by decide) dX10_goes_194 ?_
              refine v_zast (ws' := Wd G E σ (s2 (rc (s2 (s2 μ1 32 (x).toNatClampNeg (1 : Int32)) 30 (k).toNatClampNeg (μ1 29 (x).toNatClampNeg)) (k + (1 : Int32)) (F_X10_ends μ1 t am (F_X10_place μ1 (μ1 25 ((110 : Int32) + (μ1 29 (x).toNatClampNeg)).toNatClampNeg))) (F_X10_cylinder (s2 (s2 μ1 32 (x).toNatClampNeg (1 : Int32)) 30 (k).toNatClampNeg (μ1 29 (x).toNatClampNeg)) (μ1 29 (x).toNatClampNeg))) 32 (x).toNatClampNeg (0 : Int32)) Y) C 32 g_32 (vi_x ei (by omega) (by decide)) rfl (p_32 _ _) dX10_goes_195 ?_
              refine v_iinc (v := x + (1 : Int32)) (lv' := [(4, .int (x + (1 : Int32))), (6, .int (F_X10_ends μ1 t am (F_X10_place μ1 (μ1 25 ((110 : Int32) + (μ1 29 (x).toNatClampNeg)).toNatClampNeg)))), (5, .int (μ1 29 (x).toNatClampNeg)), (0, .ref (E.1 24)), (1, .int k), (2, .int t), (3, .int am)]) C 6 rfl rfl (Nat.le_of_ble_eq_true rfl) rfl dX10_goes_196 ?_
              refine v_goto (tgt := 64) C (by decide) dX10_goes_199 ?_
              refine v_lv [3, 4, 5, 6, 0] rfl ?_
              exact ih (x + (1 : Int32)) (s2 (rc (s2 (s2 μ1 32 (x).toNatClampNeg (1 : Int32)) 30 (k).toNatClampNeg (μ1 29 (x).toNatClampNeg)) (k + (1 : Int32)) (F_X10_ends μ1 t am (F_X10_place μ1 (μ1 25 ((110 : Int32) + (μ1 29 (x).toNatClampNeg)).toNatClampNeg))) (F_X10_cylinder (s2 (s2 μ1 32 (x).toNatClampNeg (1 : Int32)) 30 (k).toNatClampNeg (μ1 29 (x).toNatClampNeg)) (μ1 29 (x).toNatClampNeg))) 32 (x).toNatClampNeg (0 : Int32)) (by have q := gt_of_nle hF1.2.1 ei (by omega) (by omega) h1; refine ⟨⟨i + 1, by rw [ei]; exact nI_1 i, by omega, by omega⟩, ?_, hkf⟩; first | exact hR | exact hR.tr (go_frs hfr)) (by rw [hL, L_X10_goes_64, if_neg h1, if_pos h2, if_neg h3, if_pos h4])
            · refine v_iload C 0 rfl dX10_goes_138 ?_
              refine v_aload_n C 2 rfl dX10_goes_140 ?_
              refine v_get (v := .ref (E.1 25)) C fl_RX10_7 24 g_24 rfl dX10_goes_141 ?_
              refine v_sipush (v := (270 : Int32)) C (by decide) dX10_goes_144 ?_
              refine v_iload C 1 rfl dX10_goes_147 ?_
              refine v_iadd C dX10_goes_149 ?_
              refine v_iald (v := μ1 25 ((270 : Int32) + (μ1 29 (x).toNatClampNeg)).toNatClampNeg) C 25 g_25 (by obtain ⟨q, hq, eq⟩ := (go_rq hF1 ei (gt_of_nle hF1.2.1 ei (by omega) (by omega) h1)); exact vi_add 270 eq (by omega) (by decide)) rfl dX10_goes_150 ?_
              refine v_icmp_le (tgt := 157) C (by decide) dX10_goes_151 (fun h5 => ?_) (fun h5 => ?_)
              · refine v_aload_n C 2 rfl dX10_goes_157 ?_
                refine v_get (v := .ref (E.1 32)) C fl_RX10_35 24 g_24 rfl dX10_goes_158 ?_
                refine v_iload C 6 rfl dX10_goes_161 ?_
                refine v_iconst (v := (1 : Int32)) C (by decide) dX10_goes_163 ?_
                refine v_zast (ws' := Wd G E σ (s2 μ1 32 (x).toNatClampNeg (1 : Int32)) Y) C 32 g_32 (vi_x ei (by omega) (by decide)) rfl (p_32 _ _) dX10_goes_164 ?_
                refine v_aload_n C 2 rfl dX10_goes_165 ?_
                refine v_get (v := .ref (E.1 30)) C fl_RX10_29 24 g_24 rfl dX10_goes_166 ?_
                refine v_iload_n C 3 rfl dX10_goes_169 ?_
                refine v_iload C 1 rfl dX10_goes_170 ?_
                refine v_iast (ws' := Wd G E σ (s2 (s2 μ1 32 (x).toNatClampNeg (1 : Int32)) 30 (k).toNatClampNeg (μ1 29 (x).toNatClampNeg)) Y) C 30 g_30 (vi_x ek (by have := hF.1; omega) (by decide)) (p_30 _ _) dX10_goes_172 ?_
                refine v_aload_n C 2 rfl dX10_goes_173 ?_
                refine v_iload_n C 3 rfl dX10_goes_174 ?_
                refine v_iconst (v := (1 : Int32)) C (by decide) dX10_goes_175 ?_
                refine v_iadd C dX10_goes_176 ?_
                refine v_iload C 0 rfl dX10_goes_177 ?_
                refine v_aload_n C 2 rfl dX10_goes_179 ?_
                refine v_iload C 1 rfl dX10_goes_180 ?_
                refine v_cV1 (rest := [.int (F_X10_ends μ1 t am (F_X10_place μ1 (μ1 25 ((110 : Int32) + (μ1 29 (x).toNatClampNeg)).toNatClampNeg))), .int (k + (1 : Int32)), .ref (E.1 24)]) C mv_RX10_143 (m_X10_cylinder l G E σ (s2 (s2 μ1 32 (x).toNatClampNeg (1 : Int32)) 30 (k).toNatClampNeg (μ1 29 (x).toNatClampNeg)) Y (μ1 29 (x).toNatClampNeg) hM1 (go_rq hF1 ei (gt_of_nle hF1.2.1 ei (by omega) (by omega) h1))) 24 g_24 rfl rfl rfl rfl (Nat.le_of_ble_eq_true rfl) ⟨by show 2 + 1 ≤ fr + 10; omega, by show 8 + (2 + 11) + 41 ≤ lo + 400; omega⟩ ⟨rfl, rfl⟩ ⟨Nat.zero_le _, Nat.zero_le _⟩ dX10_goes_182 ?_
                refine v_cV0 (rest := []) C mv_RX10_168 (hrec σ (s2 (s2 μ1 32 (x).toNatClampNeg (1 : Int32)) 30 (k).toNatClampNeg (μ1 29 (x).toNatClampNeg)) Y (k + (1 : Int32)) (F_X10_ends μ1 t am (F_X10_place μ1 (μ1 25 ((110 : Int32) + (μ1 29 (x).toNatClampNeg)).toNatClampNeg))) (F_X10_cylinder (s2 (s2 μ1 32 (x).toNatClampNeg (1 : Int32)) 30 (k).toNatClampNeg (μ1 29 (x).toNatClampNeg)) (μ1 29 (x).toNatClampNeg)) (go_next hM1 hF1 ⟨rfl, rfl, rfl, rfl⟩ (go_rq hF1 ei (gt_of_nle hF1.2.1 ei (by omega) (by omega) h1)) hj ek hkf1 hD)) 24 g_24 rfl rfl rfl rfl (Nat.le_of_ble_eq_true rfl) ⟨by show fr + 1 ≤ fr + 10; omega, by show 8 + (7 + 11) + lo ≤ lo + 400; omega⟩ ⟨rfl, rfl⟩ ⟨Nat.zero_le _, Nat.zero_le _⟩ dX10_goes_185 ?_
                refine v_aload_n C 2 rfl dX10_goes_188 ?_
                refine v_get (v := .ref (E.1 32)) C fl_RX10_35 24 g_24 rfl dX10_goes_189 ?_
                refine v_iload C 6 rfl dX10_goes_192 ?_
                refine v_iconst (v := (0 : Int32)) C (by decide) dX10_goes_194 ?_
                refine v_zast (ws' := Wd G E σ (s2 (rc (s2 (s2 μ1 32 (x).toNatClampNeg (1 : Int32)) 30 (k).toNatClampNeg (μ1 29 (x).toNatClampNeg)) (k + (1 : Int32)) (F_X10_ends μ1 t am (F_X10_place μ1 (μ1 25 ((110 : Int32) + (μ1 29 (x).toNatClampNeg)).toNatClampNeg))) (F_X10_cylinder (s2 (s2 μ1 32 (x).toNatClampNeg (1 : Int32)) 30 (k).toNatClampNeg (μ1 29 (x).toNatClampNeg)) (μ1 29 (x).toNatClampNeg))) 32 (x).toNatClampNeg (0 : Int32)) Y) C 32 g_32 (vi_x ei (by omega) (by decide)) rfl (p_32 _ _) dX10_goes_195 ?_
                refine v_iinc (v := x + (1 : Int32)) (lv' := [(4, .int (x + (1 : Int32))), (6, .int (F_X10_ends μ1 t am (F_X10_place μ1 (μ1 25 ((110 : Int32) + (μ1 29 (x).toNatClampNeg)).toNatClampNeg)))), (5, .int (μ1 29 (x).toNatClampNeg)), (0, .ref (E.1 24)), (1, .int k), (2, .int t), (3, .int am)]) C 6 rfl rfl (Nat.le_of_ble_eq_true rfl) rfl dX10_goes_196 ?_
                refine v_goto (tgt := 64) C (by decide) dX10_goes_199 ?_
                refine v_lv [3, 4, 5, 6, 0] rfl ?_
                exact ih (x + (1 : Int32)) (s2 (rc (s2 (s2 μ1 32 (x).toNatClampNeg (1 : Int32)) 30 (k).toNatClampNeg (μ1 29 (x).toNatClampNeg)) (k + (1 : Int32)) (F_X10_ends μ1 t am (F_X10_place μ1 (μ1 25 ((110 : Int32) + (μ1 29 (x).toNatClampNeg)).toNatClampNeg))) (F_X10_cylinder (s2 (s2 μ1 32 (x).toNatClampNeg (1 : Int32)) 30 (k).toNatClampNeg (μ1 29 (x).toNatClampNeg)) (μ1 29 (x).toNatClampNeg))) 32 (x).toNatClampNeg (0 : Int32)) (by have q := gt_of_nle hF1.2.1 ei (by omega) (by omega) h1; refine ⟨⟨i + 1, by rw [ei]; exact nI_1 i, by omega, by omega⟩, ?_, hkf⟩; first | exact hR | exact hR.tr (go_frs hfr)) (by rw [hL, L_X10_goes_64, if_neg h1, if_pos h2, if_neg h3, if_neg h4, if_pos h5])
              · refine v_goto (tgt := 196) C (by decide) dX10_goes_154 ?_
                refine v_iinc (v := x + (1 : Int32)) (lv' := [(4, .int (x + (1 : Int32))), (6, .int (F_X10_ends μ1 t am (F_X10_place μ1 (μ1 25 ((110 : Int32) + (μ1 29 (x).toNatClampNeg)).toNatClampNeg)))), (5, .int (μ1 29 (x).toNatClampNeg)), (0, .ref (E.1 24)), (1, .int k), (2, .int t), (3, .int am)]) C 6 rfl rfl (Nat.le_of_ble_eq_true rfl) rfl dX10_goes_196 ?_
                refine v_goto (tgt := 64) C (by decide) dX10_goes_199 ?_
                refine v_lv [3, 4, 5, 6, 0] rfl ?_
                exact ih (x + (1 : Int32)) μ1 (by have q := gt_of_nle hF1.2.1 ei (by omega) (by omega) h1; refine ⟨⟨i + 1, by rw [ei]; exact nI_1 i, by omega, by omega⟩, ?_, hkf⟩; first | exact hR | exact hR.tr (go_frs hfr)) (by rw [hL, L_X10_goes_64, if_neg h1, if_pos h2, if_neg h3, if_neg h4, if_neg h5])
        · refine v_goto (tgt := 196) C (by decide) dX10_goes_92 ?_
          refine v_iinc (v := x + (1 : Int32)) (lv' := [(4, .int (x + (1 : Int32))), (5, .int (μ1 29 (x).toNatClampNeg)), (0, .ref (E.1 24)), (1, .int k), (2, .int t), (3, .int am)]) C 5 rfl rfl (Nat.le_of_ble_eq_true rfl) rfl dX10_goes_196 ?_
          refine v_goto (tgt := 64) C (by decide) dX10_goes_199 ?_
          refine v_lv [2, 3, 4, 5, 0] rfl ?_
          exact ih (x + (1 : Int32)) μ1 (by have q := gt_of_nle hF1.2.1 ei (by omega) (by omega) h1; refine ⟨⟨i + 1, by rw [ei]; exact nI_1 i, by omega, by omega⟩, ?_, hkf⟩; first | exact hR | exact hR.tr (go_frs hfr)) (by rw [hL, L_X10_goes_64, if_neg h1, if_neg h2])
  have loop_31 : ∀ (n : Nat) (x : Int32) (μ1 : Sg), ((∃ i : Nat, x = nI i ∧ i ≤ 6 ∧ i + n = 7) ∧ μ1 24 7 = μ 24 7) → G_X10_goes rc μ k t am = L_X10_goes_31 rc μ k t am n x μ1 → V zp l ze (rms_X10_goes fr lo) zs zm za zb zt zc 7 G zA 0 0 Q 31 [(0, .ref (E.1 24)), (1, .int k), (2, .int t), (3, .int am), (4, .int x)] [] (Wd G E σ μ1 Y) := by
    intro n
    induction n with
    | zero =>
      intro x μ1 hI hL
      exact False.elim (by obtain ⟨⟨i, _, h4, hn⟩, _⟩ := hI; omega)
    | succ n ih =>
      intro x μ1 hI hL
      obtain ⟨hM, ha, f, jk, hF, hj, ek, hD⟩ := hP
      obtain ⟨⟨i, ei, h6, hn⟩, h7⟩ := hI
      refine v_iload C 4 rfl dX10_goes_31 ?_
      refine v_aload_n C 0 rfl dX10_goes_33 ?_
      refine v_get (v := .int (μ1 24 7)) C fl_RX10_158 24 g_24 rfl dX10_goes_34 ?_
      refine v_icmp_ge (tgt := 60) C (by decide) dX10_goes_37 (fun h6 => ?_) (fun h6 => ?_)
      · have e1 : G_X10_goes rc μ k t am = μ1 := by rw [hL, L_X10_goes_31, if_pos h6]
        exact v_Q hQ (v_vret C () trivial rfl (by rw [e1]) (Nat.zero_le _) (Nat.zero_le _) dX10_goes_60)
      · refine v_aload_n C 0 rfl dX10_goes_40 ?_
        refine v_get (v := .ref (E.1 31)) C fl_RX10_32 24 g_24 rfl dX10_goes_41 ?_
        refine v_iload C 4 rfl dX10_goes_44 ?_
        refine v_aload_n C 0 rfl dX10_goes_46 ?_
        refine v_get (v := .ref (E.1 30)) C fl_RX10_29 24 g_24 rfl dX10_goes_47 ?_
        refine v_iload C 4 rfl dX10_goes_50 ?_
        refine v_iald (v := μ1 30 (x).toNatClampNeg) C 30 g_30 (vi_x ei (by omega) (by decide)) rfl dX10_goes_52 ?_
        refine v_iast (ws' := Wd G E σ (s2 μ1 31 (x).toNatClampNeg (μ1 30 (x).toNatClampNeg)) Y) C 31 g_31 (vi_x ei (by omega) (by decide)) (p_31 _ _) dX10_goes_53 ?_
        refine v_iinc (v := x + (1 : Int32)) (lv' := [(4, .int (x + (1 : Int32))), (0, .ref (E.1 24)), (1, .int k), (2, .int t), (3, .int am)]) C 4 rfl rfl (Nat.le_of_ble_eq_true rfl) rfl dX10_goes_54 ?_
        refine v_goto (tgt := 31) C (by decide) dX10_goes_57 ?_
        refine v_lv [1, 2, 3, 4, 0] rfl ?_
        exact ih (x + (1 : Int32)) (s2 μ1 31 (x).toNatClampNeg (μ1 30 (x).toNatClampNeg)) (by have q := gt_of_nle (h7.trans hF.2.1) ei (by have := hF.1; omega) (by omega) h6; have := hF.1; exact ⟨⟨i + 1, by rw [ei]; exact nI_1 i, by omega, by omega⟩, h7⟩) (by rw [hL, L_X10_goes_31, if_neg h6])
  show V zp l ze (rms_X10_goes fr lo) zs zm za zb zt zc 7 G zA 0 0 Q 0 [(0, .ref (E.1 24)), (1, .int k), (2, .int t), (3, .int am)] [] (Wd G E σ μ Y)
  refine v_iload_n C 1 rfl dX10_goes_0 ?_
  refine v_aload_n C 0 rfl dX10_goes_1 ?_
  refine v_get (v := .int (μ 24 7)) C fl_RX10_158 24 g_24 rfl dX10_goes_2 ?_
  refine v_icmp_ne (tgt := 61) C (by decide) dX10_goes_5 (fun h7 => ?_) (fun h7 => ?_)
  · refine v_iconst (v := (0 : Int32)) C (by decide) dX10_goes_61 ?_
    refine v_istore (lv' := [(4, .int (0 : Int32)), (0, .ref (E.1 24)), (1, .int k), (2, .int t), (3, .int am)]) C (Nat.le_of_ble_eq_true rfl) rfl dX10_goes_62 ?_
    refine v_lv [1, 2, 3, 4, 0] rfl ?_
    exact loop_64 7 (0 : Int32) μ (⟨⟨0, rfl, by omega, by omega⟩, FRS.rf μ, h7⟩) (by rw [G_X10_goes, if_neg h7])
  · refine v_aload_n C 0 rfl dX10_goes_8 ?_
    refine v_get (v := .int (μ 24 8)) C fl_RX10_161 24 g_24 rfl dX10_goes_9 ?_
    refine v_if_lt (tgt := 23) C (by decide) dX10_goes_12 (fun h8 => ?_) (fun h8 => ?_)
    · refine v_aload_n C 0 rfl dX10_goes_23 ?_
      refine v_iload_n C 2 rfl dX10_goes_24 ?_
      refine v_put C fp_RX10_161 24 g_24 rfl rfl (Nat.le_of_ble_eq_true rfl) (p_24_16 _) dX10_goes_25 ?_
      refine v_iconst (v := (0 : Int32)) C (by decide) dX10_goes_28 ?_
      refine v_istore (lv' := [(4, .int (0 : Int32)), (0, .ref (E.1 24)), (1, .int k), (2, .int t), (3, .int am)]) C (Nat.le_of_ble_eq_true rfl) rfl dX10_goes_29 ?_
      refine v_lv [1, 2, 3, 4, 0] rfl ?_
      exact loop_31 7 (0 : Int32) (s2 μ 24 8 t) (⟨⟨0, rfl, by omega, by omega⟩, rfl⟩) (by rw [G_X10_goes, if_pos h7, if_pos h8])
    · refine v_iload_n C 2 rfl dX10_goes_15 ?_
      refine v_aload_n C 0 rfl dX10_goes_16 ?_
      refine v_get (v := .int (μ 24 8)) C fl_RX10_161 24 g_24 rfl dX10_goes_17 ?_
      refine v_icmp_ge (tgt := 60) C (by decide) dX10_goes_20 (fun h9 => ?_) (fun h9 => ?_)
      · have e1 : G_X10_goes rc μ k t am = μ := by rw [G_X10_goes, if_pos h7, if_neg h8, if_pos h9]
        exact v_Q hQ (v_vret C () trivial rfl (by rw [e1]) (Nat.zero_le _) (Nat.zero_le _) dX10_goes_60)
      · refine v_aload_n C 0 rfl dX10_goes_23 ?_
        refine v_iload_n C 2 rfl dX10_goes_24 ?_
        refine v_put C fp_RX10_161 24 g_24 rfl rfl (Nat.le_of_ble_eq_true rfl) (p_24_16 _) dX10_goes_25 ?_
        refine v_iconst (v := (0 : Int32)) C (by decide) dX10_goes_28 ?_
        refine v_istore (lv' := [(4, .int (0 : Int32)), (0, .ref (E.1 24)), (1, .int k), (2, .int t), (3, .int am)]) C (Nat.le_of_ble_eq_true rfl) rfl dX10_goes_29 ?_
        refine v_lv [1, 2, 3, 4, 0] rfl ?_
        exact loop_31 7 (0 : Int32) (s2 μ 24 8 t) (⟨⟨0, rfl, by omega, by omega⟩, rfl⟩) (by rw [G_X10_goes, if_pos h7, if_neg h8, if_neg h9])
def F_goesD : Nat → Sg → Int32 → Int32 → Int32 → Sg
  | 0 => fun μ _ _ _ => μ
  | D + 1 => G_X10_goes (F_goesD D)
theorem L31_FRS {rc : Sg → Int32 → Int32 → Int32 → Sg} {μ : Sg} {k t am : Int32} : ∀ (n : Nat) (x : Int32) (μ1 : Sg), FRS μ μ1 → FRS μ (L_X10_goes_31 rc μ k t am n x μ1) := by
  intro n
  induction n with
  | zero => intro x μ1 h; exact FRS.rf μ
  | succ n ih =>
    intro x μ1 h
    rw [L_X10_goes_31]
    split
    · exact h
    · exact ih _ _ (h.tr ⟨rfl, rfl, rfl, rfl⟩)
theorem L64_FRS {rc : Sg → Int32 → Int32 → Int32 → Sg} (hfr : ∀ μ k t a, FRS μ (rc μ k t a)) {μ : Sg} {k t am : Int32} : ∀ (n : Nat) (x : Int32) (μ1 : Sg), FRS μ μ1 → FRS μ (L_X10_goes_64 rc μ k t am n x μ1) := by
  intro n
  induction n with
  | zero => intro x μ1 h; exact FRS.rf μ
  | succ n ih =>
    intro x μ1 h
    rw [L_X10_goes_64]
    split
    · exact h
    · split
      · split
        · exact ih _ _ (h.tr (go_frs hfr))
        · split
          · exact ih _ _ (h.tr (go_frs hfr))
          · split
            · exact ih _ _ (h.tr (go_frs hfr))
            · exact ih _ _ h
      · exact ih _ _ h
theorem goesD_FRS : ∀ (D : Nat) (μ : Sg) (k t am : Int32), FRS μ (F_goesD D μ k t am) := by
  intro D
  induction D with
  | zero => intro μ k t am; exact FRS.rf μ
  | succ D ih =>
    intro μ k t am
    show FRS μ (G_X10_goes (F_goesD D) μ k t am)
    unfold G_X10_goes
    split
    · split
      · exact L31_FRS _ _ _ ⟨rfl, rfl, rfl, rfl⟩
      · split
        · exact FRS.rf μ
        · exact L31_FRS _ _ _ ⟨rfl, rfl, rfl, rfl⟩
    · exact L64_FRS ih _ _ _ (FRS.rf μ)
theorem m_goesD (l : Launch) (G : GG) (E : EE) : ∀ (D : Nat) (σ μ : Sg) (Y : va_W) (k t am : Int32), GP D μ k am → KK l G yX10_goes cX10_goes 7 none { frames := 10 * D, cells := 0, slots := 0, locals := 400 * D } [.ref (E.1 24), .int k, .int t, .int am] (Wd G E σ μ Y) none (Wd G E σ (F_goesD D μ k t am) Y) := by
  intro D
  induction D with
  | zero =>
    intro σ μ Y k t am h
    obtain ⟨-, -, f, j, -, -, -, h⟩ := h
    exact absurd h (Nat.not_lt_zero _)
  | succ D ih =>
    intro σ μ Y k t am h
    exact m_X10_goes_step l G E (10 * D) (400 * D) (F_goesD D) D (goesD_FRS D) ih σ μ Y k t am h
def F_X10_goes (μ : Sg) (k t am : Int32) : Sg := F_goesD 7 μ k t am
abbrev rm_X10_goes : Room := { frames := 70, cells := 0, slots := 0, locals := 2800 }
theorem m_X10_goes (l : Launch) (G : GG) (E : EE) (σ μ : Sg) (Y : va_W) (k t am : Int32) (hP : GP 7 μ k am) : KK l G yX10_goes cX10_goes 7 none rm_X10_goes [.ref (E.1 24), .int k, .int t, .int am] (Wd G E σ μ Y) none (Wd G E σ (F_X10_goes μ k t am) Y) := m_goesD l G E 7 σ μ Y k t am hP
