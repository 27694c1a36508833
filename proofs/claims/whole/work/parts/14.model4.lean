theorem s2_n {σ : Sg} {c k : Nat} {v : Int32} {i : Nat} (h : i ≠ k) : s2 σ c k v c i = σ c i := by simp [s2, upd, h]
theorem s2_e {σ : Sg} {c k : Nat} {v : Int32} : s2 σ c k v c k = v := by simp [s2, upd]
theorem s2_o {σ : Sg} {c k : Nat} {v : Int32} {c' : Nat} (h : c' ≠ c) : s2 σ c k v c' = σ c' := by simp [s2, h]
theorem tnA {c j : Nat} (h : c + j < 2 ^ 31) : (nI c + nI j).toNatClampNeg = c + j := by rw [nI_add, nI_clamp h]
theorem acc_fr {μ : Sg} {p i : Nat} (hp : p ≤ 575) (h8 : i ≠ 8) (h9 : i ≠ 9) (h13 : i < 13 ∨ 16 < i) (h11 : i < 1100) : F_X10_accesses μ (nI p) 25 i = μ 25 i := by
  have e : ((1100 : Int32) + nI p).toNatClampNeg = 1100 + p := tnA (c := 1100) (by omega)
  unfold F_X10_accesses
  rw [s2_n h9, s2_n h8, s2_n (by rw [e]; omega), s2_n (by omega), s2_n (by omega), s2_n (by omega), s2_n (by omega)]
theorem acc_9 {μ : Sg} {x : Int32} : F_X10_accesses μ x 25 9 = F_X10_cylinderAt x := by
  unfold F_X10_accesses
  rw [s2_e]
theorem acc_o {μ : Sg} {x : Int32} {c : Nat} (h : c ≠ 25) : F_X10_accesses μ x c = μ c := by
  unfold F_X10_accesses
  rw [s2_o h, s2_o h, s2_o h, s2_o h, s2_o h, s2_o h, s2_o h]
/-- what MOKg looks at -/
theorem MOKg.same {g g' : Nat → Int32} (h : MOKg g) (h9 : cyl (g' 9)) (h5 : g' 5 = g 5) (h6 : g' 6 = g 6) (h11 : g' 11 = g 11) (h12 : g' 12 = g 12) (hb : ∀ r, r < 80 → g' (110 + r) = g (110 + r)) : MOKg g' :=
  ⟨by rw [h11]; exact h.1, by rw [h12]; exact h.2.1, h9, by rw [h5]; exact h.2.2.2.1, by rw [h6]; exact h.2.2.2.2.1, fun r hr => by rw [hb r hr]; exact h.2.2.2.2.2 r hr⟩
theorem MOKg.acc {μ : Sg} {x : Int32} (h : MOKg (μ 25)) (hx : plc x) : MOKg (F_X10_accesses μ x 25) := by
  obtain ⟨p, hp, rfl⟩ := hx
  exact h.same (by rw [acc_9]; exact geo_c ⟨p, hp, rfl⟩) (acc_fr hp (by omega) (by omega) (by omega) (by omega)) (acc_fr hp (by omega) (by omega) (by omega) (by omega)) (acc_fr hp (by omega) (by omega) (by omega) (by omega)) (acc_fr hp (by omega) (by omega) (by omega) (by omega)) (fun r hr => acc_fr hp (by omega) (by omega) (by omega) (by omega))
theorem MOKg.put {μ : Sg} {k : Nat} {v : Int32} (h : MOKg (μ 25)) (hk : 190 ≤ k) : MOKg (s2 μ 25 k v 25) :=
  h.same (by rw [s2_n (by omega)]; exact h.2.2.1) (s2_n (by omega)) (s2_n (by omega)) (s2_n (by omega)) (s2_n (by omega)) (fun r hr => s2_n (by omega))
def L_X10_dirtyFrom_5 (μ : Sg) (fr : Int32) (to : Int32) : Nat → Int32 → Int32 → Int32
  | 0, _, _ => 0
  | n + 1, bs, x => (if (572 : Int32) ≤ x then bs else (if (μ 25 ((510 : Int32) + x).toNatClampNeg) = (1 : Int32) then (if (F_X10_in (F_X10_place μ x) fr (to - (1 : Int32))) = 0 then L_X10_dirtyFrom_5 μ fr to n bs (x + (1 : Int32)) else (if bs < 0 then L_X10_dirtyFrom_5 μ fr to n x (x + (1 : Int32)) else (if (F_X10_place μ bs) ≤ (F_X10_place μ x) then L_X10_dirtyFrom_5 μ fr to n bs (x + (1 : Int32)) else L_X10_dirtyFrom_5 μ fr to n x (x + (1 : Int32))))) else L_X10_dirtyFrom_5 μ fr to n bs (x + (1 : Int32))))
def F_X10_dirtyFrom (μ : Sg) (fr : Int32) (to : Int32) : Int32 := L_X10_dirtyFrom_5 μ fr to 573 (-1 : Int32) (0 : Int32)
abbrev rm_X10_dirtyFrom : Room := { frames := 1, cells := 0, slots := 0, locals := 22 }
set_option maxRecDepth 100000 in
set_option maxHeartbeats 4000000 in
theorem m_X10_dirtyFrom (l : Launch) (G : GG) (E : EE) (σ μ : Sg) (Y : va_W) (fr : Int32) (to : Int32) (hM : MOKg (μ 25)) : KK l G yX10_dirtyFrom cX10_dirtyFrom 5 (some .int) rm_X10_dirtyFrom [.ref (E.1 24), .int fr, .int to] (Wd G E σ μ Y) (some (.int (F_X10_dirtyFrom μ fr to))) (Wd G E σ μ Y) := by
  refine KE.of (by decide) (Nat.le_of_ble_eq_true rfl) ?_
  intro zp ze zs zm za zb zt zc zA C _
  generalize hQ : MQ zb _ za zs _ _ zA = Q
  have loop_5 : ∀ (n : Nat) (bs : Int32) (x : Int32), (∃ j : Nat, x = nI j ∧ j ≤ 572 ∧ j + n = 573) → F_X10_dirtyFrom μ fr to = L_X10_dirtyFrom_5 μ fr to n bs x → V zp l ze rm_X10_dirtyFrom zs zm za zb zt zc 5 G zA 0 0 Q 5 [(0, .ref (E.1 24)), (1, .int fr), (2, .int to), (3, .int bs), (4, .int x)] [] (Wd G E σ μ Y) := by
    intro n
    induction n with
    | zero =>
      intro bs x hI hL
      exact False.elim (by obtain ⟨j, _, h4, hn⟩ := hI; omega)
    | succ n ih =>
      intro bs x hI hL
      obtain ⟨j, ej, h4, hn⟩ := hI
      refine v_iload C 4 rfl dX10_dirtyFrom_5 ?_
      refine v_sipush (v := (572 : Int32)) C (by decide) dX10_dirtyFrom_7 ?_
      refine v_icmp_ge (tgt := 71) C (by decide) dX10_dirtyFrom_10 (fun h1 => ?_) (fun h1 => ?_)
      · refine v_iload_n C 3 rfl dX10_dirtyFrom_71 ?_
        have e1 : F_X10_dirtyFrom μ fr to = bs := by rw [hL, L_X10_dirtyFrom_5, if_pos h1]
        exact v_Q hQ (v_iret C () trivial (by rw [e1]) rfl (Nat.zero_le _) (Nat.zero_le _) dX10_dirtyFrom_72)
      · refine v_aload_n C 0 rfl dX10_dirtyFrom_13 ?_
        refine v_get (v := .ref (E.1 25)) C fl_RX10_7 24 g_24 rfl dX10_dirtyFrom_14 ?_
        refine v_sipush (v := (510 : Int32)) C (by decide) dX10_dirtyFrom_17 ?_
        refine v_iload C 4 rfl dX10_dirtyFrom_20 ?_
        refine v_iadd C dX10_dirtyFrom_22 ?_
        refine v_iald (v := μ 25 ((510 : Int32) + x).toNatClampNeg) C 25 g_25 (by have q := gt_of_nle (a := 572) rfl ej (by omega) (by omega) h1; exact vi_add 510 ej (by omega) (by decide)) rfl dX10_dirtyFrom_23 ?_
        refine v_iconst (v := (1 : Int32)) C (by decide) dX10_dirtyFrom_24 ?_
        refine v_icmp_ne (tgt := 65) C (by decide) dX10_dirtyFrom_25 (fun h2 => ?_) (fun h2 => ?_)
        · refine v_iinc (v := x + (1 : Int32)) (lv' := [(4, .int (x + (1 : Int32))), (0, .ref (E.1 24)), (1, .int fr), (2, .int to), (3, .int bs)]) C 4 rfl rfl (Nat.le_of_ble_eq_true rfl) rfl dX10_dirtyFrom_65 ?_
          refine v_goto (tgt := 5) C (by decide) dX10_dirtyFrom_68 ?_
          refine v_lv [1, 2, 3, 4, 0] rfl ?_
          exact ih bs (x + (1 : Int32)) (by have q := gt_of_nle (a := 572) rfl ej (by omega) (by omega) h1; exact ⟨j + 1, by rw [ej]; exact nI_1 j, by omega, by omega⟩) (by rw [hL, L_X10_dirtyFrom_5, if_neg h1, if_neg h2])
        · refine v_aload_n C 0 rfl dX10_dirtyFrom_28 ?_
          refine v_iload C 4 rfl dX10_dirtyFrom_29 ?_
          refine v_cV1 (rest := []) C mv_RX10_89 (m_X10_place l G E σ μ Y x hM.1) 24 g_24 rfl rfl rfl rfl (Nat.le_of_ble_eq_true rfl) ⟨Nat.le_of_ble_eq_true rfl, Nat.le_of_ble_eq_true rfl⟩ ⟨rfl, rfl⟩ ⟨Nat.zero_le _, Nat.zero_le _⟩ dX10_dirtyFrom_31 ?_
          refine v_iload_n C 1 rfl dX10_dirtyFrom_34 ?_
          refine v_iload_n C 2 rfl dX10_dirtyFrom_35 ?_
          refine v_iconst (v := (1 : Int32)) C (by decide) dX10_dirtyFrom_36 ?_
          refine v_isub C dX10_dirtyFrom_37 ?_
          refine v_cS1 (rest := []) C ms_RX10_42 (m_X10_in l G E σ μ Y (F_X10_place μ x) fr (to - (1 : Int32))) rfl rfl (Nat.le_of_ble_eq_true rfl) ⟨Nat.le_of_ble_eq_true rfl, Nat.le_of_ble_eq_true rfl⟩ ⟨rfl, rfl⟩ ⟨Nat.zero_le _, Nat.zero_le _⟩ dX10_dirtyFrom_38 ?_
          refine v_if_eq (tgt := 65) C (by decide) dX10_dirtyFrom_41 (fun h3 => ?_) (fun h3 => ?_)
          · refine v_iinc (v := x + (1 : Int32)) (lv' := [(4, .int (x + (1 : Int32))), (0, .ref (E.1 24)), (1, .int fr), (2, .int to), (3, .int bs)]) C 4 rfl rfl (Nat.le_of_ble_eq_true rfl) rfl dX10_dirtyFrom_65 ?_
            refine v_goto (tgt := 5) C (by decide) dX10_dirtyFrom_68 ?_
            refine v_lv [1, 2, 3, 4, 0] rfl ?_
            exact ih bs (x + (1 : Int32)) (by have q := gt_of_nle (a := 572) rfl ej (by omega) (by omega) h1; exact ⟨j + 1, by rw [ej]; exact nI_1 j, by omega, by omega⟩) (by rw [hL, L_X10_dirtyFrom_5, if_neg h1, if_pos h2, if_pos h3])
          · refine v_iload_n C 3 rfl dX10_dirtyFrom_44 ?_
            refine v_if_lt (tgt := 62) C (by decide) dX10_dirtyFrom_45 (fun h4 => ?_) (fun h4 => ?_)
            · refine v_iload C 4 rfl dX10_dirtyFrom_62 ?_
              refine v_istore_n (lv' := [(3, .int x), (0, .ref (E.1 24)), (1, .int fr), (2, .int to), (4, .int x)]) C (Nat.le_of_ble_eq_true rfl) rfl dX10_dirtyFrom_64 ?_
              refine v_iinc (v := x + (1 : Int32)) (lv' := [(4, .int (x + (1 : Int32))), (3, .int x), (0, .ref (E.1 24)), (1, .int fr), (2, .int to)]) C 4 rfl rfl (Nat.le_of_ble_eq_true rfl) rfl dX10_dirtyFrom_65 ?_
              refine v_goto (tgt := 5) C (by decide) dX10_dirtyFrom_68 ?_
              refine v_lv [2, 3, 4, 1, 0] rfl ?_
              exact ih x (x + (1 : Int32)) (by have q := gt_of_nle (a := 572) rfl ej (by omega) (by omega) h1; exact ⟨j + 1, by rw [ej]; exact nI_1 j, by omega, by omega⟩) (by rw [hL, L_X10_dirtyFrom_5, if_neg h1, if_pos h2, if_neg h3, if_pos h4])
            · refine v_aload_n C 0 rfl dX10_dirtyFrom_48 ?_
              refine v_iload C 4 rfl dX10_dirtyFrom_49 ?_
              refine v_cV1 (rest := []) C mv_RX10_89 (m_X10_place l G E σ μ Y x hM.1) 24 g_24 rfl rfl rfl rfl (Nat.le_of_ble_eq_true rfl) ⟨Nat.le_of_ble_eq_true rfl, Nat.le_of_ble_eq_true rfl⟩ ⟨rfl, rfl⟩ ⟨Nat.zero_le _, Nat.zero_le _⟩ dX10_dirtyFrom_51 ?_
              refine v_aload_n C 0 rfl dX10_dirtyFrom_54 ?_
              refine v_iload_n C 3 rfl dX10_dirtyFrom_55 ?_
              refine v_cV1 (rest := [.int (F_X10_place μ x)]) C mv_RX10_89 (m_X10_place l G E σ μ Y bs hM.1) 24 g_24 rfl rfl rfl rfl (Nat.le_of_ble_eq_true rfl) ⟨Nat.le_of_ble_eq_true rfl, Nat.le_of_ble_eq_true rfl⟩ ⟨rfl, rfl⟩ ⟨Nat.zero_le _, Nat.zero_le _⟩ dX10_dirtyFrom_56 ?_
              refine v_icmp_ge (tgt := 65) C (by decide) dX10_dirtyFrom_59 (fun h5 => ?_) (fun h5 => ?_)
              · refine v_iinc (v := x + (1 : Int32)) (lv' := [(4, .int (x + (1 : Int32))), (0, .ref (E.1 24)), (1, .int fr), (2, .int to), (3, .int bs)]) C 4 rfl rfl (Nat.le_of_ble_eq_true rfl) rfl dX10_dirtyFrom_65 ?_
                refine v_goto (tgt := 5) C (by decide) dX10_dirtyFrom_68 ?_
                refine v_lv [1, 2, 3, 4, 0] rfl ?_
                exact ih bs (x + (1 : Int32)) (by have q := gt_of_nle (a := 572) rfl ej (by omega) (by omega) h1; exact ⟨j + 1, by rw [ej]; exact nI_1 j, by omega, by omega⟩) (by rw [hL, L_X10_dirtyFrom_5, if_neg h1, if_pos h2, if_neg h3, if_neg h4, if_pos h5])
              · refine v_iload C 4 rfl dX10_dirtyFrom_62 ?_
                refine v_istore_n (lv' := [(3, .int x), (0, .ref (E.1 24)), (1, .int fr), (2, .int to), (4, .int x)]) C (Nat.le_of_ble_eq_true rfl) rfl dX10_dirtyFrom_64 ?_
                refine v_iinc (v := x + (1 : Int32)) (lv' := [(4, .int (x + (1 : Int32))), (3, .int x), (0, .ref (E.1 24)), (1, .int fr), (2, .int to)]) C 4 rfl rfl (Nat.le_of_ble_eq_true rfl) rfl dX10_dirtyFrom_65 ?_
                refine v_goto (tgt := 5) C (by decide) dX10_dirtyFrom_68 ?_
                refine v_lv [2, 3, 4, 1, 0] rfl ?_
                exact ih x (x + (1 : Int32)) (by have q := gt_of_nle (a := 572) rfl ej (by omega) (by omega) h1; exact ⟨j + 1, by rw [ej]; exact nI_1 j, by omega, by omega⟩) (by rw [hL, L_X10_dirtyFrom_5, if_neg h1, if_pos h2, if_neg h3, if_neg h4, if_neg h5])
  show V zp l ze rm_X10_dirtyFrom zs zm za zb zt zc 5 G zA 0 0 Q 0 [(0, .ref (E.1 24)), (1, .int fr), (2, .int to)] [] (Wd G E σ μ Y)
  refine v_iconst (v := (-1 : Int32)) C (by decide) dX10_dirtyFrom_0 ?_
  refine v_istore_n (lv' := [(3, .int (-1 : Int32)), (0, .ref (E.1 24)), (1, .int fr), (2, .int to)]) C (Nat.le_of_ble_eq_true rfl) rfl dX10_dirtyFrom_1 ?_
  refine v_iconst (v := (0 : Int32)) C (by decide) dX10_dirtyFrom_2 ?_
  refine v_istore (lv' := [(4, .int (0 : Int32)), (3, .int (-1 : Int32)), (0, .ref (E.1 24)), (1, .int fr), (2, .int to)]) C (Nat.le_of_ble_eq_true rfl) rfl dX10_dirtyFrom_3 ?_
  refine v_lv [2, 3, 4, 1, 0] rfl ?_
  exact loop_5 573 (-1 : Int32) (0 : Int32) (⟨0, rfl, by omega, by omega⟩) (by rw [F_X10_dirtyFrom])
/-- how many blocks are dirty -/
def dcnt (g : Nat → Int32) : Nat → Nat
  | 0 => 0
  | n + 1 => dcnt g n + (if g (510 + n) = 1 then 1 else 0)
theorem dcnt_le (g : Nat → Int32) : ∀ n, dcnt g n ≤ n := by
  intro n
  induction n with
  | zero => exact Nat.le_refl 0
  | succ n ih => unfold dcnt; split <;> omega
theorem dcnt_same {g g' : Nat → Int32} : ∀ n, (∀ b, b < n → g' (510 + b) = g (510 + b)) → dcnt g' n = dcnt g n := by
  intro n
  induction n with
  | zero => intro _; rfl
  | succ n ih => intro h; unfold dcnt; rw [ih (fun b hb => h b (by omega)), h n (by omega)]
theorem dcnt_clear {g g' : Nat → Int32} {b : Nat} (hb : g (510 + b) = 1) (hb' : ¬ g' (510 + b) = 1) : ∀ n, b < n → (∀ x, x ≠ b → x < n → g' (510 + x) = g (510 + x)) → dcnt g' n + 1 = dcnt g n := by
  intro n
  induction n with
  | zero => intro h; omega
  | succ n ih =>
    intro h hs
    unfold dcnt
    by_cases e : b = n
    · subst e
      rw [if_pos hb, if_neg hb', dcnt_same b (fun x hx => hs x (by omega) (by omega))]
    · rw [hs n (fun q => e q.symm) (by omega)]
      have := ih (by omega) (fun x hx hx2 => hs x hx (by omega))
      omega
/-- what dirtyFrom finds is dirty, and lies between -/
theorem L_dirtyFrom_ok {μ : Sg} {fr to : Int32} : ∀ (n j : Nat) (bs : Int32), j + n = 573 → j ≤ 572 → (bs < 0 ∨ ∃ b, b ≤ 571 ∧ bs = nI b ∧ μ 25 (510 + b) = 1) → L_X10_dirtyFrom_5 μ fr to n bs (nI j) < 0 ∨ ∃ b, b ≤ 571 ∧ L_X10_dirtyFrom_5 μ fr to n bs (nI j) = nI b ∧ μ 25 (510 + b) = 1 := by
  intro n
  induction n with
  | zero => intro j bs hj h572 hb; omega
  | succ n ih =>
    intro j bs hj h572 hb
    rw [L_X10_dirtyFrom_5]
    by_cases h1 : (572 : Int32) ≤ nI j
    · rw [if_pos h1]; exact hb
    · rw [if_neg h1]
      have q := gt_of_nle (a := 572) (b := j) rfl rfl (by omega) (by omega) h1
      have e : ((510 : Int32) + nI j).toNatClampNeg = 510 + j := tnA (c := 510) (by omega)
      rw [e, show nI j + (1 : Int32) = nI (j + 1) from nI_1 j]
      by_cases h2 : μ 25 (510 + j) = (1 : Int32)
      · rw [if_pos h2]
        have hj1 : nI j < 0 ∨ ∃ b, b ≤ 571 ∧ nI j = nI b ∧ μ 25 (510 + b) = 1 := Or.inr ⟨j, by omega, rfl, h2⟩
        split
        · exact ih (j + 1) _ (by omega) (by omega) hb
        · split
          · exact ih (j + 1) _ (by omega) (by omega) hj1
          · split
            · exact ih (j + 1) _ (by omega) (by omega) hb
            · exact ih (j + 1) _ (by omega) (by omega) hj1
      · rw [if_neg h2]; exact ih (j + 1) _ (by omega) (by omega) hb
theorem dirtyFrom_ok {μ : Sg} {fr to : Int32} (h : ¬ F_X10_dirtyFrom μ fr to < 0) : ∃ b, b ≤ 571 ∧ F_X10_dirtyFrom μ fr to = nI b ∧ μ 25 (510 + b) = 1 := by
  unfold F_X10_dirtyFrom at h ⊢
  have q := L_dirtyFrom_ok (μ := μ) (fr := fr) (to := to) 573 0 (-1) (by omega) (by omega) (Or.inl (by decide))
  exact q.resolve_left h
theorem fl_put {μ : Sg} {b : Nat} (hM : MOKg (μ 25)) (hb : b ≤ 571) (hd : μ 25 (510 + b) = 1) : MOKg (s2 (F_X10_accesses μ (F_X10_place μ (nI b))) 25 ((510 : Int32) + nI b).toNatClampNeg (0 : Int32) 25) ∧ dcnt (s2 (F_X10_accesses μ (F_X10_place μ (nI b))) 25 ((510 : Int32) + nI b).toNatClampNeg (0 : Int32) 25) 572 + 1 = dcnt (μ 25) 572 := by
  have hp := place_plc hM.1 (bk := nI b) ⟨b, hb, rfl⟩
  have e : ((510 : Int32) + nI b).toNatClampNeg = 510 + b := tnA (c := 510) (by omega)
  rw [e]
  refine ⟨(hM.acc hp).put (by omega), dcnt_clear hd (by rw [s2_e]; decide) 572 (by omega) (fun x hx hx2 => ?_)⟩
  obtain ⟨p, hp, ep⟩ := hp
  rw [s2_n (by omega), ep, acc_fr hp (by omega) (by omega) (by omega) (by omega)]
theorem fl_step {μ : Sg} {fr to : Int32} {n : Nat} (h : ¬ F_X10_dirtyFrom μ fr to < 0) (hM : MOKg (μ 25)) (hc : dcnt (μ 25) 572 < n + 1) : MOKg (s2 (F_X10_accesses μ (F_X10_place μ (F_X10_dirtyFrom μ fr to))) 25 ((510 : Int32) + F_X10_dirtyFrom μ fr to).toNatClampNeg (0 : Int32) 25) ∧ dcnt (s2 (F_X10_accesses μ (F_X10_place μ (F_X10_dirtyFrom μ fr to))) 25 ((510 : Int32) + F_X10_dirtyFrom μ fr to).toNatClampNeg (0 : Int32) 25) 572 < n := by
  obtain ⟨b, hb, eb, hd⟩ := dirtyFrom_ok h
  rw [eb]
  obtain ⟨a, d⟩ := fl_put hM hb hd
  exact ⟨a, by omega⟩
theorem fl_blk {μ : Sg} {fr to x : Int32} (h : ¬ x < 0) (ex : x = F_X10_dirtyFrom μ fr to) : blk x := by
  rw [ex] at h ⊢
  obtain ⟨b, hb, eb, hd⟩ := dirtyFrom_ok h
  exact ⟨b, hb, eb⟩
def L_X10_flush_94 (μ : Sg) : Nat → Int32 → Int32 → Int32 → Sg → Int32 × Sg
  | 0, _, _, _, _ => (0, μ)
  | n + 1, bg, md, x, μ1 => (if x < 0 then ((μ1 25 8) - bg, μ1) else L_X10_flush_94 μ n bg md (F_X10_dirtyFrom (s2 (F_X10_accesses μ1 (F_X10_place μ1 x)) 25 ((510 : Int32) + x).toNatClampNeg (0 : Int32)) (0 : Int32) md) (s2 (F_X10_accesses μ1 (F_X10_place μ1 x)) 25 ((510 : Int32) + x).toNatClampNeg (0 : Int32)))
def L_X10_flush_51 (μ : Sg) : Nat → Int32 → Int32 → Int32 → Sg → Int32 × Sg
  | 0, _, _, _, _ => (0, μ)
  | n + 1, bg, md, x, μ1 => (if x < 0 then L_X10_flush_94 μ 573 bg md (F_X10_dirtyFrom μ1 (0 : Int32) md) μ1 else L_X10_flush_51 μ n bg md (F_X10_dirtyFrom (s2 (F_X10_accesses μ1 (F_X10_place μ1 x)) 25 ((510 : Int32) + x).toNatClampNeg (0 : Int32)) md (576 : Int32)) (s2 (F_X10_accesses μ1 (F_X10_place μ1 x)) 25 ((510 : Int32) + x).toNatClampNeg (0 : Int32)))
def F_X10_flush (μ : Sg) : Int32 × Sg := (if (μ 25 8) ≤ (100000 : Int32) then L_X10_flush_51 μ 573 (μ 25 8) (F_X10_firstOf (μ 25 9)) (F_X10_dirtyFrom (s2 μ 24 1 (0 : Int32)) (F_X10_firstOf (μ 25 9)) (576 : Int32)) (s2 μ 24 1 (0 : Int32)) else ((F_X10_fails (s2 μ 24 1 (0 : Int32)) (1 : Int32)).1, (F_X10_fails (s2 μ 24 1 (0 : Int32)) (1 : Int32)).2))
abbrev rm_X10_flush : Room := { frames := 5, cells := 0, slots := 0, locals := 109 }
set_option maxRecDepth 100000 in
set_option maxHeartbeats 4000000 in
theorem m_X10_flush (l : Launch) (G : GG) (E : EE) (σ μ : Sg) (Y : va_W) (hM : MOKg (μ 25)) : KK l G yX10_flush cX10_flush 4 (some .int) rm_X10_flush [.ref (E.1 24)] (Wd G E σ μ Y) (some (.int (F_X10_flush μ).1)) (Wd G E σ (F_X10_flush μ).2 Y) := by
  refine KE.of (by decide) (Nat.le_of_ble_eq_true rfl) ?_
  intro zp ze zs zm za zb zt zc zA C _
  generalize hQ : MQ zb _ za zs _ _ zA = Q
  have loop_94 : ∀ (n : Nat) (bg : Int32) (md : Int32) (x : Int32) (μ1 : Sg), (MOKg (μ1 25) ∧ dcnt (μ1 25) 572 < n ∧ x = F_X10_dirtyFrom μ1 0 md) → F_X10_flush μ = L_X10_flush_94 μ n bg md x μ1 → V zp l ze rm_X10_flush zs zm za zb zt zc 4 G zA 0 0 Q 94 [(0, .ref (E.1 24)), (1, .int bg), (2, .int md), (3, .int x)] [] (Wd G E σ μ1 Y) := by
    intro n
    induction n with
    | zero =>
      intro bg md x μ1 hI hL
      exact False.elim (by obtain ⟨_, h, _⟩ := hI; omega)
    | succ n ih =>
      intro bg md x μ1 hI hL
      obtain ⟨hM1, hc, ex⟩ := hI
      refine v_iload_n C 3 rfl dX10_flush_94 ?_
      refine v_if_lt (tgt := 128) C (by decide) dX10_flush_95 (fun h1 => ?_) (fun h1 => ?_)
      · refine v_aload_n C 0 rfl dX10_flush_128 ?_
        refine v_get (v := .ref (E.1 25)) C fl_RX10_7 24 g_24 rfl dX10_flush_129 ?_
        refine v_bipush (v := (8 : Int32)) C (by decide) dX10_flush_132 ?_
        refine v_iald (v := μ1 25 8) C 25 g_25 vi_8_1700 (rdl tn_8 rfl) dX10_flush_134 ?_
        refine v_iload_n C 1 rfl dX10_flush_135 ?_
        refine v_isub C dX10_flush_136 ?_
        have e1 : F_X10_flush μ = ((μ1 25 8) - bg, μ1) := by rw [hL, L_X10_flush_94, if_pos h1]
        exact v_Q hQ (v_iret C () trivial (by rw [e1]) (by rw [e1]) (Nat.zero_le _) (Nat.zero_le _) dX10_flush_137)
      · refine v_aload_n C 0 rfl dX10_flush_98 ?_
        refine v_aload_n C 0 rfl dX10_flush_99 ?_
        refine v_iload_n C 3 rfl dX10_flush_100 ?_
        refine v_cV1 (rest := [.ref (E.1 24)]) C mv_RX10_89 (m_X10_place l G E σ μ1 Y x hM1.1) 24 g_24 rfl rfl rfl rfl (Nat.le_of_ble_eq_true rfl) ⟨Nat.le_of_ble_eq_true rfl, Nat.le_of_ble_eq_true rfl⟩ ⟨rfl, rfl⟩ ⟨Nat.zero_le _, Nat.zero_le _⟩ dX10_flush_101 ?_
        refine v_cV0 (rest := []) C mv_RX10_182 (m_X10_accesses l G E σ μ1 Y (F_X10_place μ1 x) (geo_s (place_plc hM1.1 (fl_blk h1 ex))) hM1.2.2.1 (geo_c (place_plc hM1.1 (fl_blk h1 ex))) (place_plc hM1.1 (fl_blk h1 ex))) 24 g_24 rfl rfl rfl rfl (Nat.le_of_ble_eq_true rfl) ⟨Nat.le_of_ble_eq_true rfl, Nat.le_of_ble_eq_true rfl⟩ ⟨rfl, rfl⟩ ⟨Nat.zero_le _, Nat.zero_le _⟩ dX10_flush_104 ?_
        refine v_aload_n C 0 rfl dX10_flush_107 ?_
        refine v_get (v := .ref (E.1 25)) C fl_RX10_7 24 g_24 rfl dX10_flush_108 ?_
        refine v_sipush (v := (510 : Int32)) C (by decide) dX10_flush_111 ?_
        refine v_iload_n C 3 rfl dX10_flush_114 ?_
        refine v_iadd C dX10_flush_115 ?_
        refine v_iconst (v := (0 : Int32)) C (by decide) dX10_flush_116 ?_
        refine v_iast (ws' := Wd G E σ (s2 (F_X10_accesses μ1 (F_X10_place μ1 x)) 25 ((510 : Int32) + x).toNatClampNeg (0 : Int32)) Y) C 25 g_25 (by obtain ⟨q, hq, eq⟩ := fl_blk h1 ex; exact vi_add 510 eq (by omega) (by decide)) (p_25 _ _) dX10_flush_117 ?_
        refine v_aload_n C 0 rfl dX10_flush_118 ?_
        refine v_iconst (v := (0 : Int32)) C (by decide) dX10_flush_119 ?_
        refine v_iload_n C 2 rfl dX10_flush_120 ?_
        refine v_cV1 (rest := []) C mv_RX10_189 (m_X10_dirtyFrom l G E σ (s2 (F_X10_accesses μ1 (F_X10_place μ1 x)) 25 ((510 : Int32) + x).toNatClampNeg (0 : Int32)) Y (0 : Int32) md (by rw [ex] at h1 ⊢; exact (fl_step h1 hM1 hc).1)) 24 g_24 rfl rfl rfl rfl (Nat.le_of_ble_eq_true rfl) ⟨Nat.le_of_ble_eq_true rfl, Nat.le_of_ble_eq_true rfl⟩ ⟨rfl, rfl⟩ ⟨Nat.zero_le _, Nat.zero_le _⟩ dX10_flush_121 ?_
        refine v_istore_n (lv' := [(3, .int (F_X10_dirtyFrom (s2 (F_X10_accesses μ1 (F_X10_place μ1 x)) 25 ((510 : Int32) + x).toNatClampNeg (0 : Int32)) (0 : Int32) md)), (0, .ref (E.1 24)), (1, .int bg), (2, .int md)]) C (Nat.le_of_ble_eq_true rfl) rfl dX10_flush_124 ?_
        refine v_goto (tgt := 94) C (by decide) dX10_flush_125 ?_
        refine v_lv [1, 2, 3, 0] rfl ?_
        exact ih bg md (F_X10_dirtyFrom (s2 (F_X10_accesses μ1 (F_X10_place μ1 x)) 25 ((510 : Int32) + x).toNatClampNeg (0 : Int32)) (0 : Int32) md) (s2 (F_X10_accesses μ1 (F_X10_place μ1 x)) 25 ((510 : Int32) + x).toNatClampNeg (0 : Int32)) (by rw [ex] at h1 ⊢; have q := fl_step h1 hM1 hc; exact ⟨q.1, q.2, rfl⟩) (by rw [hL, L_X10_flush_94, if_neg h1])
  have loop_51 : ∀ (n : Nat) (bg : Int32) (md : Int32) (x : Int32) (μ1 : Sg), (MOKg (μ1 25) ∧ dcnt (μ1 25) 572 < n ∧ x = F_X10_dirtyFrom μ1 md 576) → F_X10_flush μ = L_X10_flush_51 μ n bg md x μ1 → V zp l ze rm_X10_flush zs zm za zb zt zc 4 G zA 0 0 Q 51 [(0, .ref (E.1 24)), (1, .int bg), (2, .int md), (3, .int x)] [] (Wd G E σ μ1 Y) := by
    intro n
    induction n with
    | zero =>
      intro bg md x μ1 hI hL
      exact False.elim (by obtain ⟨_, h, _⟩ := hI; omega)
    | succ n ih =>
      intro bg md x μ1 hI hL
      obtain ⟨hM1, hc, ex⟩ := hI
      refine v_iload_n C 3 rfl dX10_flush_51 ?_
      refine v_if_lt (tgt := 87) C (by decide) dX10_flush_52 (fun h2 => ?_) (fun h2 => ?_)
      · refine v_aload_n C 0 rfl dX10_flush_87 ?_
        refine v_iconst (v := (0 : Int32)) C (by decide) dX10_flush_88 ?_
        refine v_iload_n C 2 rfl dX10_flush_89 ?_
        refine v_cV1 (rest := []) C mv_RX10_189 (m_X10_dirtyFrom l G E σ μ1 Y (0 : Int32) md hM1) 24 g_24 rfl rfl rfl rfl (Nat.le_of_ble_eq_true rfl) ⟨Nat.le_of_ble_eq_true rfl, Nat.le_of_ble_eq_true rfl⟩ ⟨rfl, rfl⟩ ⟨Nat.zero_le _, Nat.zero_le _⟩ dX10_flush_90 ?_
        refine v_istore_n (lv' := [(3, .int (F_X10_dirtyFrom μ1 (0 : Int32) md)), (0, .ref (E.1 24)), (1, .int bg), (2, .int md)]) C (Nat.le_of_ble_eq_true rfl) rfl dX10_flush_93 ?_
        refine v_lv [1, 2, 3, 0] rfl ?_
        exact loop_94 573 bg md (F_X10_dirtyFrom μ1 (0 : Int32) md) μ1 (⟨hM1, by have := dcnt_le (μ1 25) 572; omega, rfl⟩) (by rw [hL, L_X10_flush_51, if_pos h2])
      · refine v_aload_n C 0 rfl dX10_flush_55 ?_
        refine v_aload_n C 0 rfl dX10_flush_56 ?_
        refine v_iload_n C 3 rfl dX10_flush_57 ?_
        refine v_cV1 (rest := [.ref (E.1 24)]) C mv_RX10_89 (m_X10_place l G E σ μ1 Y x hM1.1) 24 g_24 rfl rfl rfl rfl (Nat.le_of_ble_eq_true rfl) ⟨Nat.le_of_ble_eq_true rfl, Nat.le_of_ble_eq_true rfl⟩ ⟨rfl, rfl⟩ ⟨Nat.zero_le _, Nat.zero_le _⟩ dX10_flush_58 ?_
        refine v_cV0 (rest := []) C mv_RX10_182 (m_X10_accesses l G E σ μ1 Y (F_X10_place μ1 x) (geo_s (place_plc hM1.1 (fl_blk h2 ex))) hM1.2.2.1 (geo_c (place_plc hM1.1 (fl_blk h2 ex))) (place_plc hM1.1 (fl_blk h2 ex))) 24 g_24 rfl rfl rfl rfl (Nat.le_of_ble_eq_true rfl) ⟨Nat.le_of_ble_eq_true rfl, Nat.le_of_ble_eq_true rfl⟩ ⟨rfl, rfl⟩ ⟨Nat.zero_le _, Nat.zero_le _⟩ dX10_flush_61 ?_
        refine v_aload_n C 0 rfl dX10_flush_64 ?_
        refine v_get (v := .ref (E.1 25)) C fl_RX10_7 24 g_24 rfl dX10_flush_65 ?_
        refine v_sipush (v := (510 : Int32)) C (by decide) dX10_flush_68 ?_
        refine v_iload_n C 3 rfl dX10_flush_71 ?_
        refine v_iadd C dX10_flush_72 ?_
        refine v_iconst (v := (0 : Int32)) C (by decide) dX10_flush_73 ?_
        refine v_iast (ws' := Wd G E σ (s2 (F_X10_accesses μ1 (F_X10_place μ1 x)) 25 ((510 : Int32) + x).toNatClampNeg (0 : Int32)) Y) C 25 g_25 (by obtain ⟨q, hq, eq⟩ := fl_blk h2 ex; exact vi_add 510 eq (by omega) (by decide)) (p_25 _ _) dX10_flush_74 ?_
        refine v_aload_n C 0 rfl dX10_flush_75 ?_
        refine v_iload_n C 2 rfl dX10_flush_76 ?_
        refine v_sipush (v := (576 : Int32)) C (by decide) dX10_flush_77 ?_
        refine v_cV1 (rest := []) C mv_RX10_189 (m_X10_dirtyFrom l G E σ (s2 (F_X10_accesses μ1 (F_X10_place μ1 x)) 25 ((510 : Int32) + x).toNatClampNeg (0 : Int32)) Y md (576 : Int32) (by rw [ex] at h2 ⊢; exact (fl_step h2 hM1 hc).1)) 24 g_24 rfl rfl rfl rfl (Nat.le_of_ble_eq_true rfl) ⟨Nat.le_of_ble_eq_true rfl, Nat.le_of_ble_eq_true rfl⟩ ⟨rfl, rfl⟩ ⟨Nat.zero_le _, Nat.zero_le _⟩ dX10_flush_80 ?_
        refine v_istore_n (lv' := [(3, .int (F_X10_dirtyFrom (s2 (F_X10_accesses μ1 (F_X10_place μ1 x)) 25 ((510 : Int32) + x).toNatClampNeg (0 : Int32)) md (576 : Int32))), (0, .ref (E.1 24)), (1, .int bg), (2, .int md)]) C (Nat.le_of_ble_eq_true rfl) rfl dX10_flush_83 ?_
        refine v_goto (tgt := 51) C (by decide) dX10_flush_84 ?_
        refine v_lv [1, 2, 3, 0] rfl ?_
        exact ih bg md (F_X10_dirtyFrom (s2 (F_X10_accesses μ1 (F_X10_place μ1 x)) 25 ((510 : Int32) + x).toNatClampNeg (0 : Int32)) md (576 : Int32)) (s2 (F_X10_accesses μ1 (F_X10_place μ1 x)) 25 ((510 : Int32) + x).toNatClampNeg (0 : Int32)) (by rw [ex] at h2 ⊢; have q := fl_step h2 hM1 hc; exact ⟨q.1, q.2, rfl⟩) (by rw [hL, L_X10_flush_51, if_neg h2])
  show V zp l ze rm_X10_flush zs zm za zb zt zc 4 G zA 0 0 Q 0 [(0, .ref (E.1 24))] [] (Wd G E σ μ Y)
  refine v_aload_n C 0 rfl dX10_flush_0 ?_
  refine v_iconst (v := (0 : Int32)) C (by decide) dX10_flush_1 ?_
  refine v_put C fp_RX10_39 24 g_24 rfl rfl (Nat.le_of_ble_eq_true rfl) (p_24_3 _) dX10_flush_2 ?_
  refine v_aload_n C 0 rfl dX10_flush_5 ?_
  refine v_get (v := .ref (E.1 25)) C fl_RX10_7 24 g_24 rfl dX10_flush_6 ?_
  refine v_bipush (v := (8 : Int32)) C (by decide) dX10_flush_9 ?_
  refine v_iald (v := μ 25 8) C 25 g_25 vi_8_1700 (rdl tn_8 rfl) dX10_flush_11 ?_
  refine v_ldc (v := (100000 : Int32)) C w_1351 dX10_flush_12 ?_
  refine v_icmp_le (tgt := 23) C (by decide) dX10_flush_14 (fun h3 => ?_) (fun h3 => ?_)
  · refine v_aload_n C 0 rfl dX10_flush_23 ?_
    refine v_get (v := .ref (E.1 25)) C fl_RX10_7 24 g_24 rfl dX10_flush_24 ?_
    refine v_bipush (v := (8 : Int32)) C (by decide) dX10_flush_27 ?_
    refine v_iald (v := μ 25 8) C 25 g_25 vi_8_1700 (rdl tn_8 rfl) dX10_flush_29 ?_
    refine v_istore_n (lv' := [(1, .int (μ 25 8)), (0, .ref (E.1 24))]) C (Nat.le_of_ble_eq_true rfl) rfl dX10_flush_30 ?_
    refine v_aload_n C 1 rfl dX10_flush_31 ?_
    refine v_get (v := .ref (E.1 25)) C fl_RX10_7 24 g_24 rfl dX10_flush_32 ?_
    refine v_bipush (v := (9 : Int32)) C (by decide) dX10_flush_35 ?_
    refine v_iald (v := μ 25 9) C 25 g_25 vi_9_1700 (rdl tn_9 rfl) dX10_flush_37 ?_
    refine v_cS1 (rest := []) C ms_RX10_56 (m_X10_firstOf l G E σ (s2 μ 24 1 (0 : Int32)) Y (μ 25 9)) rfl rfl (Nat.le_of_ble_eq_true rfl) ⟨Nat.le_of_ble_eq_true rfl, Nat.le_of_ble_eq_true rfl⟩ ⟨rfl, rfl⟩ ⟨Nat.zero_le _, Nat.zero_le _⟩ dX10_flush_38 ?_
    refine v_istore_n (lv' := [(2, .int (F_X10_firstOf (μ 25 9))), (1, .int (μ 25 8)), (0, .ref (E.1 24))]) C (Nat.le_of_ble_eq_true rfl) rfl dX10_flush_41 ?_
    refine v_aload_n C 2 rfl dX10_flush_42 ?_
    refine v_iload_n C 0 rfl dX10_flush_43 ?_
    refine v_sipush (v := (576 : Int32)) C (by decide) dX10_flush_44 ?_
    refine v_cV1 (rest := []) C mv_RX10_189 (m_X10_dirtyFrom l G E σ (s2 μ 24 1 (0 : Int32)) Y (F_X10_firstOf (μ 25 9)) (576 : Int32) hM) 24 g_24 rfl rfl rfl rfl (Nat.le_of_ble_eq_true rfl) ⟨Nat.le_of_ble_eq_true rfl, Nat.le_of_ble_eq_true rfl⟩ ⟨rfl, rfl⟩ ⟨Nat.zero_le _, Nat.zero_le _⟩ dX10_flush_47 ?_
    refine v_istore_n (lv' := [(3, .int (F_X10_dirtyFrom (s2 μ 24 1 (0 : Int32)) (F_X10_firstOf (μ 25 9)) (576 : Int32))), (2, .int (F_X10_firstOf (μ 25 9))), (1, .int (μ 25 8)), (0, .ref (E.1 24))]) C (Nat.le_of_ble_eq_true rfl) rfl dX10_flush_50 ?_
    refine v_lv [3, 2, 1, 0] rfl ?_
    exact loop_51 573 (μ 25 8) (F_X10_firstOf (μ 25 9)) (F_X10_dirtyFrom (s2 μ 24 1 (0 : Int32)) (F_X10_firstOf (μ 25 9)) (576 : Int32)) (s2 μ 24 1 (0 : Int32)) (⟨hM, by have := dcnt_le (μ 25) 572; show dcnt (μ 25) 572 < 573; omega, rfl⟩) (by rw [F_X10_flush, if_pos h3])
  · refine v_aload_n C 0 rfl dX10_flush_17 ?_
    refine v_iconst (v := (1 : Int32)) C (by decide) dX10_flush_18 ?_
    refine v_cV1 (rest := []) C mv_RX10_78 (m_X10_fails l G E σ (s2 μ 24 1 (0 : Int32)) Y (1 : Int32)) 24 g_24 rfl rfl rfl rfl (Nat.le_of_ble_eq_true rfl) ⟨Nat.le_of_ble_eq_true rfl, Nat.le_of_ble_eq_true rfl⟩ ⟨rfl, rfl⟩ ⟨Nat.zero_le _, Nat.zero_le _⟩ dX10_flush_19 ?_
    have e1 : F_X10_flush μ = ((F_X10_fails (s2 μ 24 1 (0 : Int32)) (1 : Int32)).1, (F_X10_fails (s2 μ 24 1 (0 : Int32)) (1 : Int32)).2) := by rw [F_X10_flush, if_neg h3]
    exact v_Q hQ (v_iret C () trivial (by rw [e1]) (by rw [e1]) (Nat.zero_le _) (Nat.zero_le _) dX10_flush_22)
