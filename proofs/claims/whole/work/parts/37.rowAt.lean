/-! the world with one request more -/
abbrev EK (E : EE) (u : Nat → Nat) (K : Nat) : EE := (E.1, u, K, E.2.2.2)
def z5 (σ : Sg) (j : Nat) : Sg := s2 (s2 (s2 (s2 (s2 σ 40 j 0) 41 j 0) 42 j 0) 43 j 0) 44 j 0
def va_u (E : EE) (q : Nat) : Nat → Nat := fun i => if i = E.2.2.1 then q else E.2.1 i
theorem gL {ws tl : va_W} {k : Nat} {x : Nat × va_E} (h : ws[k]? = some x) : (ws ++ tl)[k]? = some x := by
  rw [List.getElem?_append_left (List.getElem?_eq_some_iff.mp h).1]; exact h
theorem rowsF_up {E : EE} {q : Nat} : va_up (rowsF E) E.2.2.1 (some q) = rowsF (EK E (va_u E q) (E.2.2.1 + 1)) := by
  funext i
  unfold va_up rowsF va_u
  by_cases h : i = E.2.2.1
  · subst h; simp
  · by_cases h2 : i < E.2.2.1
    · simp [h, h2, show i < E.2.2.1 + 1 by omega]
    · simp [h, h2, show ¬ i < E.2.2.1 + 1 by omega]
theorem rowsW_up {E : EE} {σ : Sg} {q : Nat} : rowsW (EK E (va_u E q) (E.2.2.1 + 1)) (z5 σ E.2.2.1) = rowsW E σ ++ [(q, .inr (3, [.int (nI E.2.2.1), .int 0, .int 0, .int 0, .int 0, .int 0]))] := by
  unfold rowsW
  show List.map _ (List.range (E.2.2.1 + 1)) = _
  rw [List.range_succ, List.map_append]
  congr 1
  · apply List.map_congr_left
    intro i hi
    have hi' : i ≠ E.2.2.1 := by have := List.mem_range.mp hi; omega
    simp [va_u, hi', rowC, z5, s2, upd]
  · simp [va_u, rowC, z5, s2, upd]
theorem Wd_up {G : GG} {E : EE} {σ μ : Sg} {Y : va_W} {q : Nat} : (Wd G E σ μ Y ++ ([(q, .inr (3, [.int (nI E.2.2.1), .int 0, .int 0, .int 0, .int 0, .int 0]))] : va_W)).set 6 (E.1 6, .inl (G.2 2, 80, .inr (.inr (.inr (.inr (va_up (rowsF E) E.2.2.1 (some q))))))) = ((fxW G (EK E (va_u E q) (E.2.2.1 + 1)) (z5 σ E.2.2.1) μ ++ rowsW E σ) ++ Y) ++ [(q, .inr (3, [.int (nI E.2.2.1), .int 0, .int 0, .int 0, .int 0, .int 0]))] := by
  have h1 : (fxW G E σ μ).set 6 (E.1 6, .inl (G.2 2, 80, .inr (.inr (.inr (.inr (va_up (rowsF E) E.2.2.1 (some q))))))) = fxW G (EK E (va_u E q) (E.2.2.1 + 1)) (z5 σ E.2.2.1) μ := by
    rw [rowsF_up]; rfl
  unfold Wd
  rw [List.append_assoc, List.append_assoc, List.set_append_left _ _ (by rw [fxW_len]; omega), h1, List.append_assoc, List.append_assoc]
section VS
variable {p : Program} {l : Launch} {e : Env} {R : Room} {s : State} {m : MethodId} {args : Array Value} {below : List Frame} {meth : Method} {c : Code} {nL : Nat} {G : GG} {A : Nat → Prop} {cells slots : Nat} {Q : State → Prop} {pc : Nat} {lv : List (Nat × Value)} {st : List Value}
theorem v_swap {a b d : va_W} (k : V p l e R s m args below meth c nL G A cells slots Q pc lv st ((a ++ d) ++ b)) : V p l e R s m args below meth c nL G A cells slots Q pc lv st ((a ++ b) ++ d) := fun H locs ls hP hD hS hl => k H locs ls hP.swap hD.swap hS hl
theorem v_made {E : EE} {σ μ : Sg} {Y : va_W} {q : Nat} (k : V p l e R s m args below meth c nL G A cells slots Q pc lv st (Wd G (EK E (va_u E q) (E.2.2.1 + 1)) (z5 σ E.2.2.1) μ Y)) : V p l e R s m args below meth c nL G A cells slots Q pc lv st ((Wd G E σ μ Y ++ ([(q, .inr (3, [.int (nI E.2.2.1), .int 0, .int 0, .int 0, .int 0, .int 0]))] : va_W)).set 6 (E.1 6, .inl (G.2 2, 80, .inr (.inr (.inr (.inr (va_up (rowsF E) E.2.2.1 (some q)))))))) := by
  rw [Wd_up]
  refine v_swap ?_
  refine v_eqw ?_ k
  unfold Wd
  rw [rowsW_up, List.append_assoc, List.append_assoc, List.append_assoc]
end VS
/-- what a row is when it is asked for -/
def zr (E : EE) (σ : Sg) (j : Nat) : Sg := if j < E.2.2.1 then σ else z5 σ j
theorem w79 {j : Nat} (hj : j < 80) : ¬ F_X9_isWithin (nI j) 0 79 = 0 := by
  unfold F_X9_isWithin
  rw [if_neg (by rw [show (0 : Int32) = nI 0 from rfl, nI_ltI (by omega) (by omega)]; omega), if_neg (by rw [show (79 : Int32) = nI 79 from rfl, nI_ltI (by omega) (by omega)]; omega)]
  decide
abbrev rm_X6_rowAt : Room := { frames := 3, cells := 1, slots := 6, locals := 100 }
theorem nIc {j : Nat} (h : j < 80) : (nI j).toNatClampNeg = j := nI_clamp (by omega)
set_option maxRecDepth 100000 in
set_option maxHeartbeats 1000000 in
theorem m_X6_rowAt (l : Launch) (G : GG) (E : EE) (σ μ : Sg) (Y : va_W) (j : Nat) (hj : j < 80) (hjK : j ≤ E.2.2.1) : KE (S := Nat → Nat) l G yX6_rowAt cX6_rowAt 2 (some (.object "DiskArmSimulator$Request")) rm_X6_rowAt [.ref (E.1 5), .int (nI j)] (Wd G E σ μ Y) (fun u => some (.ref (u j))) (fun u => Wd G (EK E u (max E.2.2.1 (j + 1))) (zr E σ j) μ Y) (fun u => ∀ i, i < E.2.2.1 → u i = E.2.1 i) := by
  refine KE.of (S := Nat → Nat) (by decide) (Nat.le_of_ble_eq_true rfl) ?_
  intro zp ze zs zm za zb zt zc zA C _
  generalize hQ : MQ zb _ za zs _ _ zA = Q
  show V zp l ze rm_X6_rowAt zs zm za zb zt zc 2 G zA 0 0 Q 0 [(0, .ref (E.1 5)), (1, .int (nI j))] [] (Wd G E σ μ Y)
  refine v_iload_n C 1 rfl dX6_rowAt_0 ?_
  refine v_iconst (v := (0 : Int32)) C (by decide) dX6_rowAt_1 ?_
  refine v_bipush (v := (79 : Int32)) C (by decide) dX6_rowAt_2 ?_
  refine v_cN1 (rest := []) C mn_RX6_32 w_378 (m_X9_isWithin l G E σ μ Y (nI j) 0 79) rfl rfl (Nat.le_of_ble_eq_true rfl) ⟨(Nat.le_of_ble_eq_true rfl), (Nat.le_of_ble_eq_true rfl)⟩ ⟨rfl, rfl⟩ ⟨Nat.zero_le _, Nat.zero_le _⟩ dX6_rowAt_4 ?_
  refine v_if_ne (tgt := 12) C (by decide) dX6_rowAt_7 (fun h1 => ?_) (fun h1 => absurd h1 (w79 hj))
  refine v_aload_n C 0 rfl dX6_rowAt_12 ?_
  refine v_get (v := .ref (E.1 6)) C fl_RX6_11 5 g_5 rfl dX6_rowAt_13 ?_
  refine v_iload_n C 1 rfl dX6_rowAt_16 ?_
  by_cases hlt : j < E.2.2.1
  · refine v_aald (v := .ref (E.2.1 j)) C 6 g_6 (vp_in_nI hj (by decide)) (by rw [nIc hj]; exact rowsF_lt hlt) dX6_rowAt_17 ?_
    refine v_ifnonnull (tgt := 35) C (by decide) dX6_rowAt_18 ?_
    refine v_aload_n C 0 rfl dX6_rowAt_35 ?_
    refine v_get (v := .ref (E.1 6)) C fl_RX6_11 5 g_5 rfl dX6_rowAt_36 ?_
    refine v_iload_n C 1 rfl dX6_rowAt_39 ?_
    refine v_aald (v := .ref (E.2.1 j)) C 6 g_6 (vp_in_nI hj (by decide)) (by rw [nIc hj]; exact rowsF_lt hlt) dX6_rowAt_40 ?_
    exact v_Q hQ (v_aret C (Or.inr ⟨_, rfl⟩) E.2.1 (fun _ _ => rfl) rfl (by rw [Nat.max_eq_left (by omega), zr, if_pos hlt]) (Nat.zero_le _) (Nat.zero_le _) dX6_rowAt_41)
  · have ej : j = E.2.2.1 := by omega
    refine v_aald (v := .null) C 6 g_6 (vp_in_nI hj (by decide)) (by rw [nIc hj]; unfold rowsF; rw [if_neg hlt]; rfl) dX6_rowAt_17 ?_
    refine v_ifnonnullN C dX6_rowAt_18 ?_
    refine v_aload_n C 0 rfl dX6_rowAt_21 ?_
    refine v_get (v := .ref (E.1 6)) C fl_RX6_11 5 g_5 rfl dX6_rowAt_22 ?_
    refine v_iload_n C 1 rfl dX6_rowAt_25 ?_
    refine v_new (ci := 3) (fs := [.int 0, .int 0, .int 0, .int 0, .int 0, .int 0]) C tyX4 rfl lay_X4 tyX4_ok w_157 w_380 w_69 df_X4 (Nat.le_of_ble_eq_true rfl) (Nat.le_of_ble_eq_true rfl) dX6_rowAt_26 (fun q => ?_)
    refine v_dup C rfl dX6_rowAt_29 ?_
    refine v_iload_n C 1 rfl dX6_rowAt_30 ?_
    refine v_callI (n := 1) (rest := [.ref q, .int (nI j), .ref (E.1 6)]) C w_381 w_382 w_69 w_383 rfl ⟨by decide +kernel, by decide +kernel, by decide +kernel⟩ (n_X4_init l G (Wd G E σ μ Y) q (nI j)) rfl rfl (Nat.le_of_ble_eq_true rfl) ⟨(Nat.le_of_ble_eq_true rfl), (Nat.le_of_ble_eq_true rfl)⟩ ⟨(Nat.le_of_ble_eq_true rfl), (Nat.le_of_ble_eq_true rfl)⟩ dX6_rowAt_31 (fun u _ => ?_)
    refine v_aast C 6 ((Wd G E σ μ Y).length + 0) (gL g_6) (gA 0 rfl) (vp_in_nI hj (by decide)) rfl dX6_rowAt_34 ?_
    rw [nIc hj]
    subst ej
    refine v_made ?_
    refine v_aload_n C 0 rfl dX6_rowAt_35 ?_
    refine v_get (v := .ref (E.1 6)) C fl_RX6_11 5 g_5 rfl dX6_rowAt_36 ?_
    refine v_iload_n C 1 rfl dX6_rowAt_39 ?_
    refine v_aald (v := .ref (va_u E q E.2.2.1)) C 6 g_6 (vp_in_nI hj (by decide)) (by rw [nIc hj]; exact rowsF_lt (E := EK E (va_u E q) (E.2.2.1 + 1)) (Nat.lt_succ_self _)) dX6_rowAt_40 ?_
    exact v_Q hQ (v_aret C (Or.inr ⟨_, rfl⟩) (va_u E q) (fun i hi => by unfold va_u; rw [if_neg (by omega)]) rfl (by rw [Nat.max_eq_right (by omega), zr, if_neg hlt]) (Nat.le_of_ble_eq_true rfl) (Nat.le_of_ble_eq_true rfl) dX6_rowAt_41)
