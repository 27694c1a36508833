/-! THE START -/
def σ00 : Sg := s2 τ0 19 1 (-1)
def μ00 : Sg := s2 (s2 (s2 (s2 (s2 (s2 (s2 (fun _ _ => 0) 25 0 10) 25 1 4) 25 2 1) 25 5 200) 25 6 1000) 25 10 1) 24 5 (-1)
theorem μ00_z {i : Nat} (h : i ≠ 0 ∧ i ≠ 1 ∧ i ≠ 2 ∧ i ≠ 5 ∧ i ≠ 6 ∧ i ≠ 10) : μ00 25 i = 0 := by
  obtain ⟨h0, h1, h2, h5, h6, h10⟩ := h
  show s2 (s2 (s2 (s2 (s2 (s2 (fun _ _ => 0) 25 0 10) 25 1 4) 25 2 1) 25 5 200) 25 6 1000) 25 10 1 25 i = 0
  rw [s2_n h10, s2_n h6, s2_n h5, s2_n h2, s2_n h1, s2_n h0]
theorem LI_0 {G : GG} {E : EE} (hE : E.2.2.2.1 = none) : LI G E σ00 μ00 [] := by
  have m0 : ∀ m : Nat, m ≤ 80 → μ00 25 12 = nI m → m = 0 := fun m hm em => by
    have := (nI_eq (a := 0) (b := m) (by omega) (by omega)).mp ((μ00_z (i := 12) (by omega)).symm.trans em)
    omega
  refine ⟨⟨⟨⟨⟨rfl, rfl, rfl, rfl⟩, ⟨rfl, rfl, rfl⟩, ⟨rfl, rfl, rfl, rfl⟩, fun k hk => ?_, fun p hp => ?_⟩, ⟨⟨0, by omega, rfl⟩, ⟨0, by omega, rfl⟩, ⟨0, by omega, rfl⟩, by decide, by decide, fun r hr => ?_⟩, ⟨⟨10, by omega, rfl⟩, ⟨4, by omega, rfl⟩, ⟨1, by omega, rfl⟩, ⟨0, by omega, rfl⟩, ⟨0, by omega, rfl⟩⟩, ⟨rfl, fun m hm em => ?_⟩, ⟨rfl, rfl, rfl, rfl, Or.inr rfl⟩, ⟨rfl, Or.inl rfl, 0, by omega, rfl, fun i j hi => absurd hi (Nat.not_lt_zero _), fun i hi => absurd hi (Nat.not_lt_zero _), fun b hb => ?_⟩⟩, rfl, rfl, ⟨0, by omega, rfl⟩, fun k _ => rfl⟩, ⟨⟨200, by omega, by omega, rfl⟩, ⟨1000, by omega, by omega, rfl⟩, ⟨0, by omega, rfl⟩, fun m hm em => ?_⟩, ⟨0, by omega, rfl⟩, ⟨0, by omega, Nat.zero_le _, rfl⟩, Or.inl ⟨hE, rfl, rfl⟩⟩
  · rw [μ00_z (by omega)]; rfl
  · rw [μ00_z (by omega)]; rfl
  · rw [μ00_z (by omega)]; exact ⟨0, by omega, rfl⟩
  · rw [m0 m hm em]
    exact ⟨rfl, fun i hi => absurd hi (Nat.not_lt_zero _)⟩
  · rw [μ00_z (by omega)]
    exact ⟨Or.inl rfl, fun q => absurd q (by decide), fun ⟨i, hi, _⟩ => absurd hi (Nat.not_lt_zero _)⟩
  · rw [m0 m hm em]
    exact ⟨Nat.zero_le _, fun i hi => absurd hi (Nat.not_lt_zero _)⟩
theorem no_traces {l : Launch} (h : l.flags = flags0) : l.stackTraces = false := by
  unfold Launch.stackTraces
  rw [h]
  decide +kernel
set_option maxRecDepth 100000 in
set_option maxHeartbeats 4000000 in
theorem whole_start0 (hF : FNN) {p : Program} {e : Env} {s : State} {m : MethodId} {below : List Frame} {meth : Method} {c : Code} (l : Launch) (hflags : l.flags = flags0) {b L : Nat} {xs : Nat → Int32} (hL : L ≤ 2048) (C0 : lw_At p s m meth c b L xs) : W p l e room_1 s m #[Value.ref b] below meth c s.heap [] 0 0 (lw_Z below #[Value.ref b] s) (entryFrame m ([Value.ref b] : List Value).toArray 9) := by
  obtain ⟨hx, hb, hr, hml, hown, hts, hX, hbl, hlocks, hgv⟩ := C0
  obtain ⟨G, hg⟩ := start_gk hts hgv
  have C : CX p l room_1 s m #[Value.ref b] meth c cL_law 9 RL ret G (fun q => s.heap.size ≤ q) := ⟨hx, hb, hml, hown, fun w hw => hts w (List.mem_filter.mp hw).1, hg, fun _ h => h, hlocks, hr⟩
  have D : LC p l s m #[Value.ref b] meth c G (fun q => s.heap.size ≤ q) b L xs := ⟨C, no_traces hflags, hF, hX, hbl, Nat.not_le.mpr hbl, hL⟩
  suffices hV : V p l e room_1 s m #[Value.ref b] below meth c 9 G (fun q => s.heap.size ≤ q) 0 0 (lw_Z below #[Value.ref b] s) 0 [(0, .ref b)] [] [] by
    have hl := lv_entry ([.ref b]) (n := 9) (Nat.le_of_ble_eq_true rfl)
    rw [lg_entry_eq]
    exact hV s.heap [] _ (fun k q h => by simp at h) ⟨fun i j p q h => by simp at h, fun k q h => by simp at h⟩ va_S.rf hl
  refine v_new (ci := 8) (fs := [.null, .null, .null, .null]) C tyX9 rfl lay_X9 tyX9_ok w_73 w_74 w_49 df_X9 (Nat.le_of_ble_eq_true rfl) (Nat.le_of_ble_eq_true rfl) dL_law_0 (fun q1 => ?_)
  refine v_dup C rfl dL_law_3 ?_
  refine v_callI (n := 0) (rest := [.ref q1]) C w_75 w_76 w_49 w_77 rfl ⟨by decide +kernel, by decide +kernel, by decide +kernel⟩ (n_X9_init l G [] q1) rfl rfl (Nat.le_of_ble_eq_true rfl) ⟨(Nat.le_of_ble_eq_true rfl), (Nat.le_of_ble_eq_true rfl)⟩ ⟨(Nat.le_of_ble_eq_true rfl), (Nat.le_of_ble_eq_true rfl)⟩ dL_law_4 (fun u _ => ?_)
  refine v_astore_n (lv' := [(1, .ref q1), (0, .ref b)]) C (Nat.le_of_ble_eq_true rfl) rfl dL_law_7 ?_
  refine v_new (ci := 9) (fs := [.null, .null, .int 0, .int 0, .null, .int 0, .int 0, .int 0, .int 0, .null, .int 0, .null, .null, .null, .null, .int 0, .int 0, .int 0]) C tyX10 rfl lay_X10 tyX10_ok w_1158 w_1159 w_57 df_X10 (Nat.le_of_ble_eq_true rfl) (Nat.le_of_ble_eq_true rfl) dL_law_8 (fun q2 => ?_)
  refine v_dup C rfl dL_law_11 ?_
  refine v_callI (n := 0) (rest := [.ref q2]) C w_1160 w_1161 w_57 w_1162 rfl ⟨by decide +kernel, by decide +kernel, by decide +kernel⟩ (n_X10_init l G _ q2) rfl rfl (Nat.le_of_ble_eq_true rfl) ⟨(Nat.le_of_ble_eq_true rfl), (Nat.le_of_ble_eq_true rfl)⟩ ⟨(Nat.le_of_ble_eq_true rfl), (Nat.le_of_ble_eq_true rfl)⟩ dL_law_12 (fun v _ => ?_)
  refine v_astore_n (lv' := [(2, .ref q2), (1, .ref q1), (0, .ref b)]) C (Nat.le_of_ble_eq_true rfl) rfl dL_law_15 ?_
  refine v_iconst (v := (1 : Int32)) C (by decide) dL_law_16 ?_
  refine v_newa (atype := .long) (a0 := (1, .inr (.inl (fun _ => 0)))) (N := 1) C 3 w_1540 rfl rfl RAn_long (fun _ => rfl) (by decide) (by decide) (by decide) (Nat.le_of_ble_eq_true rfl) (Nat.le_of_ble_eq_true rfl) dL_law_17 (fun q3 => ?_)
  refine v_astore_n (lv' := [(3, .ref q3), (2, .ref q2), (1, .ref q1), (0, .ref b)]) C (Nat.le_of_ble_eq_true rfl) rfl dL_law_19 ?_
  refine v_iconst (v := (1 : Int32)) C (by decide) dL_law_20 ?_
  refine v_newa (atype := .double) (a0 := (1, .inr (.inr (.inr (.inl (fun _ => 0)))))) (N := 1) C 4 w_1541 rfl rfl RAn_double (fun _ => rfl) (by decide) (by decide) (by decide) (Nat.le_of_ble_eq_true rfl) (Nat.le_of_ble_eq_true rfl) dL_law_21 (fun q4 => ?_)
  refine v_astore (lv' := [(4, .ref q4), (3, .ref q3), (2, .ref q2), (1, .ref q1), (0, .ref b)]) C (Nat.le_of_ble_eq_true rfl) rfl dL_law_23 ?_
  refine v_iconst (v := (0 : Int32)) C (by decide) dL_law_25 ?_
  refine v_istore (lv' := [(5, .int 0), (4, .ref q4), (3, .ref q3), (2, .ref q2), (1, .ref q1), (0, .ref b)]) C (Nat.le_of_ble_eq_true rfl) rfl dL_law_26 ?_
  refine v_lv [5, 4, 3, 2, 1, 0] rfl ?_
  refine v_wid (k := 100) (n := 10000) (Nat.le_of_ble_eq_true rfl) (Nat.le_of_ble_eq_true rfl) ?_
  exact law_loop D (L / 4) 0 100 10000 ((fun j => match j with | 0 => q1 | 1 => u 0 | 2 => u 1 | 3 => u 2 | 4 => u 3 | 5 => u 4 | 6 => u 5 | 7 => u 6 | 8 => u 7 | 9 => u 8 | 10 => u 9 | 11 => u 10 | 12 => u 11 | 13 => u 12 | 14 => u 13 | 15 => u 14 | 16 => u 15 | 17 => u 16 | 18 => u 17 | 19 => u 18 | 20 => u 19 | 21 => u 20 | 22 => u 21 | 23 => u 22 | 24 => q2 | 25 => v 0 | 26 => v 1 | 27 => v 2 | 28 => v 3 | 29 => v 4 | 30 => v 5 | 31 => v 6 | 32 => v 7 | 33 => q3 | _ => q4), fun _ => 0, 0, none, 0, 0) σ00 μ00 [] (by omega) (by omega) (by omega) (by omega) (LI_0 rfl)
