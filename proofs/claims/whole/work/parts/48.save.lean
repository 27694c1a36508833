abbrev rm_X9_restore : Room := { frames := 10, cells := 82, slots := 492, locals := 300 }
set_option maxRecDepth 100000 in
theorem m_restoreN (l : Launch) (G : GG) (E : EE) (σ μ : Sg) (Y : va_W) (htr : l.stackTraces = false) (hsv : E.2.2.2.1 = none) : KX (S := Unit) l G yX9_restore cX9_restore 1 (some .int) rm_X9_restore [.ref (E.1 0)] (Wd G E σ μ Y) (fun _ => none) (fun _ => Wd G E σ μ Y) (fun _ => False) (Wd G E σ μ Y) (fun Ex => Ex = exn 2) := by
  refine KX.of (by decide) (Nat.le_of_ble_eq_true rfl) ?_
  intro zp ze zs zm za zb zt zc zA C htab
  let Q := vx_MQ zb (QcW (S := Unit) G zA (fun _ => none) (fun _ => Wd G E σ μ Y) (fun _ => False)) (XcW G zA (Wd G E σ μ Y) (fun Ex => Ex = exn 2)) za zs rm_X9_restore.cells rm_X9_restore.slots zA
  show V zp l ze rm_X9_restore zs zm za zb zt zc 1 G zA 0 0 Q 0 [(0, .ref (E.1 0))] [] (Wd G E σ μ Y)
  refine v_aload_n C 0 rfl dX9_restore_0 ?_
  refine v_get (v := .null) C fl_RX9_326 0 g_0 (by show some (va_rf E.2.2.2.1) = _; rw [hsv]; rfl) dX9_restore_1 ?_
  refine v_ifnonnullN C dX9_restore_4 ?_
  exact v_throwSW C htab htr tx_2 (List.mem_of_getElem? (i := 28) rfl) rfl rfl dX9_restore_7 dX9_restore_10 dX9_restore_11 dX9_restore_14 dX9_restore_17 ⟨(Nat.le_of_ble_eq_true rfl), (Nat.le_of_ble_eq_true rfl), (Nat.le_of_ble_eq_true rfl), (Nat.le_of_ble_eq_true rfl)⟩ ⟨(Nat.le_of_ble_eq_true rfl), (Nat.le_of_ble_eq_true rfl)⟩
set_option maxRecDepth 100000 in
theorem m_restoreS (l : Launch) (G : GG) (E F : EE) (σ μ τ : Sg) (htr : l.stackTraces = false) (hsv : E.2.2.2.1 = some (F.1 1)) (hO : CNT F τ) (hb7 : τ 7 1 = 0 ∨ τ 7 1 = 1) (hb8 : τ 8 0 = 0 ∨ τ 8 0 = 1) : KX (S := (Nat → Nat) × Nat) l G yX9_restore cX9_restore 1 (some .int) rm_X9_restore [.ref (E.1 0)] (Wd G E σ μ (YS G F τ)) (fun _ => some (.int (F_X8_copyFromR σ τ 2 4))) (fun p => Wd G (EK E p.1 p.2) (F_X8_copyFromR σ τ) μ (YS G F τ)) (fun p => E.2.2.1 ≤ p.2 ∧ ∃ n : Nat, n ≤ 80 ∧ n ≤ p.2 ∧ τ 5 0 = nI n) (Wd G E σ μ (YS G F τ)) (fun _ => False) := by
  refine KX.of (by decide) (Nat.le_of_ble_eq_true rfl) ?_
  intro zp ze zs zm za zb zt zc zA C htab
  refine v_X ?_
  generalize hQ : MQ zb _ za zs _ _ zA = Q
  show V zp l ze rm_X9_restore zs zm za zb zt zc 1 G zA 0 0 Q 0 [(0, .ref (E.1 0))] [] (Wd G E σ μ (YS G F τ))
  refine v_aload_n C 0 rfl dX9_restore_0 ?_
  refine v_get (v := .ref (F.1 1)) C fl_RX9_326 0 g_0 (by show some (va_rf E.2.2.2.1) = _; rw [hsv]; rfl) dX9_restore_1 ?_
  refine v_ifnonnull (tgt := 18) C (by decide) dX9_restore_4 ?_
  refine v_aload_n C 0 rfl dX9_restore_18 ?_
  refine v_get (v := .ref (E.1 1)) C fl_RX9_10 0 g_0 rfl dX9_restore_19 ?_
  refine v_aload_n C 0 rfl dX9_restore_22 ?_
  refine v_get (v := .ref (F.1 1)) C fl_RX9_326 0 g_0 (by show some (va_rf E.2.2.2.1) = _; rw [hsv]; rfl) dX9_restore_23 ?_
  refine v_callV (rest := []) C mv_RX9_329 (m_X8_copyFromR l G E F σ μ τ hO hb7 hb8) 1 g_1 rfl rfl rfl rfl (Nat.le_of_ble_eq_true rfl) ⟨(Nat.le_of_ble_eq_true rfl), (Nat.le_of_ble_eq_true rfl)⟩ ⟨(Nat.le_of_ble_eq_true rfl), (Nat.le_of_ble_eq_true rfl)⟩ dX9_restore_26 (fun p hp => ?_)
  refine v_aload_n C 0 rfl dX9_restore_29 ?_
  refine v_get (v := .ref (E.1 1)) C fl_RX9_10 0 g_0 rfl dX9_restore_30 ?_
  refine v_get (v := .ref (E.1 2)) C fl_RX9_41 1 g_1 rfl dX9_restore_33 ?_
  refine v_get (v := .int (F_X8_copyFromR σ τ 2 4)) C fl_RX9_146 2 g_2 rfl dX9_restore_36 ?_
  exact v_Q hQ (v_iret C p hp rfl rfl (Nat.le_of_ble_eq_true rfl) (Nat.le_of_ble_eq_true rfl) dX9_restore_39)
abbrev ES (E : EE) (q : Nat) : EE := (E.1, E.2.1, E.2.2.1, some q, E.2.2.2.2)
def τ0 : Sg := s2 (s2 (s2 (s2 (s2 (s2 (fun _ _ => 0) 2 0 10) 2 1 4) 2 2 1) 7 1 1) 7 2 200) 7 3 1000
def F0_ (q : Nat) (u : Nat → Nat) : EE := (fun j => match j with | 1 => q | 2 => u 0 | 3 => u 1 | 4 => u 2 | 5 => u 3 | 6 => u 4 | 7 => u 5 | 8 => u 6 | _ => u 7, fun _ => 0, 0, none, 0, 0)
theorem rowsF_0 (q : Nat) (u : Nat → Nat) : rowsF (F0_ q u) = fun _ => none := by funext i; unfold rowsF F0_; simp
theorem YS_0 (G : GG) (q : Nat) (u : Nat → Nat) : YS G (F0_ q u) τ0 = T_X8_init G q u := by
  unfold YS fxY
  rw [rowsF_0]
  rfl
theorem W_saved {G : GG} {E : EE} {σ μ : Sg} {q : Nat} {u : Nat → Nat} : (Wd G E σ μ [] ++ T_X8_init G q u).set 0 (E.1 0, .inr (8, [.ref (E.1 1), .ref (E.1 10), .ref (E.1 19), .ref q])) = Wd G (ES E q) σ μ (YS G (F0_ q u) τ0) := by
  rw [Wd_app, YS_0]
  rfl
abbrev rm_X9_save : Room := { frames := 10, cells := 100, slots := 1200, locals := 300 }
set_option maxRecDepth 100000 in
set_option maxHeartbeats 1000000 in
theorem m_saveN (l : Launch) (G : GG) (E : EE) (σ μ : Sg) (hsv : E.2.2.2.1 = none) (hO : CNT E σ) (hb7 : σ 7 1 = 0 ∨ σ 7 1 = 1) (hb8 : σ 8 0 = 0 ∨ σ 8 0 = 1) : KE (S := EE) l G yX9_save cX9_save 1 none rm_X9_save [.ref (E.1 0)] (Wd G E σ μ []) (fun _ => none) (fun F => Wd G (ES E (F.1 1)) σ μ (YS G F (F_X8_copyFromS σ τ0))) (fun F => ∃ n : Nat, n ≤ 80 ∧ n ≤ F.2.2.1 ∧ σ 5 0 = nI n) := by
  refine KE.of (by decide) (Nat.le_of_ble_eq_true rfl) ?_
  intro zp ze zs zm za zb zt zc zA C _
  generalize hQ : MQ zb _ za zs _ _ zA = Q
  show V zp l ze rm_X9_save zs zm za zb zt zc 1 G zA 0 0 Q 0 [(0, .ref (E.1 0))] [] (Wd G E σ μ [])
  refine v_aload_n C 0 rfl dX9_save_0 ?_
  refine v_get (v := .null) C fl_RX9_326 0 g_0 (by show some (va_rf E.2.2.2.1) = _; rw [hsv]; rfl) dX9_save_1 ?_
  refine v_ifnonnullN C dX9_save_4 ?_
  refine v_aload_n C 0 rfl dX9_save_7 ?_
  refine v_new (ci := 7) (fs := [.null, .null, .null, .null]) C tyX8 rfl lay_X8 tyX8_ok w_81 w_82 w_50 df_X8 (Nat.le_of_ble_eq_true rfl) (Nat.le_of_ble_eq_true rfl) dX9_save_8 (fun q => ?_)
  refine v_dup C rfl dX9_save_11 ?_
  refine v_callIN (n := 0) (rest := [.ref q, .ref (E.1 0)]) C (List.mem_of_getElem? (i := 0) rfl) w_84 w_50 w_85 rfl ⟨by decide +kernel, by decide +kernel, by decide +kernel⟩ (n_X8_init l G (Wd G E σ μ []) q) rfl rfl (Nat.le_of_ble_eq_true rfl) ⟨(Nat.le_of_ble_eq_true rfl), (Nat.le_of_ble_eq_true rfl)⟩ ⟨(Nat.le_of_ble_eq_true rfl), (Nat.le_of_ble_eq_true rfl)⟩ dX9_save_12 (fun u _ => ?_)
  refine v_put (ws' := Wd G (ES E q) σ μ (YS G (F0_ q u) τ0)) C fp_RX9_326 0 (gL g_0) rfl rfl (Nat.le_of_ble_eq_true rfl) (W_saved (E := E)) dX9_save_15 ?_
  refine v_aload_n C 0 rfl dX9_save_18 ?_
  refine v_get (v := .ref q) C fl_RX9_326 0 g_0 rfl dX9_save_19 ?_
  refine v_aload_n C 0 rfl dX9_save_22 ?_
  refine v_get (v := .ref (E.1 1)) C fl_RX9_10 0 g_0 rfl dX9_save_23 ?_
  refine v_callV (rest := []) C mv_RX9_329 (m_X8_copyFromS l G (ES E q) (F0_ q u) σ μ τ0 hO hb7 hb8) (35 + (ES E q).2.2.1 + 0) (gY rfl) rfl rfl rfl rfl (Nat.le_of_ble_eq_true rfl) ⟨(Nat.le_of_ble_eq_true rfl), (Nat.le_of_ble_eq_true rfl)⟩ ⟨(Nat.le_of_ble_eq_true rfl), (Nat.le_of_ble_eq_true rfl)⟩ dX9_save_26 (fun p hp => ?_)
  exact v_Q hQ (v_vret C (EK (F0_ q u) p.1 p.2) hp.2 rfl rfl (Nat.le_of_ble_eq_true rfl) (Nat.le_of_ble_eq_true rfl) dX9_save_29)
set_option maxRecDepth 100000 in
theorem m_saveS (l : Launch) (G : GG) (E F : EE) (σ μ τ : Sg) (hsv : E.2.2.2.1 = some (F.1 1)) (hO : CNT E σ) (hb7 : σ 7 1 = 0 ∨ σ 7 1 = 1) (hb8 : σ 8 0 = 0 ∨ σ 8 0 = 1) : KE (S := EE) l G yX9_save cX9_save 1 none rm_X9_save [.ref (E.1 0)] (Wd G E σ μ (YS G F τ)) (fun _ => none) (fun F' => Wd G E σ μ (YS G F' (F_X8_copyFromS σ τ))) (fun F' => F'.1 = F.1 ∧ ∃ n : Nat, n ≤ 80 ∧ n ≤ F'.2.2.1 ∧ σ 5 0 = nI n) := by
  refine KE.of (by decide) (Nat.le_of_ble_eq_true rfl) ?_
  intro zp ze zs zm za zb zt zc zA C _
  generalize hQ : MQ zb _ za zs _ _ zA = Q
  show V zp l ze rm_X9_save zs zm za zb zt zc 1 G zA 0 0 Q 0 [(0, .ref (E.1 0))] [] (Wd G E σ μ (YS G F τ))
  refine v_aload_n C 0 rfl dX9_save_0 ?_
  refine v_get (v := .ref (F.1 1)) C fl_RX9_326 0 g_0 (by show some (va_rf E.2.2.2.1) = _; rw [hsv]; rfl) dX9_save_1 ?_
  refine v_ifnonnull (tgt := 18) C (by decide) dX9_save_4 ?_
  refine v_aload_n C 0 rfl dX9_save_18 ?_
  refine v_get (v := .ref (F.1 1)) C fl_RX9_326 0 g_0 (by show some (va_rf E.2.2.2.1) = _; rw [hsv]; rfl) dX9_save_19 ?_
  refine v_aload_n C 0 rfl dX9_save_22 ?_
  refine v_get (v := .ref (E.1 1)) C fl_RX9_10 0 g_0 rfl dX9_save_23 ?_
  refine v_callV (rest := []) C mv_RX9_329 (m_X8_copyFromS l G E F σ μ τ hO hb7 hb8) (35 + E.2.2.1 + 0) (gY rfl) rfl rfl rfl rfl (Nat.le_of_ble_eq_true rfl) ⟨(Nat.le_of_ble_eq_true rfl), (Nat.le_of_ble_eq_true rfl)⟩ ⟨(Nat.le_of_ble_eq_true rfl), (Nat.le_of_ble_eq_true rfl)⟩ dX9_save_26 (fun p hp => ?_)
  exact v_Q hQ (v_vret C (EK F p.1 p.2) ⟨rfl, hp.2⟩ rfl rfl (Nat.le_of_ble_eq_true rfl) (Nat.le_of_ble_eq_true rfl) dX9_save_29)
