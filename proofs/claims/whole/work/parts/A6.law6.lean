theorem save_243 (μ : Sg) : F_X10_save μ 24 3 = μ 24 3 := by
  obtain ⟨-, b⟩ := save_L (μ := μ) 1701 0 (s2 (s2 μ 24 1 0) 24 0 1) (by omega) (by omega) (fun i hi => absurd hi (Nat.not_lt_zero _))
  have e24 : F_X10_save μ 24 = s2 (s2 μ 24 1 0) 24 0 1 24 := b 24 (by omega)
  rw [e24]; rfl
theorem rest_243 {μ : Sg} (h0 : μ 24 0 = 1) : (F_X10_restore μ).2 24 3 = μ 24 3 := by
  obtain ⟨-, b, -⟩ := restore_L (μ := μ) 1701 0 (s2 μ 24 1 0) (by omega) (by omega) (fun i hi => absurd hi (Nat.not_lt_zero _))
  have e1 : F_X10_restore μ = L_X10_restore_20 μ 1701 (nI 0) (s2 μ 24 1 0) := by unfold F_X10_restore; rw [if_neg (by rw [h0]; decide)]; rfl
  rw [e1, b 24 (by omega)]; rfl
theorem cntS {σ τ : Sg} {F1 : EE} (h : ∃ n : Nat, n ≤ 80 ∧ n ≤ F1.2.2.1 ∧ σ 5 0 = nI n) : CNT F1 (F_X8_copyFromS σ τ) := by
  obtain ⟨n, n8, nF, n5⟩ := h
  exact ⟨n, n8, nF, (copyS_agr (τ := τ) n8 n5).2.2.2.1.1.trans n5⟩
theorem sav7 {τ μ : Sg} (h : SAV τ μ) : τ 7 1 = 0 ∨ τ 7 1 = 1 := by rw [h.1.2.2.2.2.1.2.1]; exact h.1.2.2.2.2.1.2.2.2.2
theorem sav8 {τ μ : Sg} (h : SAV τ μ) : τ 8 0 = 0 ∨ τ 8 0 = 1 := by rw [h.1.2.2.2.2.2.1]; exact h.1.2.2.2.2.2.2.1
theorem restN_LI {G : GG} {E : EE} {σ μ : Sg} {Y : va_W} (h : LI G E σ μ Y) (h0 : μ 24 0 = 0) : LI G E σ (F_X10_restore μ).2 Y := by
  have e : F_X10_restore μ = F_X10_fails (s2 μ 24 1 0) 1 := by unfold F_X10_restore; rw [if_pos h0]
  rw [e]
  exact h.step ((h.1.t 0).t 1) h.2.1 ⟨rfl, rfl, rfl, rfl⟩ rfl rfl
theorem restS_LI {G : GG} {E F : EE} {σ μ τ : Sg} {w : Int64} {u : (Nat → Nat) × Nat} {Y : va_W} (h : LI G E σ μ Y) (hv1 : E.2.2.2.1 = some (F.1 1)) (hv3 : CNT F τ) (hv4 : SAV τ μ) (h0 : μ 24 0 = 1) (S3 : SIM (F_X8_copyFromR σ τ) (F_X10_restore μ).2) (S4 : AR ((F_X10_restore μ).2 25)) (S5 : (F_X10_restore μ).2 26 = μ 26) (S6 : (F_X10_restore μ).2 24 0 = 1) (hu : E.2.2.1 ≤ u.2 ∧ ∃ n : Nat, n ≤ 80 ∧ n ≤ u.2 ∧ τ 5 0 = nI n) : LI G (EO (EK E u.1 u.2) w) (F_X8_copyFromR σ τ) (F_X10_restore μ).2 (YS G F τ) := by
  obtain ⟨-, n, n8, nu, n5⟩ := hu
  refine ⟨S3, S4, ⟨h.2.2.1.choose, h.2.2.1.choose_spec.1, (rest_243 h0).trans h.2.2.1.choose_spec.2⟩, ⟨n, n8, nu, (copyR_agr (σ := σ) n8 n5).2.2.2.1.1.trans n5⟩, Or.inr ⟨F, τ, hv1, rfl, hv3, ?_, S6⟩⟩
  unfold SAV
  rw [S5]; exact hv4
set_option maxRecDepth 100000 in
set_option maxHeartbeats 2000000 in
theorem st_39 {p : Program} {l : Launch} {e : Env} {s : State} {m : MethodId} {args : Array Value} {below : List Frame} {meth : Method} {c : Code} {G : GG} {A : Nat → Prop} {b L : Nat} {xs : Nat → Int32} {Q : State → Prop} (D : LC p l s m args meth c G A b L xs) {i : Nat} (hi : i + 4 ≤ L) {cells slots : Nat} (hc : cells + 100 ≤ room_1.cells) (hs : slots + 1200 ≤ room_1.slots) {E : EE} {σ μ : Sg} {Y : va_W} (h : LI G E σ μ Y) (kk : ∀ (E' : EE) (σ' μ' : Sg) (Y' : va_W), E'.1 = E.1 → LI G E' σ' μ' Y' → V p l e room_1 s m args below meth c 9 G A (cells + 100) (slots + 1200) Q 2210 [(0, .ref b), (1, .ref (E.1 0)), (2, .ref (E.1 24)), (3, .ref (E.1 33)), (4, .ref (E.1 34)), (5, .int (nI i))] [] (Wd G E' σ' μ' Y')) : V p l e room_1 s m args below meth c 9 G A cells slots Q 2155 [(0, .ref b), (1, .ref (E.1 0)), (2, .ref (E.1 24)), (3, .ref (E.1 33)), (4, .ref (E.1 34)), (5, .int (nI i))] [] (Wd G E σ μ Y) := by
  obtain ⟨C, htr, hF, hX, hbl, hbA, hL⟩ := D
  refine v_aload_n C 1 rfl dL_law_2155 ?_
  obtain ⟨n5, n8, nE, e5⟩ := h.2.2.2.1
  have hK := h.2.2.2.1
  rcases h.2.2.2.2 with ⟨hv1, hv2, hv3⟩ | ⟨F, τ, hv1, hv2, hv3, hv4, hv5⟩
  · subst hv2
    refine v_callV (rest := []) (As := []) C mv_RL_276 (m_saveN l G E σ μ hv1 hK h.b7 h.b8) 0 g_0 rfl rfl rfl rfl (Nat.le_of_ble_eq_true rfl) ⟨(Nat.le_of_ble_eq_true rfl), (Nat.le_of_ble_eq_true rfl)⟩ ⟨Nat.le_trans (Nat.add_le_add_left (Nat.le_of_ble_eq_true rfl) cells) hc, Nat.le_trans (Nat.add_le_add_left (Nat.le_of_ble_eq_true rfl) slots) hs⟩ dL_law_2156 (fun F1 hF1 => ?_)
    refine v_wid (k := cells + 100) (n := slots + 1200) (Nat.add_le_add_left (Nat.le_of_ble_eq_true rfl) cells) (Nat.add_le_add_left (Nat.le_of_ble_eq_true rfl) slots) ?_
    obtain ⟨S1, S2, S3, S4⟩ := S_save (τ := τ0) h.1 h.2.1
    refine v_aload_n C 2 rfl dL_law_2159 ?_
    refine v_cV0 (rest := []) C mv_RL_279 (m_X10_save l G (ES E (F1.1 1)) σ μ (YS G F1 (F_X8_copyFromS σ τ0))) 24 g_24 rfl rfl rfl rfl (Nat.le_of_ble_eq_true rfl) ⟨(Nat.le_of_ble_eq_true rfl), (Nat.le_of_ble_eq_true rfl)⟩ ⟨rfl, rfl⟩ ⟨hc, hs⟩ dL_law_2160 ?_
    refine v_goto (tgt := 2210) C (by decide) dL_law_2163 ?_
    exact kk (ES E (F1.1 1)) σ (F_X10_save μ) (YS G F1 (F_X8_copyFromS σ τ0)) rfl ⟨S1, S2, ⟨h.2.2.1.choose, h.2.2.1.choose_spec.1, (save_243 μ).trans h.2.2.1.choose_spec.2⟩, hK, Or.inr ⟨F1, F_X8_copyFromS σ τ0, rfl, rfl, cntS hF1, S3, S4⟩⟩
  · subst hv2
    refine v_callV (rest := []) (As := []) C mv_RL_276 (m_saveS l G E F σ μ τ hv1 hK h.b7 h.b8) 0 g_0 rfl rfl rfl rfl (Nat.le_of_ble_eq_true rfl) ⟨(Nat.le_of_ble_eq_true rfl), (Nat.le_of_ble_eq_true rfl)⟩ ⟨Nat.le_trans (Nat.add_le_add_left (Nat.le_of_ble_eq_true rfl) cells) hc, Nat.le_trans (Nat.add_le_add_left (Nat.le_of_ble_eq_true rfl) slots) hs⟩ dL_law_2156 (fun F1 hF1 => ?_)
    refine v_wid (k := cells + 100) (n := slots + 1200) (Nat.add_le_add_left (Nat.le_of_ble_eq_true rfl) cells) (Nat.add_le_add_left (Nat.le_of_ble_eq_true rfl) slots) ?_
    obtain ⟨S1, S2, S3, S4⟩ := S_save (τ := τ) h.1 h.2.1
    refine v_aload_n C 2 rfl dL_law_2159 ?_
    refine v_cV0 (rest := []) C mv_RL_279 (m_X10_save l G E σ μ (YS G F1 (F_X8_copyFromS σ τ))) 24 g_24 rfl rfl rfl rfl (Nat.le_of_ble_eq_true rfl) ⟨(Nat.le_of_ble_eq_true rfl), (Nat.le_of_ble_eq_true rfl)⟩ ⟨rfl, rfl⟩ ⟨hc, hs⟩ dL_law_2160 ?_
    refine v_goto (tgt := 2210) C (by decide) dL_law_2163 ?_
    exact kk E σ (F_X10_save μ) (YS G F1 (F_X8_copyFromS σ τ)) rfl ⟨S1, S2, ⟨h.2.2.1.choose, h.2.2.1.choose_spec.1, (save_243 μ).trans h.2.2.1.choose_spec.2⟩, hK, Or.inr ⟨F1, F_X8_copyFromS σ τ, (hv1.trans (by rw [hF1.1])), rfl, cntS hF1.2, S3, S4⟩⟩
set_option maxRecDepth 100000 in
set_option maxHeartbeats 2000000 in
theorem st_40 {p : Program} {l : Launch} {e : Env} {s : State} {m : MethodId} {args : Array Value} {below : List Frame} {meth : Method} {c : Code} {G : GG} {A : Nat → Prop} {b L : Nat} {xs : Nat → Int32} {Q : State → Prop} (D : LC p l s m args meth c G A b L xs) {i : Nat} (hi : i + 4 ≤ L) {cells slots : Nat} (hc : cells + 100 ≤ room_1.cells) (hs : slots + 1200 ≤ room_1.slots) {E : EE} {σ μ : Sg} {Y : va_W} (h : LI G E σ μ Y) (kk : ∀ (E' : EE) (σ' μ' : Sg) (Y' : va_W), E'.1 = E.1 → LI G E' σ' μ' Y' → V p l e room_1 s m args below meth c 9 G A (cells + 100) (slots + 1200) Q 2210 [(0, .ref b), (1, .ref (E.1 0)), (2, .ref (E.1 24)), (3, .ref (E.1 33)), (4, .ref (E.1 34)), (5, .int (nI i))] [] (Wd G E' σ' μ' Y')) : V p l e room_1 s m args below meth c 9 G A cells slots Q 2166 [(0, .ref b), (1, .ref (E.1 0)), (2, .ref (E.1 24)), (3, .ref (E.1 33)), (4, .ref (E.1 34)), (5, .int (nI i))] [] (Wd G E σ μ Y) := by
  obtain ⟨C, htr, hF, hX, hbl, hbA, hL⟩ := D
  refine v_aload_n C 1 rfl dL_law_2166 ?_
  refine v_aload_n C 3 rfl dL_law_2167 ?_
  rcases h.2.2.2.2 with ⟨hv1, hv2, hv3⟩ | ⟨F, τ, hv1, hv2, hv3, hv4, hv5⟩
  · refine v_callSH (rest := []) (As := [.ref (E.1 0), .ref (E.1 33)]) C ml_280 (m_L_restoreN l G E σ μ Y htr hv1) rfl rfl (Nat.le_of_ble_eq_true rfl) ⟨(Nat.le_of_ble_eq_true rfl), (Nat.le_of_ble_eq_true rfl)⟩ ⟨Nat.le_trans (Nat.add_le_add_left (Nat.le_of_ble_eq_true rfl) cells) hc, Nat.le_trans (Nat.add_le_add_left (Nat.le_of_ble_eq_true rfl) slots) hs⟩ dL_law_2168 (fun u hu => ?_)
    refine v_wid (k := cells + 100) (n := slots + 1200) (Nat.add_le_add_left (Nat.le_of_ble_eq_true rfl) cells) (Nat.add_le_add_left (Nat.le_of_ble_eq_true rfl) slots) ?_
    have S1 : (1 : Int32) = (F_X10_restore μ).2 24 1 := by unfold F_X10_restore; rw [if_pos hv3]; rfl
    have S2 : (1 : Nat) = 0 → (F_X10_restore μ).1 = 0 := fun q => absurd q (by decide)
    generalize hk : (1 : Int32) = k1 at S1
    refine v_istore (lv' := [(6, .int k1), (0, .ref b), (1, .ref (E.1 0)), (2, .ref (E.1 24)), (3, .ref (E.1 33)), (4, .ref (E.1 34)), (5, .int (nI i))]) C (Nat.le_of_ble_eq_true rfl) rfl dL_law_2171 ?_
    refine v_aload_n C 3 rfl dL_law_2173 ?_
    refine v_cV1 (rest := []) C mv_RL_282 (m_X10_restore l G E σ μ Y) 24 g_24 rfl rfl rfl rfl (Nat.le_of_ble_eq_true rfl) ⟨(Nat.le_of_ble_eq_true rfl), (Nat.le_of_ble_eq_true rfl)⟩ ⟨rfl, rfl⟩ ⟨hc, hs⟩ dL_law_2174 ?_
    refine v_istore (lv' := [(7, .int ((F_X10_restore μ).1)), (6, .int k1), (0, .ref b), (1, .ref (E.1 0)), (2, .ref (E.1 24)), (3, .ref (E.1 33)), (4, .ref (E.1 34)), (5, .int (nI i))]) C (Nat.le_of_ble_eq_true rfl) rfl dL_law_2177 ?_
    refine v_aload_n C 4 rfl dL_law_2179 ?_
    refine v_cV1 (rest := []) C mv_RL_145 (m_X10_thrown l G E σ (F_X10_restore μ).2 Y) 24 g_24 rfl rfl rfl rfl (Nat.le_of_ble_eq_true rfl) ⟨(Nat.le_of_ble_eq_true rfl), (Nat.le_of_ble_eq_true rfl)⟩ ⟨rfl, rfl⟩ ⟨hc, hs⟩ dL_law_2180 ?_
    refine v_iload C 1 rfl dL_law_2183 ?_
    refine v_icmp_eq (tgt := 2190) C (by decide) dL_law_2185 (fun ht => ?_) (fun ht => absurd (show F_X10_thrown (F_X10_restore μ).2 = k1 from S1.symm) ht)
    refine v_iload C 1 rfl dL_law_2190 ?_
    refine v_if_ne (tgt := 2207) C (by decide) dL_law_2192 (fun _ => ?_) (fun hz0 => absurd (hk.trans hz0) (by decide))
    refine v_goto (tgt := 2210) C (by decide) dL_law_2207 ?_
    refine v_lv [2, 3, 4, 5, 6, 7] rfl ?_
    exact kk E σ (F_X10_restore μ).2 Y rfl (restN_LI h hv3)
  · subst hv2
    refine v_callSH (rest := []) (As := [.ref (E.1 0), .ref (E.1 33)]) C ml_280 (m_L_restoreS l G E F σ μ τ htr hv1 hv3 (sav7 hv4) (sav8 hv4)) rfl rfl (Nat.le_of_ble_eq_true rfl) ⟨(Nat.le_of_ble_eq_true rfl), (Nat.le_of_ble_eq_true rfl)⟩ ⟨Nat.le_trans (Nat.add_le_add_left (Nat.le_of_ble_eq_true rfl) cells) hc, Nat.le_trans (Nat.add_le_add_left (Nat.le_of_ble_eq_true rfl) slots) hs⟩ dL_law_2168 (fun u hu => ?_)
    refine v_wid (k := cells + 100) (n := slots + 1200) (Nat.add_le_add_left (Nat.le_of_ble_eq_true rfl) cells) (Nat.add_le_add_left (Nat.le_of_ble_eq_true rfl) slots) ?_
    obtain ⟨S1, S2, S3, S4, S5, S6⟩ := S_restore (τ := τ) h.1 hv4 hv5
    generalize hw : (F_X8_copyFromR σ τ 2 4).toInt64 = w
    generalize hk : (0 : Int32) = k1
    rw [hk] at S1
    refine v_istore (lv' := [(6, .int k1), (0, .ref b), (1, .ref (E.1 0)), (2, .ref (E.1 24)), (3, .ref (E.1 33)), (4, .ref (E.1 34)), (5, .int (nI i))]) C (Nat.le_of_ble_eq_true rfl) rfl dL_law_2171 ?_
    refine v_aload_n C 3 rfl dL_law_2173 ?_
    refine v_cV1 (rest := []) C mv_RL_282 (m_X10_restore l G (EO (EK E u.1 u.2) w) (F_X8_copyFromR σ τ) μ (YS G F τ)) 24 g_24 rfl rfl rfl rfl (Nat.le_of_ble_eq_true rfl) ⟨(Nat.le_of_ble_eq_true rfl), (Nat.le_of_ble_eq_true rfl)⟩ ⟨rfl, rfl⟩ ⟨hc, hs⟩ dL_law_2174 ?_
    refine v_istore (lv' := [(7, .int ((F_X10_restore μ).1)), (6, .int k1), (0, .ref b), (1, .ref (E.1 0)), (2, .ref (E.1 24)), (3, .ref (E.1 33)), (4, .ref (E.1 34)), (5, .int (nI i))]) C (Nat.le_of_ble_eq_true rfl) rfl dL_law_2177 ?_
    refine v_aload_n C 4 rfl dL_law_2179 ?_
    refine v_cV1 (rest := []) C mv_RL_145 (m_X10_thrown l G (EO (EK E u.1 u.2) w) (F_X8_copyFromR σ τ) (F_X10_restore μ).2 (YS G F τ)) 24 g_24 rfl rfl rfl rfl (Nat.le_of_ble_eq_true rfl) ⟨(Nat.le_of_ble_eq_true rfl), (Nat.le_of_ble_eq_true rfl)⟩ ⟨rfl, rfl⟩ ⟨hc, hs⟩ dL_law_2180 ?_
    refine v_iload C 1 rfl dL_law_2183 ?_
    refine v_icmp_eq (tgt := 2190) C (by decide) dL_law_2185 (fun ht => ?_) (fun ht => absurd (show F_X10_thrown (F_X10_restore μ).2 = k1 from S1) ht)
    refine v_iload C 1 rfl dL_law_2190 ?_
    refine v_if_ne (tgt := 2207) C (by decide) dL_law_2192 (fun hne => absurd hk.symm hne) (fun hz0 => ?_)
    refine v_aload_n C 5 rfl dL_law_2195 ?_
    refine v_iconst (v := (0 : Int32)) C (by decide) dL_law_2196 ?_
    refine v_lald (v := w) C 33 g_33 vi_0_1 rfl dL_law_2197 ?_
    refine v_iload C 0 rfl dL_law_2198 ?_
    refine v_i2l C dL_law_2200 ?_
    refine v_lcmp C dL_law_2201 ?_
    refine v_if_eq (tgt := 2207) C (by decide) dL_law_2202 (fun _ => ?_) (fun hq => absurd (by rw [← hw, S2]; exact lg_self _) hq)
    refine v_goto (tgt := 2210) C (by decide) dL_law_2207 ?_
    refine v_lv [2, 3, 4, 5, 6, 7] rfl ?_
    exact kk (EO (EK E u.1 u.2) w) (F_X8_copyFromR σ τ) (F_X10_restore μ).2 (YS G F τ) rfl (restS_LI h hv1 hv3 hv4 hv5 S3 S4 S5 S6 hu)
