set_option maxRecDepth 100000 in
set_option maxHeartbeats 2000000 in
theorem st_0 {p : Program} {l : Launch} {e : Env} {s : State} {m : MethodId} {args : Array Value} {below : List Frame} {meth : Method} {c : Code} {G : GG} {A : Nat → Prop} {b L : Nat} {xs : Nat → Int32} {Q : State → Prop} (D : LC p l s m args meth c G A b L xs) {i : Nat} (hi : i + 4 ≤ L) {cells slots : Nat} (hc : cells + 100 ≤ room_1.cells) (hs : slots + 1200 ≤ room_1.slots) {E : EE} {σ μ : Sg} {Y : va_W} (h : LI G E σ μ Y) (kk : ∀ (E' : EE) (σ' μ' : Sg) (Y' : va_W), E'.1 = E.1 → LI G E' σ' μ' Y' → V p l e room_1 s m args below meth c 9 G A (cells + 100) (slots + 1200) Q 2210 [(0, .ref b), (1, .ref (E.1 0)), (2, .ref (E.1 24)), (3, .ref (E.1 33)), (4, .ref (E.1 34)), (5, .int (nI i))] [] (Wd G E' σ' μ' Y')) : V p l e room_1 s m args below meth c 9 G A cells slots Q 224 [(0, .ref b), (1, .ref (E.1 0)), (2, .ref (E.1 24)), (3, .ref (E.1 33)), (4, .ref (E.1 34)), (5, .int (nI i))] [] (Wd G E σ μ Y) := by
  obtain ⟨C, htr, hF, hX, hbl, hbA, hL⟩ := D
  refine v_aload_n C 1 rfl dL_law_224 ?_
  refine v_aload_n C 0 rfl dL_law_225 ?_
  refine v_iload C 5 rfl dL_law_226 ?_
  refine v_iconst (v := (1 : Int32)) C (by decide) dL_law_228 ?_
  refine v_iadd C dL_law_229 ?_
  refine v_sld C hX hbl hbA (show nI i + (1 : Int32) = nI (i + 1) from nI_add i 1) (by omega) hL dL_law_230 ?_
  refine v_aload_n C 0 rfl dL_law_231 ?_
  refine v_iload C 5 rfl dL_law_232 ?_
  refine v_iconst (v := (2 : Int32)) C (by decide) dL_law_234 ?_
  refine v_iadd C dL_law_235 ?_
  refine v_sld C hX hbl hbA (show nI i + (2 : Int32) = nI (i + 2) from nI_add i 2) (by omega) hL dL_law_236 ?_
  refine v_aload_n C 0 rfl dL_law_237 ?_
  refine v_iload C 5 rfl dL_law_238 ?_
  refine v_iconst (v := (3 : Int32)) C (by decide) dL_law_240 ?_
  refine v_iadd C dL_law_241 ?_
  refine v_sld C hX hbl hbA (show nI i + (3 : Int32) = nI (i + 3) from nI_add i 3) (by omega) hL dL_law_242 ?_
  obtain ⟨S1, S3⟩ := S_setCurve (s := (xs (i + 1))) (r := (xs (i + 2))) (li := (xs (i + 3))) h.1
  refine v_callSH (rest := []) (As := [.ref (E.1 0), .int (xs (i + 1)), .int (xs (i + 2)), .int (xs (i + 3))]) C ml_139 (m_L_setCurve l G E σ μ Y htr (xs (i + 1)) (xs (i + 2)) (xs (i + 3))) rfl rfl (Nat.le_of_ble_eq_true rfl) ⟨(Nat.le_of_ble_eq_true rfl), (Nat.le_of_ble_eq_true rfl)⟩ ⟨Nat.le_trans (Nat.add_le_add_left (Nat.le_of_ble_eq_true rfl) cells) hc, Nat.le_trans (Nat.add_le_add_left (Nat.le_of_ble_eq_true rfl) slots) hs⟩ dL_law_243 (fun u hu => ?_)
  refine v_wid (k := cells + 100) (n := slots + 1200) (Nat.add_le_add_left (Nat.le_of_ble_eq_true rfl) cells) (Nat.add_le_add_left (Nat.le_of_ble_eq_true rfl) slots) ?_
  generalize hk : hcd [1] (X_X9_setCurve σ (xs (i + 1)) (xs (i + 2)) (xs (i + 3))) = k1 at S1
  refine v_istore (lv' := [(6, .int k1), (0, .ref b), (1, .ref (E.1 0)), (2, .ref (E.1 24)), (3, .ref (E.1 33)), (4, .ref (E.1 34)), (5, .int (nI i))]) C (Nat.le_of_ble_eq_true rfl) rfl dL_law_246 ?_
  refine v_aload_n C 3 rfl dL_law_248 ?_
  refine v_aload_n C 1 rfl dL_law_249 ?_
  refine v_iload C 6 rfl dL_law_250 ?_
  refine v_iconst (v := (1 : Int32)) C (by decide) dL_law_252 ?_
  refine v_iadd C dL_law_253 ?_
  refine v_sld C hX hbl hbA (show nI i + (1 : Int32) = nI (i + 1) from nI_add i 1) (by omega) hL dL_law_254 ?_
  refine v_aload_n C 1 rfl dL_law_255 ?_
  refine v_iload C 6 rfl dL_law_256 ?_
  refine v_iconst (v := (2 : Int32)) C (by decide) dL_law_258 ?_
  refine v_iadd C dL_law_259 ?_
  refine v_sld C hX hbl hbA (show nI i + (2 : Int32) = nI (i + 2) from nI_add i 2) (by omega) hL dL_law_260 ?_
  refine v_aload_n C 1 rfl dL_law_261 ?_
  refine v_iload C 6 rfl dL_law_262 ?_
  refine v_iconst (v := (3 : Int32)) C (by decide) dL_law_264 ?_
  refine v_iadd C dL_law_265 ?_
  refine v_sld C hX hbl hbA (show nI i + (3 : Int32) = nI (i + 3) from nI_add i 3) (by omega) hL dL_law_266 ?_
  refine v_cV0 (rest := []) C mv_RL_144 (m_X10_setCurve l G E (F_X9_setCurve σ (xs (i + 1)) (xs (i + 2)) (xs (i + 3))) μ Y (xs (i + 1)) (xs (i + 2)) (xs (i + 3))) 24 g_24 rfl rfl rfl rfl (Nat.le_of_ble_eq_true rfl) ⟨(Nat.le_of_ble_eq_true rfl), (Nat.le_of_ble_eq_true rfl)⟩ ⟨rfl, rfl⟩ ⟨hc, hs⟩ dL_law_267 ?_
  refine v_aload_n C 3 rfl dL_law_270 ?_
  refine v_cV1 (rest := []) C mv_RL_145 (m_X10_thrown l G E (F_X9_setCurve σ (xs (i + 1)) (xs (i + 2)) (xs (i + 3))) (F_X10_setCurve μ (xs (i + 1)) (xs (i + 2)) (xs (i + 3))) Y) 24 g_24 rfl rfl rfl rfl (Nat.le_of_ble_eq_true rfl) ⟨(Nat.le_of_ble_eq_true rfl), (Nat.le_of_ble_eq_true rfl)⟩ ⟨rfl, rfl⟩ ⟨hc, hs⟩ dL_law_271 ?_
  refine v_iload C 0 rfl dL_law_274 ?_
  refine v_icmp_eq (tgt := 281) C (by decide) dL_law_276 (fun ht => ?_) (fun ht => absurd (show F_X10_thrown (F_X10_setCurve μ (xs (i + 1)) (xs (i + 2)) (xs (i + 3))) = k1 from S1.symm) ht)
  refine v_goto (tgt := 2210) C (by decide) dL_law_281 ?_
  refine v_lv [1, 2, 3, 4, 5, 6] rfl ?_
  exact kk E (F_X9_setCurve σ (xs (i + 1)) (xs (i + 2)) (xs (i + 3))) (F_X10_setCurve μ (xs (i + 1)) (xs (i + 2)) (xs (i + 3))) Y rfl (h.step S3 (A_setCurve h.2.1 (xs (i + 1)) (xs (i + 2)) (xs (i + 3))) (FX_setCurve μ (xs (i + 1)) (xs (i + 2)) (xs (i + 3))) rfl rfl)
set_option maxRecDepth 100000 in
set_option maxHeartbeats 2000000 in
theorem st_1 {p : Program} {l : Launch} {e : Env} {s : State} {m : MethodId} {args : Array Value} {below : List Frame} {meth : Method} {c : Code} {G : GG} {A : Nat → Prop} {b L : Nat} {xs : Nat → Int32} {Q : State → Prop} (D : LC p l s m args meth c G A b L xs) {i : Nat} (hi : i + 4 ≤ L) {cells slots : Nat} (hc : cells + 100 ≤ room_1.cells) (hs : slots + 1200 ≤ room_1.slots) {E : EE} {σ μ : Sg} {Y : va_W} (h : LI G E σ μ Y) (kk : ∀ (E' : EE) (σ' μ' : Sg) (Y' : va_W), E'.1 = E.1 → LI G E' σ' μ' Y' → V p l e room_1 s m args below meth c 9 G A (cells + 100) (slots + 1200) Q 2210 [(0, .ref b), (1, .ref (E.1 0)), (2, .ref (E.1 24)), (3, .ref (E.1 33)), (4, .ref (E.1 34)), (5, .int (nI i))] [] (Wd G E' σ' μ' Y')) : V p l e room_1 s m args below meth c 9 G A cells slots Q 284 [(0, .ref b), (1, .ref (E.1 0)), (2, .ref (E.1 24)), (3, .ref (E.1 33)), (4, .ref (E.1 34)), (5, .int (nI i))] [] (Wd G E σ μ Y) := by
  obtain ⟨C, htr, hF, hX, hbl, hbA, hL⟩ := D
  refine v_aload_n C 1 rfl dL_law_284 ?_
  refine v_aload_n C 0 rfl dL_law_285 ?_
  refine v_iload C 5 rfl dL_law_286 ?_
  refine v_iconst (v := (1 : Int32)) C (by decide) dL_law_288 ?_
  refine v_iadd C dL_law_289 ?_
  refine v_sld C hX hbl hbA (show nI i + (1 : Int32) = nI (i + 1) from nI_add i 1) (by omega) hL dL_law_290 ?_
  refine v_aload_n C 3 rfl dL_law_291 ?_
  obtain ⟨S1, S2, S3⟩ := S_setSkew (s := (xs (i + 1))) h.1
  refine v_callSH (rest := []) (As := [.ref (E.1 0), .int (xs (i + 1)), .ref (E.1 33)]) C ml_148 (m_L_setSkew l G E σ μ Y htr (xs (i + 1))) rfl rfl (Nat.le_of_ble_eq_true rfl) ⟨(Nat.le_of_ble_eq_true rfl), (Nat.le_of_ble_eq_true rfl)⟩ ⟨Nat.le_trans (Nat.add_le_add_left (Nat.le_of_ble_eq_true rfl) cells) hc, Nat.le_trans (Nat.add_le_add_left (Nat.le_of_ble_eq_true rfl) slots) hs⟩ dL_law_292 (fun u hu => ?_)
  refine v_wid (k := cells + 100) (n := slots + 1200) (Nat.add_le_add_left (Nat.le_of_ble_eq_true rfl) cells) (Nat.add_le_add_left (Nat.le_of_ble_eq_true rfl) slots) ?_
  rw [eoif]
  generalize hw : (if (X_X9_setSkew σ (xs (i + 1))) = 0 then ((F_X9_setSkew σ (xs (i + 1))).1).toInt64 else E.2.2.2.2.1) = w
  generalize hk : hcd [1] (X_X9_setSkew σ (xs (i + 1))) = k1 at S1
  refine v_istore (lv' := [(6, .int k1), (0, .ref b), (1, .ref (E.1 0)), (2, .ref (E.1 24)), (3, .ref (E.1 33)), (4, .ref (E.1 34)), (5, .int (nI i))]) C (Nat.le_of_ble_eq_true rfl) rfl dL_law_295 ?_
  refine v_aload_n C 3 rfl dL_law_297 ?_
  refine v_aload_n C 1 rfl dL_law_298 ?_
  refine v_iload C 6 rfl dL_law_299 ?_
  refine v_iconst (v := (1 : Int32)) C (by decide) dL_law_301 ?_
  refine v_iadd C dL_law_302 ?_
  refine v_sld C hX hbl hbA (show nI i + (1 : Int32) = nI (i + 1) from nI_add i 1) (by omega) hL dL_law_303 ?_
  refine v_cV1 (rest := []) C mv_RL_151 (m_X10_setSkew l G (EO E w) (F_X9_setSkew σ (xs (i + 1))).2 μ Y (xs (i + 1))) 24 g_24 rfl rfl rfl rfl (Nat.le_of_ble_eq_true rfl) ⟨(Nat.le_of_ble_eq_true rfl), (Nat.le_of_ble_eq_true rfl)⟩ ⟨rfl, rfl⟩ ⟨hc, hs⟩ dL_law_304 ?_
  refine v_istore (lv' := [(7, .int ((F_X10_setSkew μ (xs (i + 1))).1)), (6, .int k1), (0, .ref b), (1, .ref (E.1 0)), (2, .ref (E.1 24)), (3, .ref (E.1 33)), (4, .ref (E.1 34)), (5, .int (nI i))]) C (Nat.le_of_ble_eq_true rfl) rfl dL_law_307 ?_
  refine v_aload_n C 4 rfl dL_law_309 ?_
  refine v_cV1 (rest := []) C mv_RL_145 (m_X10_thrown l G (EO E w) (F_X9_setSkew σ (xs (i + 1))).2 (F_X10_setSkew μ (xs (i + 1))).2 Y) 24 g_24 rfl rfl rfl rfl (Nat.le_of_ble_eq_true rfl) ⟨(Nat.le_of_ble_eq_true rfl), (Nat.le_of_ble_eq_true rfl)⟩ ⟨rfl, rfl⟩ ⟨hc, hs⟩ dL_law_310 ?_
  refine v_iload C 1 rfl dL_law_313 ?_
  refine v_icmp_eq (tgt := 320) C (by decide) dL_law_315 (fun ht => ?_) (fun ht => absurd (show F_X10_thrown (F_X10_setSkew μ (xs (i + 1))).2 = k1 from S1.symm) ht)
  refine v_iload C 1 rfl dL_law_320 ?_
  refine v_if_ne (tgt := 337) C (by decide) dL_law_322 (fun _ => ?_) (fun hz0 => ?_)
  · refine v_goto (tgt := 2210) C (by decide) dL_law_337 ?_
    refine v_lv [2, 3, 4, 5, 6, 7] rfl ?_
    exact kk (EO E w) (F_X9_setSkew σ (xs (i + 1))).2 (F_X10_setSkew μ (xs (i + 1))).2 Y rfl (h.step S3 (A_setSkew h.2.1 (xs (i + 1))) (FX_setSkew μ (xs (i + 1))) rfl rfl)
  · have hX0 := hcd_0 (by decide) (hk.trans hz0)
    rw [if_pos hX0] at hw
    have hv := S2 hX0
    refine v_aload_n C 5 rfl dL_law_325 ?_
    refine v_iconst (v := (0 : Int32)) C (by decide) dL_law_326 ?_
    refine v_lald (v := w) C 33 g_33 vi_0_1 rfl dL_law_327 ?_
    refine v_iload C 0 rfl dL_law_328 ?_
    refine v_i2l C dL_law_330 ?_
    refine v_lcmp C dL_law_331 ?_
    refine v_if_eq (tgt := 337) C (by decide) dL_law_332 (fun _ => ?_) (fun hq => absurd (by rw [← hw, hv]; exact lg_self _) hq)
    refine v_goto (tgt := 2210) C (by decide) dL_law_337 ?_
    refine v_lv [2, 3, 4, 5, 6, 7] rfl ?_
    exact kk (EO E w) (F_X9_setSkew σ (xs (i + 1))).2 (F_X10_setSkew μ (xs (i + 1))).2 Y rfl (h.step S3 (A_setSkew h.2.1 (xs (i + 1))) (FX_setSkew μ (xs (i + 1))) rfl rfl)
set_option maxRecDepth 100000 in
set_option maxHeartbeats 2000000 in
theorem st_2 {p : Program} {l : Launch} {e : Env} {s : State} {m : MethodId} {args : Array Value} {below : List Frame} {meth : Method} {c : Code} {G : GG} {A : Nat → Prop} {b L : Nat} {xs : Nat → Int32} {Q : State → Prop} (D : LC p l s m args meth c G A b L xs) {i : Nat} (hi : i + 4 ≤ L) {cells slots : Nat} (hc : cells + 100 ≤ room_1.cells) (hs : slots + 1200 ≤ room_1.slots) {E : EE} {σ μ : Sg} {Y : va_W} (h : LI G E σ μ Y) (kk : ∀ (E' : EE) (σ' μ' : Sg) (Y' : va_W), E'.1 = E.1 → LI G E' σ' μ' Y' → V p l e room_1 s m args below meth c 9 G A (cells + 100) (slots + 1200) Q 2210 [(0, .ref b), (1, .ref (E.1 0)), (2, .ref (E.1 24)), (3, .ref (E.1 33)), (4, .ref (E.1 34)), (5, .int (nI i))] [] (Wd G E' σ' μ' Y')) : V p l e room_1 s m args below meth c 9 G A cells slots Q 340 [(0, .ref b), (1, .ref (E.1 0)), (2, .ref (E.1 24)), (3, .ref (E.1 33)), (4, .ref (E.1 34)), (5, .int (nI i))] [] (Wd G E σ μ Y) := by
  obtain ⟨C, htr, hF, hX, hbl, hbA, hL⟩ := D
  refine v_aload_n C 1 rfl dL_law_340 ?_
  refine v_aload_n C 0 rfl dL_law_341 ?_
  refine v_iload C 5 rfl dL_law_342 ?_
  refine v_iconst (v := (1 : Int32)) C (by decide) dL_law_344 ?_
  refine v_iadd C dL_law_345 ?_
  refine v_sld C hX hbl hbA (show nI i + (1 : Int32) = nI (i + 1) from nI_add i 1) (by omega) hL dL_law_346 ?_
  refine v_aload_n C 3 rfl dL_law_347 ?_
  obtain ⟨S1, S2, S3⟩ := S_setPolicy (po := (xs (i + 1))) h.1
  refine v_callSH (rest := []) (As := [.ref (E.1 0), .int (xs (i + 1)), .ref (E.1 33)]) C ml_152 (m_L_setPolicy l G E σ μ Y htr (xs (i + 1))) rfl rfl (Nat.le_of_ble_eq_true rfl) ⟨(Nat.le_of_ble_eq_true rfl), (Nat.le_of_ble_eq_true rfl)⟩ ⟨Nat.le_trans (Nat.add_le_add_left (Nat.le_of_ble_eq_true rfl) cells) hc, Nat.le_trans (Nat.add_le_add_left (Nat.le_of_ble_eq_true rfl) slots) hs⟩ dL_law_348 (fun u hu => ?_)
  refine v_wid (k := cells + 100) (n := slots + 1200) (Nat.add_le_add_left (Nat.le_of_ble_eq_true rfl) cells) (Nat.add_le_add_left (Nat.le_of_ble_eq_true rfl) slots) ?_
  rw [eoif]
  generalize hw : (if (X_X9_setPolicy σ (xs (i + 1))) = 0 then ((F_X9_setPolicy σ (xs (i + 1))).1).toInt64 else E.2.2.2.2.1) = w
  generalize hk : hcd [1] (X_X9_setPolicy σ (xs (i + 1))) = k1 at S1
  refine v_istore (lv' := [(6, .int k1), (0, .ref b), (1, .ref (E.1 0)), (2, .ref (E.1 24)), (3, .ref (E.1 33)), (4, .ref (E.1 34)), (5, .int (nI i))]) C (Nat.le_of_ble_eq_true rfl) rfl dL_law_351 ?_
  refine v_aload_n C 3 rfl dL_law_353 ?_
  refine v_aload_n C 1 rfl dL_law_354 ?_
  refine v_iload C 6 rfl dL_law_355 ?_
  refine v_iconst (v := (1 : Int32)) C (by decide) dL_law_357 ?_
  refine v_iadd C dL_law_358 ?_
  refine v_sld C hX hbl hbA (show nI i + (1 : Int32) = nI (i + 1) from nI_add i 1) (by omega) hL dL_law_359 ?_
  refine v_cV1 (rest := []) C mv_RL_154 (m_X10_setPolicy l G (EO E w) (F_X9_setPolicy σ (xs (i + 1))).2 μ Y (xs (i + 1))) 24 g_24 rfl rfl rfl rfl (Nat.le_of_ble_eq_true rfl) ⟨(Nat.le_of_ble_eq_true rfl), (Nat.le_of_ble_eq_true rfl)⟩ ⟨rfl, rfl⟩ ⟨hc, hs⟩ dL_law_360 ?_
  refine v_istore (lv' := [(7, .int ((F_X10_setPolicy μ (xs (i + 1))).1)), (6, .int k1), (0, .ref b), (1, .ref (E.1 0)), (2, .ref (E.1 24)), (3, .ref (E.1 33)), (4, .ref (E.1 34)), (5, .int (nI i))]) C (Nat.le_of_ble_eq_true rfl) rfl dL_law_363 ?_
  refine v_aload_n C 4 rfl dL_law_365 ?_
  refine v_cV1 (rest := []) C mv_RL_145 (m_X10_thrown l G (EO E w) (F_X9_setPolicy σ (xs (i + 1))).2 (F_X10_setPolicy μ (xs (i + 1))).2 Y) 24 g_24 rfl rfl rfl rfl (Nat.le_of_ble_eq_true rfl) ⟨(Nat.le_of_ble_eq_true rfl), (Nat.le_of_ble_eq_true rfl)⟩ ⟨rfl, rfl⟩ ⟨hc, hs⟩ dL_law_366 ?_
  refine v_iload C 1 rfl dL_law_369 ?_
  refine v_icmp_eq (tgt := 376) C (by decide) dL_law_371 (fun ht => ?_) (fun ht => absurd (show F_X10_thrown (F_X10_setPolicy μ (xs (i + 1))).2 = k1 from S1.symm) ht)
  refine v_iload C 1 rfl dL_law_376 ?_
  refine v_if_ne (tgt := 393) C (by decide) dL_law_378 (fun _ => ?_) (fun hz0 => ?_)
  · refine v_goto (tgt := 2210) C (by decide) dL_law_393 ?_
    refine v_lv [2, 3, 4, 5, 6, 7] rfl ?_
    exact kk (EO E w) (F_X9_setPolicy σ (xs (i + 1))).2 (F_X10_setPolicy μ (xs (i + 1))).2 Y rfl (h.step S3 (A_setPolicy h.2.1 (xs (i + 1))) (FX_setPolicy μ (xs (i + 1))) rfl rfl)
  · have hX0 := hcd_0 (by decide) (hk.trans hz0)
    rw [if_pos hX0] at hw
    have hv := S2 hX0
    refine v_aload_n C 5 rfl dL_law_381 ?_
    refine v_iconst (v := (0 : Int32)) C (by decide) dL_law_382 ?_
    refine v_lald (v := w) C 33 g_33 vi_0_1 rfl dL_law_383 ?_
    refine v_iload C 0 rfl dL_law_384 ?_
    refine v_i2l C dL_law_386 ?_
    refine v_lcmp C dL_law_387 ?_
    refine v_if_eq (tgt := 393) C (by decide) dL_law_388 (fun _ => ?_) (fun hq => absurd (by rw [← hw, hv]; exact lg_self _) hq)
    refine v_goto (tgt := 2210) C (by decide) dL_law_393 ?_
    refine v_lv [2, 3, 4, 5, 6, 7] rfl ?_
    exact kk (EO E w) (F_X9_setPolicy σ (xs (i + 1))).2 (F_X10_setPolicy μ (xs (i + 1))).2 Y rfl (h.step S3 (A_setPolicy h.2.1 (xs (i + 1))) (FX_setPolicy μ (xs (i + 1))) rfl rfl)
set_option maxRecDepth 100000 in
set_option maxHeartbeats 2000000 in
theorem st_3 {p : Program} {l : Launch} {e : Env} {s : State} {m : MethodId} {args : Array Value} {below : List Frame} {meth : Method} {c : Code} {G : GG} {A : Nat → Prop} {b L : Nat} {xs : Nat → Int32} {Q : State → Prop} (D : LC p l s m args meth c G A b L xs) {i : Nat} (hi : i + 4 ≤ L) {cells slots : Nat} (hc : cells + 100 ≤ room_1.cells) (hs : slots + 1200 ≤ room_1.slots) {E : EE} {σ μ : Sg} {Y : va_W} (h : LI G E σ μ Y) (kk : ∀ (E' : EE) (σ' μ' : Sg) (Y' : va_W), E'.1 = E.1 → LI G E' σ' μ' Y' → V p l e room_1 s m args below meth c 9 G A (cells + 100) (slots + 1200) Q 2210 [(0, .ref b), (1, .ref (E.1 0)), (2, .ref (E.1 24)), (3, .ref (E.1 33)), (4, .ref (E.1 34)), (5, .int (nI i))] [] (Wd G E' σ' μ' Y')) : V p l e room_1 s m args below meth c 9 G A cells slots Q 396 [(0, .ref b), (1, .ref (E.1 0)), (2, .ref (E.1 24)), (3, .ref (E.1 33)), (4, .ref (E.1 34)), (5, .int (nI i))] [] (Wd G E σ μ Y) := by
  obtain ⟨C, htr, hF, hX, hbl, hbA, hL⟩ := D
  refine v_aload_n C 1 rfl dL_law_396 ?_
  refine v_aload_n C 0 rfl dL_law_397 ?_
  refine v_iload C 5 rfl dL_law_398 ?_
  refine v_iconst (v := (1 : Int32)) C (by decide) dL_law_400 ?_
  refine v_iadd C dL_law_401 ?_
  refine v_sld C hX hbl hbA (show nI i + (1 : Int32) = nI (i + 1) from nI_add i 1) (by omega) hL dL_law_402 ?_
  refine v_aload_n C 0 rfl dL_law_403 ?_
  refine v_iload C 5 rfl dL_law_404 ?_
  refine v_iconst (v := (2 : Int32)) C (by decide) dL_law_406 ?_
  refine v_iadd C dL_law_407 ?_
  refine v_sld C hX hbl hbA (show nI i + (2 : Int32) = nI (i + 2) from nI_add i 2) (by omega) hL dL_law_408 ?_
  obtain ⟨S1, S3⟩ := S_setBuckets (wi := (xs (i + 1))) (ag := (xs (i + 2))) h.1
  refine v_callSH (rest := []) (As := [.ref (E.1 0), .int (xs (i + 1)), .int (xs (i + 2))]) C ml_155 (m_L_setBuckets l G E σ μ Y htr (xs (i + 1)) (xs (i + 2))) rfl rfl (Nat.le_of_ble_eq_true rfl) ⟨(Nat.le_of_ble_eq_true rfl), (Nat.le_of_ble_eq_true rfl)⟩ ⟨Nat.le_trans (Nat.add_le_add_left (Nat.le_of_ble_eq_true rfl) cells) hc, Nat.le_trans (Nat.add_le_add_left (Nat.le_of_ble_eq_true rfl) slots) hs⟩ dL_law_409 (fun u hu => ?_)
  refine v_wid (k := cells + 100) (n := slots + 1200) (Nat.add_le_add_left (Nat.le_of_ble_eq_true rfl) cells) (Nat.add_le_add_left (Nat.le_of_ble_eq_true rfl) slots) ?_
  generalize hk : hcd [1] (X_X9_setBuckets σ (xs (i + 1)) (xs (i + 2))) = k1 at S1
  refine v_istore (lv' := [(6, .int k1), (0, .ref b), (1, .ref (E.1 0)), (2, .ref (E.1 24)), (3, .ref (E.1 33)), (4, .ref (E.1 34)), (5, .int (nI i))]) C (Nat.le_of_ble_eq_true rfl) rfl dL_law_412 ?_
  refine v_aload_n C 3 rfl dL_law_414 ?_
  refine v_aload_n C 1 rfl dL_law_415 ?_
  refine v_iload C 6 rfl dL_law_416 ?_
  refine v_iconst (v := (1 : Int32)) C (by decide) dL_law_418 ?_
  refine v_iadd C dL_law_419 ?_
  refine v_sld C hX hbl hbA (show nI i + (1 : Int32) = nI (i + 1) from nI_add i 1) (by omega) hL dL_law_420 ?_
  refine v_aload_n C 1 rfl dL_law_421 ?_
  refine v_iload C 6 rfl dL_law_422 ?_
  refine v_iconst (v := (2 : Int32)) C (by decide) dL_law_424 ?_
  refine v_iadd C dL_law_425 ?_
  refine v_sld C hX hbl hbA (show nI i + (2 : Int32) = nI (i + 2) from nI_add i 2) (by omega) hL dL_law_426 ?_
  refine v_cV0 (rest := []) C mv_RL_158 (m_X10_setBuckets l G E (F_X9_setBuckets σ (xs (i + 1)) (xs (i + 2))) μ Y (xs (i + 1)) (xs (i + 2))) 24 g_24 rfl rfl rfl rfl (Nat.le_of_ble_eq_true rfl) ⟨(Nat.le_of_ble_eq_true rfl), (Nat.le_of_ble_eq_true rfl)⟩ ⟨rfl, rfl⟩ ⟨hc, hs⟩ dL_law_427 ?_
  refine v_aload_n C 3 rfl dL_law_430 ?_
  refine v_cV1 (rest := []) C mv_RL_145 (m_X10_thrown l G E (F_X9_setBuckets σ (xs (i + 1)) (xs (i + 2))) (F_X10_setBuckets μ (xs (i + 1)) (xs (i + 2))) Y) 24 g_24 rfl rfl rfl rfl (Nat.le_of_ble_eq_true rfl) ⟨(Nat.le_of_ble_eq_true rfl), (Nat.le_of_ble_eq_true rfl)⟩ ⟨rfl, rfl⟩ ⟨hc, hs⟩ dL_law_431 ?_
  refine v_iload C 0 rfl dL_law_434 ?_
  refine v_icmp_eq (tgt := 441) C (by decide) dL_law_436 (fun ht => ?_) (fun ht => absurd (show F_X10_thrown (F_X10_setBuckets μ (xs (i + 1)) (xs (i + 2))) = k1 from S1.symm) ht)
  refine v_goto (tgt := 2210) C (by decide) dL_law_441 ?_
  refine v_lv [1, 2, 3, 4, 5, 6] rfl ?_
  exact kk E (F_X9_setBuckets σ (xs (i + 1)) (xs (i + 2))) (F_X10_setBuckets μ (xs (i + 1)) (xs (i + 2))) Y rfl (h.step S3 (A_setBuckets h.2.1 (xs (i + 1)) (xs (i + 2))) (FX_setBuckets μ (xs (i + 1)) (xs (i + 2))) rfl rfl)
set_option maxRecDepth 100000 in
set_option maxHeartbeats 2000000 in
theorem st_4 {p : Program} {l : Launch} {e : Env} {s : State} {m : MethodId} {args : Array Value} {below : List Frame} {meth : Method} {c : Code} {G : GG} {A : Nat → Prop} {b L : Nat} {xs : Nat → Int32} {Q : State → Prop} (D : LC p l s m args meth c G A b L xs) {i : Nat} (hi : i + 4 ≤ L) {cells slots : Nat} (hc : cells + 100 ≤ room_1.cells) (hs : slots + 1200 ≤ room_1.slots) {E : EE} {σ μ : Sg} {Y : va_W} (h : LI G E σ μ Y) (kk : ∀ (E' : EE) (σ' μ' : Sg) (Y' : va_W), E'.1 = E.1 → LI G E' σ' μ' Y' → V p l e room_1 s m args below meth c 9 G A (cells + 100) (slots + 1200) Q 2210 [(0, .ref b), (1, .ref (E.1 0)), (2, .ref (E.1 24)), (3, .ref (E.1 33)), (4, .ref (E.1 34)), (5, .int (nI i))] [] (Wd G E' σ' μ' Y')) : V p l e room_1 s m args below meth c 9 G A cells slots Q 444 [(0, .ref b), (1, .ref (E.1 0)), (2, .ref (E.1 24)), (3, .ref (E.1 33)), (4, .ref (E.1 34)), (5, .int (nI i))] [] (Wd G E σ μ Y) := by
  obtain ⟨C, htr, hF, hX, hbl, hbA, hL⟩ := D
  refine v_aload_n C 1 rfl dL_law_444 ?_
  refine v_aload_n C 0 rfl dL_law_445 ?_
  refine v_iload C 5 rfl dL_law_446 ?_
  refine v_iconst (v := (1 : Int32)) C (by decide) dL_law_448 ?_
  refine v_iadd C dL_law_449 ?_
  refine v_sld C hX hbl hbA (show nI i + (1 : Int32) = nI (i + 1) from nI_add i 1) (by omega) hL dL_law_450 ?_
  refine v_if_eq (tgt := 458) C (by decide) dL_law_451 (fun hz => ?_) (fun hz => ?_)
  · refine v_iconst (v := (0 : Int32)) C (by decide) dL_law_458 ?_
    refine v_aload_n C 3 rfl dL_law_459 ?_
    obtain ⟨S1, S2, S3⟩ := S_setWriteBack (on := 0) h.1 (Or.inl rfl)
    refine v_callSH (rest := []) (As := [.ref (E.1 0), .int 0, .ref (E.1 33)]) C ml_159 (m_L_setWriteBack l G E σ μ Y htr 0 (Or.inl rfl) h.b8) rfl rfl (Nat.le_of_ble_eq_true rfl) ⟨(Nat.le_of_ble_eq_true rfl), (Nat.le_of_ble_eq_true rfl)⟩ ⟨Nat.le_trans (Nat.add_le_add_left (Nat.le_of_ble_eq_true rfl) cells) hc, Nat.le_trans (Nat.add_le_add_left (Nat.le_of_ble_eq_true rfl) slots) hs⟩ dL_law_460 (fun u hu => ?_)
    refine v_wid (k := cells + 100) (n := slots + 1200) (Nat.add_le_add_left (Nat.le_of_ble_eq_true rfl) cells) (Nat.add_le_add_left (Nat.le_of_ble_eq_true rfl) slots) ?_
    rw [eoif]
    generalize hw : (if (X_X9_setWriteBack σ 0) = 0 then (if (F_X9_setWriteBack σ 0).1 = 0 then (0 : Int64) else 1) else E.2.2.2.2.1) = w
    generalize hk : hcd [2] (X_X9_setWriteBack σ 0) = k1 at S1
    refine v_istore (lv' := [(6, .int k1), (0, .ref b), (1, .ref (E.1 0)), (2, .ref (E.1 24)), (3, .ref (E.1 33)), (4, .ref (E.1 34)), (5, .int (nI i))]) C (Nat.le_of_ble_eq_true rfl) rfl dL_law_463 ?_
    refine v_aload_n C 3 rfl dL_law_465 ?_
    refine v_aload_n C 1 rfl dL_law_466 ?_
    refine v_iload C 6 rfl dL_law_467 ?_
    refine v_iconst (v := (1 : Int32)) C (by decide) dL_law_469 ?_
    refine v_iadd C dL_law_470 ?_
    refine v_sld C hX hbl hbA (show nI i + (1 : Int32) = nI (i + 1) from nI_add i 1) (by omega) hL dL_law_471 ?_
    refine v_if_eq (tgt := 479) C (by decide) dL_law_472 (fun _ => ?_) (fun hq => absurd hz hq)
    refine v_iconst (v := (0 : Int32)) C (by decide) dL_law_479 ?_
    refine v_cV1 (rest := []) C mv_RL_162 (m_X10_setWriteBack l G (EO E w) (F_X9_setWriteBack σ 0).2 μ Y 0) 24 g_24 rfl rfl rfl rfl (Nat.le_of_ble_eq_true rfl) ⟨(Nat.le_of_ble_eq_true rfl), (Nat.le_of_ble_eq_true rfl)⟩ ⟨rfl, rfl⟩ ⟨hc, hs⟩ dL_law_480 ?_
    refine v_istore (lv' := [(7, .int ((F_X10_setWriteBack μ 0).1)), (6, .int k1), (0, .ref b), (1, .ref (E.1 0)), (2, .ref (E.1 24)), (3, .ref (E.1 33)), (4, .ref (E.1 34)), (5, .int (nI i))]) C (Nat.le_of_ble_eq_true rfl) rfl dL_law_483 ?_
    refine v_aload_n C 4 rfl dL_law_485 ?_
    refine v_cV1 (rest := []) C mv_RL_145 (m_X10_thrown l G (EO E w) (F_X9_setWriteBack σ 0).2 (F_X10_setWriteBack μ 0).2 Y) 24 g_24 rfl rfl rfl rfl (Nat.le_of_ble_eq_true rfl) ⟨(Nat.le_of_ble_eq_true rfl), (Nat.le_of_ble_eq_true rfl)⟩ ⟨rfl, rfl⟩ ⟨hc, hs⟩ dL_law_486 ?_
    refine v_iload C 1 rfl dL_law_489 ?_
    refine v_icmp_eq (tgt := 496) C (by decide) dL_law_491 (fun ht => ?_) (fun ht => absurd (show F_X10_thrown (F_X10_setWriteBack μ 0).2 = k1 from S1.symm) ht)
    refine v_iload C 1 rfl dL_law_496 ?_
    refine v_if_ne (tgt := 520) C (by decide) dL_law_498 (fun _ => ?_) (fun hz0 => ?_)
    · refine v_goto (tgt := 2210) C (by decide) dL_law_520 ?_
      refine v_lv [2, 3, 4, 5, 6, 7] rfl ?_
      exact kk (EO E w) (F_X9_setWriteBack σ 0).2 (F_X10_setWriteBack μ 0).2 Y rfl (h.step S3 (A_setWriteBack h.2.1 0) (FX_setWriteBack μ 0) rfl rfl)
    · have hX0 := hcd_0 (by decide) (hk.trans hz0)
      rw [if_pos hX0] at hw
      have hv := S2 hX0
      refine v_aload_n C 5 rfl dL_law_501 ?_
      refine v_iconst (v := (0 : Int32)) C (by decide) dL_law_502 ?_
      refine v_lald (v := w) C 33 g_33 vi_0_1 rfl dL_law_503 ?_
      refine v_iload C 0 rfl dL_law_504 ?_
      refine v_if_eq (tgt := 513) C (by decide) dL_law_506 (fun hb => ?_) (fun hb => ?_)
      · refine v_lconst (v := (0 : Int64)) C (by decide) dL_law_513 ?_
        refine v_lcmp C dL_law_514 ?_
        refine v_if_eq (tgt := 520) C (by decide) dL_law_515 (fun _ => ?_) (fun hq => absurd (by rw [← hw, hv, if_pos hb]; exact lg_self _) hq)
        refine v_goto (tgt := 2210) C (by decide) dL_law_520 ?_
        refine v_lv [2, 3, 4, 5, 6, 7] rfl ?_
        exact kk (EO E w) (F_X9_setWriteBack σ 0).2 (F_X10_setWriteBack μ 0).2 Y rfl (h.step S3 (A_setWriteBack h.2.1 0) (FX_setWriteBack μ 0) rfl rfl)
      · refine v_lconst (v := (1 : Int64)) C (by decide) dL_law_509 ?_
        refine v_goto (tgt := 514) C (by decide) dL_law_510 ?_
        refine v_lcmp C dL_law_514 ?_
        refine v_if_eq (tgt := 520) C (by decide) dL_law_515 (fun _ => ?_) (fun hq => absurd (by rw [← hw, hv, if_neg hb]; exact lg_self _) hq)
        refine v_goto (tgt := 2210) C (by decide) dL_law_520 ?_
        refine v_lv [2, 3, 4, 5, 6, 7] rfl ?_
        exact kk (EO E w) (F_X9_setWriteBack σ 0).2 (F_X10_setWriteBack μ 0).2 Y rfl (h.step S3 (A_setWriteBack h.2.1 0) (FX_setWriteBack μ 0) rfl rfl)
  · refine v_iconst (v := (1 : Int32)) C (by decide) dL_law_454 ?_
    refine v_goto (tgt := 459) C (by decide) dL_law_455 ?_
    refine v_aload_n C 3 rfl dL_law_459 ?_
    obtain ⟨S1, S2, S3⟩ := S_setWriteBack (on := 1) h.1 (Or.inr rfl)
    refine v_callSH (rest := []) (As := [.ref (E.1 0), .int 1, .ref (E.1 33)]) C ml_159 (m_L_setWriteBack l G E σ μ Y htr 1 (Or.inr rfl) h.b8) rfl rfl (Nat.le_of_ble_eq_true rfl) ⟨(Nat.le_of_ble_eq_true rfl), (Nat.le_of_ble_eq_true rfl)⟩ ⟨Nat.le_trans (Nat.add_le_add_left (Nat.le_of_ble_eq_true rfl) cells) hc, Nat.le_trans (Nat.add_le_add_left (Nat.le_of_ble_eq_true rfl) slots) hs⟩ dL_law_460 (fun u hu => ?_)
    refine v_wid (k := cells + 100) (n := slots + 1200) (Nat.add_le_add_left (Nat.le_of_ble_eq_true rfl) cells) (Nat.add_le_add_left (Nat.le_of_ble_eq_true rfl) slots) ?_
    rw [eoif]
    generalize hw : (if (X_X9_setWriteBack σ 1) = 0 then (if (F_X9_setWriteBack σ 1).1 = 0 then (0 : Int64) else 1) else E.2.2.2.2.1) = w
    generalize hk : hcd [2] (X_X9_setWriteBack σ 1) = k1 at S1
    refine v_istore (lv' := [(6, .int k1), (0, .ref b), (1, .ref (E.1 0)), (2, .ref (E.1 24)), (3, .ref (E.1 33)), (4, .ref (E.1 34)), (5, .int (nI i))]) C (Nat.le_of_ble_eq_true rfl) rfl dL_law_463 ?_
    refine v_aload_n C 3 rfl dL_law_465 ?_
    refine v_aload_n C 1 rfl dL_law_466 ?_
    refine v_iload C 6 rfl dL_law_467 ?_
    refine v_iconst (v := (1 : Int32)) C (by decide) dL_law_469 ?_
    refine v_iadd C dL_law_470 ?_
    refine v_sld C hX hbl hbA (show nI i + (1 : Int32) = nI (i + 1) from nI_add i 1) (by omega) hL dL_law_471 ?_
    refine v_if_eq (tgt := 479) C (by decide) dL_law_472 (fun hq => absurd hq hz) (fun _ => ?_)
    refine v_iconst (v := (1 : Int32)) C (by decide) dL_law_475 ?_
    refine v_goto (tgt := 480) C (by decide) dL_law_476 ?_
    refine v_cV1 (rest := []) C mv_RL_162 (m_X10_setWriteBack l G (EO E w) (F_X9_setWriteBack σ 1).2 μ Y 1) 24 g_24 rfl rfl rfl rfl (Nat.le_of_ble_eq_true rfl) ⟨(Nat.le_of_ble_eq_true rfl), (Nat.le_of_ble_eq_true rfl)⟩ ⟨rfl, rfl⟩ ⟨hc, hs⟩ dL_law_480 ?_
    refine v_istore (lv' := [(7, .int ((F_X10_setWriteBack μ 1).1)), (6, .int k1), (0, .ref b), (1, .ref (E.1 0)), (2, .ref (E.1 24)), (3, .ref (E.1 33)), (4, .ref (E.1 34)), (5, .int (nI i))]) C (Nat.le_of_ble_eq_true rfl) rfl dL_law_483 ?_
    refine v_aload_n C 4 rfl dL_law_485 ?_
    refine v_cV1 (rest := []) C mv_RL_145 (m_X10_thrown l G (EO E w) (F_X9_setWriteBack σ 1).2 (F_X10_setWriteBack μ 1).2 Y) 24 g_24 rfl rfl rfl rfl (Nat.le_of_ble_eq_true rfl) ⟨(Nat.le_of_ble_eq_true rfl), (Nat.le_of_ble_eq_true rfl)⟩ ⟨rfl, rfl⟩ ⟨hc, hs⟩ dL_law_486 ?_
    refine v_iload C 1 rfl dL_law_489 ?_
    refine v_icmp_eq (tgt := 496) C (by decide) dL_law_491 (fun ht => ?_) (fun ht => absurd (show F_X10_thrown (F_X10_setWriteBack μ 1).2 = k1 from S1.symm) ht)
    refine v_iload C 1 rfl dL_law_496 ?_
    refine v_if_ne (tgt := 520) C (by decide) dL_law_498 (fun _ => ?_) (fun hz0 => ?_)
    · refine v_goto (tgt := 2210) C (by decide) dL_law_520 ?_
      refine v_lv [2, 3, 4, 5, 6, 7] rfl ?_
      exact kk (EO E w) (F_X9_setWriteBack σ 1).2 (F_X10_setWriteBack μ 1).2 Y rfl (h.step S3 (A_setWriteBack h.2.1 1) (FX_setWriteBack μ 1) rfl rfl)
    · have hX0 := hcd_0 (by decide) (hk.trans hz0)
      rw [if_pos hX0] at hw
      have hv := S2 hX0
      refine v_aload_n C 5 rfl dL_law_501 ?_
      refine v_iconst (v := (0 : Int32)) C (by decide) dL_law_502 ?_
      refine v_lald (v := w) C 33 g_33 vi_0_1 rfl dL_law_503 ?_
      refine v_iload C 0 rfl dL_law_504 ?_
      refine v_if_eq (tgt := 513) C (by decide) dL_law_506 (fun hb => ?_) (fun hb => ?_)
      · refine v_lconst (v := (0 : Int64)) C (by decide) dL_law_513 ?_
        refine v_lcmp C dL_law_514 ?_
        refine v_if_eq (tgt := 520) C (by decide) dL_law_515 (fun _ => ?_) (fun hq => absurd (by rw [← hw, hv, if_pos hb]; exact lg_self _) hq)
        refine v_goto (tgt := 2210) C (by decide) dL_law_520 ?_
        refine v_lv [2, 3, 4, 5, 6, 7] rfl ?_
        exact kk (EO E w) (F_X9_setWriteBack σ 1).2 (F_X10_setWriteBack μ 1).2 Y rfl (h.step S3 (A_setWriteBack h.2.1 1) (FX_setWriteBack μ 1) rfl rfl)
      · refine v_lconst (v := (1 : Int64)) C (by decide) dL_law_509 ?_
        refine v_goto (tgt := 514) C (by decide) dL_law_510 ?_
        refine v_lcmp C dL_law_514 ?_
        refine v_if_eq (tgt := 520) C (by decide) dL_law_515 (fun _ => ?_) (fun hq => absurd (by rw [← hw, hv, if_neg hb]; exact lg_self _) hq)
        refine v_goto (tgt := 2210) C (by decide) dL_law_520 ?_
        refine v_lv [2, 3, 4, 5, 6, 7] rfl ?_
        exact kk (EO E w) (F_X9_setWriteBack σ 1).2 (F_X10_setWriteBack μ 1).2 Y rfl (h.step S3 (A_setWriteBack h.2.1 1) (FX_setWriteBack μ 1) rfl rfl)
set_option maxRecDepth 100000 in
set_option maxHeartbeats 2000000 in
theorem st_5 {p : Program} {l : Launch} {e : Env} {s : State} {m : MethodId} {args : Array Value} {below : List Frame} {meth : Method} {c : Code} {G : GG} {A : Nat → Prop} {b L : Nat} {xs : Nat → Int32} {Q : State → Prop} (D : LC p l s m args meth c G A b L xs) {i : Nat} (hi : i + 4 ≤ L) {cells slots : Nat} (hc : cells + 100 ≤ room_1.cells) (hs : slots + 1200 ≤ room_1.slots) {E : EE} {σ μ : Sg} {Y : va_W} (h : LI G E σ μ Y) (kk : ∀ (E' : EE) (σ' μ' : Sg) (Y' : va_W), E'.1 = E.1 → LI G E' σ' μ' Y' → V p l e room_1 s m args below meth c 9 G A (cells + 100) (slots + 1200) Q 2210 [(0, .ref b), (1, .ref (E.1 0)), (2, .ref (E.1 24)), (3, .ref (E.1 33)), (4, .ref (E.1 34)), (5, .int (nI i))] [] (Wd G E' σ' μ' Y')) : V p l e room_1 s m args below meth c 9 G A cells slots Q 523 [(0, .ref b), (1, .ref (E.1 0)), (2, .ref (E.1 24)), (3, .ref (E.1 33)), (4, .ref (E.1 34)), (5, .int (nI i))] [] (Wd G E σ μ Y) := by
  obtain ⟨C, htr, hF, hX, hbl, hbA, hL⟩ := D
  refine v_aload_n C 1 rfl dL_law_523 ?_
  refine v_aload_n C 0 rfl dL_law_524 ?_
  refine v_iload C 5 rfl dL_law_525 ?_
  refine v_iconst (v := (1 : Int32)) C (by decide) dL_law_527 ?_
  refine v_iadd C dL_law_528 ?_
  refine v_sld C hX hbl hbA (show nI i + (1 : Int32) = nI (i + 1) from nI_add i 1) (by omega) hL dL_law_529 ?_
  refine v_aload_n C 0 rfl dL_law_530 ?_
  refine v_iload C 5 rfl dL_law_531 ?_
  refine v_iconst (v := (2 : Int32)) C (by decide) dL_law_533 ?_
  refine v_iadd C dL_law_534 ?_
  refine v_sld C hX hbl hbA (show nI i + (2 : Int32) = nI (i + 2) from nI_add i 2) (by omega) hL dL_law_535 ?_
  refine v_aload_n C 3 rfl dL_law_536 ?_
  obtain ⟨S1, S2, S3⟩ := S_seekTime (fr := (xs (i + 1))) (to := (xs (i + 2))) h.1
  refine v_callSH (rest := []) (As := [.ref (E.1 0), .int (xs (i + 1)), .int (xs (i + 2)), .ref (E.1 33)]) C ml_163 (m_L_seekTime l G E σ μ Y htr (xs (i + 1)) (xs (i + 2))) rfl rfl (Nat.le_of_ble_eq_true rfl) ⟨(Nat.le_of_ble_eq_true rfl), (Nat.le_of_ble_eq_true rfl)⟩ ⟨Nat.le_trans (Nat.add_le_add_left (Nat.le_of_ble_eq_true rfl) cells) hc, Nat.le_trans (Nat.add_le_add_left (Nat.le_of_ble_eq_true rfl) slots) hs⟩ dL_law_537 (fun u hu => ?_)
  refine v_wid (k := cells + 100) (n := slots + 1200) (Nat.add_le_add_left (Nat.le_of_ble_eq_true rfl) cells) (Nat.add_le_add_left (Nat.le_of_ble_eq_true rfl) slots) ?_
  rw [eoif]
  generalize hw : (if (X_X9_seekTime σ (xs (i + 1)) (xs (i + 2))) = 0 then ((F_X9_seekTime σ (xs (i + 1)) (xs (i + 2)))).toInt64 else E.2.2.2.2.1) = w
  generalize hk : hcd [3] (X_X9_seekTime σ (xs (i + 1)) (xs (i + 2))) = k1 at S1
  refine v_istore (lv' := [(6, .int k1), (0, .ref b), (1, .ref (E.1 0)), (2, .ref (E.1 24)), (3, .ref (E.1 33)), (4, .ref (E.1 34)), (5, .int (nI i))]) C (Nat.le_of_ble_eq_true rfl) rfl dL_law_540 ?_
  refine v_aload_n C 3 rfl dL_law_542 ?_
  refine v_aload_n C 1 rfl dL_law_543 ?_
  refine v_iload C 6 rfl dL_law_544 ?_
  refine v_iconst (v := (1 : Int32)) C (by decide) dL_law_546 ?_
  refine v_iadd C dL_law_547 ?_
  refine v_sld C hX hbl hbA (show nI i + (1 : Int32) = nI (i + 1) from nI_add i 1) (by omega) hL dL_law_548 ?_
  refine v_aload_n C 1 rfl dL_law_549 ?_
  refine v_iload C 6 rfl dL_law_550 ?_
  refine v_iconst (v := (2 : Int32)) C (by decide) dL_law_552 ?_
  refine v_iadd C dL_law_553 ?_
  refine v_sld C hX hbl hbA (show nI i + (2 : Int32) = nI (i + 2) from nI_add i 2) (by omega) hL dL_law_554 ?_
  refine v_cV1 (rest := []) C mv_RL_166 (m_X10_seekTime l G (EO E w) σ μ Y (xs (i + 1)) (xs (i + 2))) 24 g_24 rfl rfl rfl rfl (Nat.le_of_ble_eq_true rfl) ⟨(Nat.le_of_ble_eq_true rfl), (Nat.le_of_ble_eq_true rfl)⟩ ⟨rfl, rfl⟩ ⟨hc, hs⟩ dL_law_555 ?_
  refine v_istore (lv' := [(7, .int ((F_X10_seekTime μ (xs (i + 1)) (xs (i + 2))).1)), (6, .int k1), (0, .ref b), (1, .ref (E.1 0)), (2, .ref (E.1 24)), (3, .ref (E.1 33)), (4, .ref (E.1 34)), (5, .int (nI i))]) C (Nat.le_of_ble_eq_true rfl) rfl dL_law_558 ?_
  refine v_aload_n C 4 rfl dL_law_560 ?_
  refine v_cV1 (rest := []) C mv_RL_145 (m_X10_thrown l G (EO E w) σ (F_X10_seekTime μ (xs (i + 1)) (xs (i + 2))).2 Y) 24 g_24 rfl rfl rfl rfl (Nat.le_of_ble_eq_true rfl) ⟨(Nat.le_of_ble_eq_true rfl), (Nat.le_of_ble_eq_true rfl)⟩ ⟨rfl, rfl⟩ ⟨hc, hs⟩ dL_law_561 ?_
  refine v_iload C 1 rfl dL_law_564 ?_
  refine v_icmp_eq (tgt := 571) C (by decide) dL_law_566 (fun ht => ?_) (fun ht => absurd (show F_X10_thrown (F_X10_seekTime μ (xs (i + 1)) (xs (i + 2))).2 = k1 from S1.symm) ht)
  refine v_iload C 1 rfl dL_law_571 ?_
  refine v_if_ne (tgt := 588) C (by decide) dL_law_573 (fun _ => ?_) (fun hz0 => ?_)
  · refine v_goto (tgt := 2210) C (by decide) dL_law_588 ?_
    refine v_lv [2, 3, 4, 5, 6, 7] rfl ?_
    exact kk (EO E w) σ (F_X10_seekTime μ (xs (i + 1)) (xs (i + 2))).2 Y rfl (h.step S3 (A_seekTime h.2.1 (xs (i + 1)) (xs (i + 2))) (FX_seekTime μ (xs (i + 1)) (xs (i + 2))) rfl rfl)
  · have hX0 := hcd_0 (by decide) (hk.trans hz0)
    rw [if_pos hX0] at hw
    have hv := S2 hX0
    refine v_aload_n C 5 rfl dL_law_576 ?_
    refine v_iconst (v := (0 : Int32)) C (by decide) dL_law_577 ?_
    refine v_lald (v := w) C 33 g_33 vi_0_1 rfl dL_law_578 ?_
    refine v_iload C 0 rfl dL_law_579 ?_
    refine v_i2l C dL_law_581 ?_
    refine v_lcmp C dL_law_582 ?_
    refine v_if_eq (tgt := 588) C (by decide) dL_law_583 (fun _ => ?_) (fun hq => absurd (by rw [← hw, hv]; exact lg_self _) hq)
    refine v_goto (tgt := 2210) C (by decide) dL_law_588 ?_
    refine v_lv [2, 3, 4, 5, 6, 7] rfl ?_
    exact kk (EO E w) σ (F_X10_seekTime μ (xs (i + 1)) (xs (i + 2))).2 Y rfl (h.step S3 (A_seekTime h.2.1 (xs (i + 1)) (xs (i + 2))) (FX_seekTime μ (xs (i + 1)) (xs (i + 2))) rfl rfl)
set_option maxRecDepth 100000 in
set_option maxHeartbeats 2000000 in
theorem st_6 {p : Program} {l : Launch} {e : Env} {s : State} {m : MethodId} {args : Array Value} {below : List Frame} {meth : Method} {c : Code} {G : GG} {A : Nat → Prop} {b L : Nat} {xs : Nat → Int32} {Q : State → Prop} (D : LC p l s m args meth c G A b L xs) {i : Nat} (hi : i + 4 ≤ L) {cells slots : Nat} (hc : cells + 100 ≤ room_1.cells) (hs : slots + 1200 ≤ room_1.slots) {E : EE} {σ μ : Sg} {Y : va_W} (h : LI G E σ μ Y) (kk : ∀ (E' : EE) (σ' μ' : Sg) (Y' : va_W), E'.1 = E.1 → LI G E' σ' μ' Y' → V p l e room_1 s m args below meth c 9 G A (cells + 100) (slots + 1200) Q 2210 [(0, .ref b), (1, .ref (E.1 0)), (2, .ref (E.1 24)), (3, .ref (E.1 33)), (4, .ref (E.1 34)), (5, .int (nI i))] [] (Wd G E' σ' μ' Y')) : V p l e room_1 s m args below meth c 9 G A cells slots Q 591 [(0, .ref b), (1, .ref (E.1 0)), (2, .ref (E.1 24)), (3, .ref (E.1 33)), (4, .ref (E.1 34)), (5, .int (nI i))] [] (Wd G E σ μ Y) := by
  obtain ⟨C, htr, hF, hX, hbl, hbA, hL⟩ := D
  refine v_aload_n C 1 rfl dL_law_591 ?_
  refine v_aload_n C 0 rfl dL_law_592 ?_
  refine v_iload C 5 rfl dL_law_593 ?_
  refine v_iconst (v := (1 : Int32)) C (by decide) dL_law_595 ?_
  refine v_iadd C dL_law_596 ?_
  refine v_sld C hX hbl hbA (show nI i + (1 : Int32) = nI (i + 1) from nI_add i 1) (by omega) hL dL_law_597 ?_
  refine v_aload_n C 3 rfl dL_law_598 ?_
  obtain ⟨S1, S2, S3⟩ := S_placeOf (b := (xs (i + 1))) h.1
  refine v_callSH (rest := []) (As := [.ref (E.1 0), .int (xs (i + 1)), .ref (E.1 33)]) C ml_167 (m_L_placeOf l G E σ μ Y htr (xs (i + 1))) rfl rfl (Nat.le_of_ble_eq_true rfl) ⟨(Nat.le_of_ble_eq_true rfl), (Nat.le_of_ble_eq_true rfl)⟩ ⟨Nat.le_trans (Nat.add_le_add_left (Nat.le_of_ble_eq_true rfl) cells) hc, Nat.le_trans (Nat.add_le_add_left (Nat.le_of_ble_eq_true rfl) slots) hs⟩ dL_law_599 (fun u hu => ?_)
  refine v_wid (k := cells + 100) (n := slots + 1200) (Nat.add_le_add_left (Nat.le_of_ble_eq_true rfl) cells) (Nat.add_le_add_left (Nat.le_of_ble_eq_true rfl) slots) ?_
  rw [eoif]
  generalize hw : (if (X_X9_placeOf σ (xs (i + 1))) = 0 then ((F_X9_placeOf σ (xs (i + 1)))).toInt64 else E.2.2.2.2.1) = w
  generalize hk : hcd [3] (X_X9_placeOf σ (xs (i + 1))) = k1 at S1
  refine v_istore (lv' := [(6, .int k1), (0, .ref b), (1, .ref (E.1 0)), (2, .ref (E.1 24)), (3, .ref (E.1 33)), (4, .ref (E.1 34)), (5, .int (nI i))]) C (Nat.le_of_ble_eq_true rfl) rfl dL_law_602 ?_
  refine v_aload_n C 3 rfl dL_law_604 ?_
  refine v_aload_n C 1 rfl dL_law_605 ?_
  refine v_iload C 6 rfl dL_law_606 ?_
  refine v_iconst (v := (1 : Int32)) C (by decide) dL_law_608 ?_
  refine v_iadd C dL_law_609 ?_
  refine v_sld C hX hbl hbA (show nI i + (1 : Int32) = nI (i + 1) from nI_add i 1) (by omega) hL dL_law_610 ?_
  refine v_cV1 (rest := []) C mv_RL_169 (m_X10_placeOf l G (EO E w) σ μ Y (xs (i + 1)) h.mok) 24 g_24 rfl rfl rfl rfl (Nat.le_of_ble_eq_true rfl) ⟨(Nat.le_of_ble_eq_true rfl), (Nat.le_of_ble_eq_true rfl)⟩ ⟨rfl, rfl⟩ ⟨hc, hs⟩ dL_law_611 ?_
  refine v_istore (lv' := [(7, .int ((F_X10_placeOf μ (xs (i + 1))).1)), (6, .int k1), (0, .ref b), (1, .ref (E.1 0)), (2, .ref (E.1 24)), (3, .ref (E.1 33)), (4, .ref (E.1 34)), (5, .int (nI i))]) C (Nat.le_of_ble_eq_true rfl) rfl dL_law_614 ?_
  refine v_aload_n C 4 rfl dL_law_616 ?_
  refine v_cV1 (rest := []) C mv_RL_145 (m_X10_thrown l G (EO E w) σ (F_X10_placeOf μ (xs (i + 1))).2 Y) 24 g_24 rfl rfl rfl rfl (Nat.le_of_ble_eq_true rfl) ⟨(Nat.le_of_ble_eq_true rfl), (Nat.le_of_ble_eq_true rfl)⟩ ⟨rfl, rfl⟩ ⟨hc, hs⟩ dL_law_617 ?_
  refine v_iload C 1 rfl dL_law_620 ?_
  refine v_icmp_eq (tgt := 627) C (by decide) dL_law_622 (fun ht => ?_) (fun ht => absurd (show F_X10_thrown (F_X10_placeOf μ (xs (i + 1))).2 = k1 from S1.symm) ht)
  refine v_iload C 1 rfl dL_law_627 ?_
  refine v_if_ne (tgt := 644) C (by decide) dL_law_629 (fun _ => ?_) (fun hz0 => ?_)
  · refine v_goto (tgt := 2210) C (by decide) dL_law_644 ?_
    refine v_lv [2, 3, 4, 5, 6, 7] rfl ?_
    exact kk (EO E w) σ (F_X10_placeOf μ (xs (i + 1))).2 Y rfl (h.step S3 (A_placeOf h.2.1 (xs (i + 1))) (FX_placeOf μ (xs (i + 1))) rfl rfl)
  · have hX0 := hcd_0 (by decide) (hk.trans hz0)
    rw [if_pos hX0] at hw
    have hv := S2 hX0
    refine v_aload_n C 5 rfl dL_law_632 ?_
    refine v_iconst (v := (0 : Int32)) C (by decide) dL_law_633 ?_
    refine v_lald (v := w) C 33 g_33 vi_0_1 rfl dL_law_634 ?_
    refine v_iload C 0 rfl dL_law_635 ?_
    refine v_i2l C dL_law_637 ?_
    refine v_lcmp C dL_law_638 ?_
    refine v_if_eq (tgt := 644) C (by decide) dL_law_639 (fun _ => ?_) (fun hq => absurd (by rw [← hw, hv]; exact lg_self _) hq)
    refine v_goto (tgt := 2210) C (by decide) dL_law_644 ?_
    refine v_lv [2, 3, 4, 5, 6, 7] rfl ?_
    exact kk (EO E w) σ (F_X10_placeOf μ (xs (i + 1))).2 Y rfl (h.step S3 (A_placeOf h.2.1 (xs (i + 1))) (FX_placeOf μ (xs (i + 1))) rfl rfl)
set_option maxRecDepth 100000 in
set_option maxHeartbeats 2000000 in
theorem st_7 {p : Program} {l : Launch} {e : Env} {s : State} {m : MethodId} {args : Array Value} {below : List Frame} {meth : Method} {c : Code} {G : GG} {A : Nat → Prop} {b L : Nat} {xs : Nat → Int32} {Q : State → Prop} (D : LC p l s m args meth c G A b L xs) {i : Nat} (hi : i + 4 ≤ L) {cells slots : Nat} (hc : cells + 100 ≤ room_1.cells) (hs : slots + 1200 ≤ room_1.slots) {E : EE} {σ μ : Sg} {Y : va_W} (h : LI G E σ μ Y) (kk : ∀ (E' : EE) (σ' μ' : Sg) (Y' : va_W), E'.1 = E.1 → LI G E' σ' μ' Y' → V p l e room_1 s m args below meth c 9 G A (cells + 100) (slots + 1200) Q 2210 [(0, .ref b), (1, .ref (E.1 0)), (2, .ref (E.1 24)), (3, .ref (E.1 33)), (4, .ref (E.1 34)), (5, .int (nI i))] [] (Wd G E' σ' μ' Y')) : V p l e room_1 s m args below meth c 9 G A cells slots Q 647 [(0, .ref b), (1, .ref (E.1 0)), (2, .ref (E.1 24)), (3, .ref (E.1 33)), (4, .ref (E.1 34)), (5, .int (nI i))] [] (Wd G E σ μ Y) := by
  obtain ⟨C, htr, hF, hX, hbl, hbA, hL⟩ := D
  refine v_aload_n C 1 rfl dL_law_647 ?_
  refine v_aload_n C 0 rfl dL_law_648 ?_
  refine v_iload C 5 rfl dL_law_649 ?_
  refine v_iconst (v := (1 : Int32)) C (by decide) dL_law_651 ?_
  refine v_iadd C dL_law_652 ?_
  refine v_sld C hX hbl hbA (show nI i + (1 : Int32) = nI (i + 1) from nI_add i 1) (by omega) hL dL_law_653 ?_
  refine v_aload_n C 3 rfl dL_law_654 ?_
  obtain ⟨S1, S2, S3⟩ := S_cylinderOf (b := (xs (i + 1))) h.1
  refine v_callSH (rest := []) (As := [.ref (E.1 0), .int (xs (i + 1)), .ref (E.1 33)]) C ml_170 (m_L_cylinderOf l G E σ μ Y htr (xs (i + 1))) rfl rfl (Nat.le_of_ble_eq_true rfl) ⟨(Nat.le_of_ble_eq_true rfl), (Nat.le_of_ble_eq_true rfl)⟩ ⟨Nat.le_trans (Nat.add_le_add_left (Nat.le_of_ble_eq_true rfl) cells) hc, Nat.le_trans (Nat.add_le_add_left (Nat.le_of_ble_eq_true rfl) slots) hs⟩ dL_law_655 (fun u hu => ?_)
  refine v_wid (k := cells + 100) (n := slots + 1200) (Nat.add_le_add_left (Nat.le_of_ble_eq_true rfl) cells) (Nat.add_le_add_left (Nat.le_of_ble_eq_true rfl) slots) ?_
  rw [eoif]
  generalize hw : (if (X_X9_cylinderOf σ (xs (i + 1))) = 0 then ((F_X9_cylinderOf σ (xs (i + 1)))).toInt64 else E.2.2.2.2.1) = w
  generalize hk : hcd [3] (X_X9_cylinderOf σ (xs (i + 1))) = k1 at S1
  refine v_istore (lv' := [(6, .int k1), (0, .ref b), (1, .ref (E.1 0)), (2, .ref (E.1 24)), (3, .ref (E.1 33)), (4, .ref (E.1 34)), (5, .int (nI i))]) C (Nat.le_of_ble_eq_true rfl) rfl dL_law_658 ?_
  refine v_aload_n C 3 rfl dL_law_660 ?_
  refine v_aload_n C 1 rfl dL_law_661 ?_
  refine v_iload C 6 rfl dL_law_662 ?_
  refine v_iconst (v := (1 : Int32)) C (by decide) dL_law_664 ?_
  refine v_iadd C dL_law_665 ?_
  refine v_sld C hX hbl hbA (show nI i + (1 : Int32) = nI (i + 1) from nI_add i 1) (by omega) hL dL_law_666 ?_
  refine v_cV1 (rest := []) C mv_RL_172 (m_X10_cylinderOf l G (EO E w) σ μ Y (xs (i + 1)) h.mok) 24 g_24 rfl rfl rfl rfl (Nat.le_of_ble_eq_true rfl) ⟨(Nat.le_of_ble_eq_true rfl), (Nat.le_of_ble_eq_true rfl)⟩ ⟨rfl, rfl⟩ ⟨hc, hs⟩ dL_law_667 ?_
  refine v_istore (lv' := [(7, .int ((F_X10_cylinderOf μ (xs (i + 1))).1)), (6, .int k1), (0, .ref b), (1, .ref (E.1 0)), (2, .ref (E.1 24)), (3, .ref (E.1 33)), (4, .ref (E.1 34)), (5, .int (nI i))]) C (Nat.le_of_ble_eq_true rfl) rfl dL_law_670 ?_
  refine v_aload_n C 4 rfl dL_law_672 ?_
  refine v_cV1 (rest := []) C mv_RL_145 (m_X10_thrown l G (EO E w) σ (F_X10_cylinderOf μ (xs (i + 1))).2 Y) 24 g_24 rfl rfl rfl rfl (Nat.le_of_ble_eq_true rfl) ⟨(Nat.le_of_ble_eq_true rfl), (Nat.le_of_ble_eq_true rfl)⟩ ⟨rfl, rfl⟩ ⟨hc, hs⟩ dL_law_673 ?_
  refine v_iload C 1 rfl dL_law_676 ?_
  refine v_icmp_eq (tgt := 683) C (by decide) dL_law_678 (fun ht => ?_) (fun ht => absurd (show F_X10_thrown (F_X10_cylinderOf μ (xs (i + 1))).2 = k1 from S1.symm) ht)
  refine v_iload C 1 rfl dL_law_683 ?_
  refine v_if_ne (tgt := 700) C (by decide) dL_law_685 (fun _ => ?_) (fun hz0 => ?_)
  · refine v_goto (tgt := 2210) C (by decide) dL_law_700 ?_
    refine v_lv [2, 3, 4, 5, 6, 7] rfl ?_
    exact kk (EO E w) σ (F_X10_cylinderOf μ (xs (i + 1))).2 Y rfl (h.step S3 (A_cylinderOf h.2.1 (xs (i + 1))) (FX_cylinderOf μ (xs (i + 1))) rfl rfl)
  · have hX0 := hcd_0 (by decide) (hk.trans hz0)
    rw [if_pos hX0] at hw
    have hv := S2 hX0
    refine v_aload_n C 5 rfl dL_law_688 ?_
    refine v_iconst (v := (0 : Int32)) C (by decide) dL_law_689 ?_
    refine v_lald (v := w) C 33 g_33 vi_0_1 rfl dL_law_690 ?_
    refine v_iload C 0 rfl dL_law_691 ?_
    refine v_i2l C dL_law_693 ?_
    refine v_lcmp C dL_law_694 ?_
    refine v_if_eq (tgt := 700) C (by decide) dL_law_695 (fun _ => ?_) (fun hq => absurd (by rw [← hw, hv]; exact lg_self _) hq)
    refine v_goto (tgt := 2210) C (by decide) dL_law_700 ?_
    refine v_lv [2, 3, 4, 5, 6, 7] rfl ?_
    exact kk (EO E w) σ (F_X10_cylinderOf μ (xs (i + 1))).2 Y rfl (h.step S3 (A_cylinderOf h.2.1 (xs (i + 1))) (FX_cylinderOf μ (xs (i + 1))) rfl rfl)
set_option maxRecDepth 100000 in
set_option maxHeartbeats 2000000 in
theorem st_8 {p : Program} {l : Launch} {e : Env} {s : State} {m : MethodId} {args : Array Value} {below : List Frame} {meth : Method} {c : Code} {G : GG} {A : Nat → Prop} {b L : Nat} {xs : Nat → Int32} {Q : State → Prop} (D : LC p l s m args meth c G A b L xs) {i : Nat} (hi : i + 4 ≤ L) {cells slots : Nat} (hc : cells + 100 ≤ room_1.cells) (hs : slots + 1200 ≤ room_1.slots) {E : EE} {σ μ : Sg} {Y : va_W} (h : LI G E σ μ Y) (kk : ∀ (E' : EE) (σ' μ' : Sg) (Y' : va_W), E'.1 = E.1 → LI G E' σ' μ' Y' → V p l e room_1 s m args below meth c 9 G A (cells + 100) (slots + 1200) Q 2210 [(0, .ref b), (1, .ref (E.1 0)), (2, .ref (E.1 24)), (3, .ref (E.1 33)), (4, .ref (E.1 34)), (5, .int (nI i))] [] (Wd G E' σ' μ' Y')) : V p l e room_1 s m args below meth c 9 G A cells slots Q 703 [(0, .ref b), (1, .ref (E.1 0)), (2, .ref (E.1 24)), (3, .ref (E.1 33)), (4, .ref (E.1 34)), (5, .int (nI i))] [] (Wd G E σ μ Y) := by
  obtain ⟨C, htr, hF, hX, hbl, hbA, hL⟩ := D
  refine v_aload_n C 1 rfl dL_law_703 ?_
  refine v_aload_n C 0 rfl dL_law_704 ?_
  refine v_iload C 5 rfl dL_law_705 ?_
  refine v_iconst (v := (1 : Int32)) C (by decide) dL_law_707 ?_
  refine v_iadd C dL_law_708 ?_
  refine v_sld C hX hbl hbA (show nI i + (1 : Int32) = nI (i + 1) from nI_add i 1) (by omega) hL dL_law_709 ?_
  refine v_aload_n C 3 rfl dL_law_710 ?_
  obtain ⟨S1, S2, S3⟩ := S_sectorOf (b := (xs (i + 1))) h.1
  refine v_callSH (rest := []) (As := [.ref (E.1 0), .int (xs (i + 1)), .ref (E.1 33)]) C ml_173 (m_L_sectorOf l G E σ μ Y htr (xs (i + 1))) rfl rfl (Nat.le_of_ble_eq_true rfl) ⟨(Nat.le_of_ble_eq_true rfl), (Nat.le_of_ble_eq_true rfl)⟩ ⟨Nat.le_trans (Nat.add_le_add_left (Nat.le_of_ble_eq_true rfl) cells) hc, Nat.le_trans (Nat.add_le_add_left (Nat.le_of_ble_eq_true rfl) slots) hs⟩ dL_law_711 (fun u hu => ?_)
  refine v_wid (k := cells + 100) (n := slots + 1200) (Nat.add_le_add_left (Nat.le_of_ble_eq_true rfl) cells) (Nat.add_le_add_left (Nat.le_of_ble_eq_true rfl) slots) ?_
  rw [eoif]
  generalize hw : (if (X_X9_sectorOf σ (xs (i + 1))) = 0 then ((F_X9_sectorOf σ (xs (i + 1)))).toInt64 else E.2.2.2.2.1) = w
  generalize hk : hcd [3] (X_X9_sectorOf σ (xs (i + 1))) = k1 at S1
  refine v_istore (lv' := [(6, .int k1), (0, .ref b), (1, .ref (E.1 0)), (2, .ref (E.1 24)), (3, .ref (E.1 33)), (4, .ref (E.1 34)), (5, .int (nI i))]) C (Nat.le_of_ble_eq_true rfl) rfl dL_law_714 ?_
  refine v_aload_n C 3 rfl dL_law_716 ?_
  refine v_aload_n C 1 rfl dL_law_717 ?_
  refine v_iload C 6 rfl dL_law_718 ?_
  refine v_iconst (v := (1 : Int32)) C (by decide) dL_law_720 ?_
  refine v_iadd C dL_law_721 ?_
  refine v_sld C hX hbl hbA (show nI i + (1 : Int32) = nI (i + 1) from nI_add i 1) (by omega) hL dL_law_722 ?_
  refine v_cV1 (rest := []) C mv_RL_175 (m_X10_sectorOf l G (EO E w) σ μ Y (xs (i + 1)) h.mok) 24 g_24 rfl rfl rfl rfl (Nat.le_of_ble_eq_true rfl) ⟨(Nat.le_of_ble_eq_true rfl), (Nat.le_of_ble_eq_true rfl)⟩ ⟨rfl, rfl⟩ ⟨hc, hs⟩ dL_law_723 ?_
  refine v_istore (lv' := [(7, .int ((F_X10_sectorOf μ (xs (i + 1))).1)), (6, .int k1), (0, .ref b), (1, .ref (E.1 0)), (2, .ref (E.1 24)), (3, .ref (E.1 33)), (4, .ref (E.1 34)), (5, .int (nI i))]) C (Nat.le_of_ble_eq_true rfl) rfl dL_law_726 ?_
  refine v_aload_n C 4 rfl dL_law_728 ?_
  refine v_cV1 (rest := []) C mv_RL_145 (m_X10_thrown l G (EO E w) σ (F_X10_sectorOf μ (xs (i + 1))).2 Y) 24 g_24 rfl rfl rfl rfl (Nat.le_of_ble_eq_true rfl) ⟨(Nat.le_of_ble_eq_true rfl), (Nat.le_of_ble_eq_true rfl)⟩ ⟨rfl, rfl⟩ ⟨hc, hs⟩ dL_law_729 ?_
  refine v_iload C 1 rfl dL_law_732 ?_
  refine v_icmp_eq (tgt := 739) C (by decide) dL_law_734 (fun ht => ?_) (fun ht => absurd (show F_X10_thrown (F_X10_sectorOf μ (xs (i + 1))).2 = k1 from S1.symm) ht)
  refine v_iload C 1 rfl dL_law_739 ?_
  refine v_if_ne (tgt := 756) C (by decide) dL_law_741 (fun _ => ?_) (fun hz0 => ?_)
  · refine v_goto (tgt := 2210) C (by decide) dL_law_756 ?_
    refine v_lv [2, 3, 4, 5, 6, 7] rfl ?_
    exact kk (EO E w) σ (F_X10_sectorOf μ (xs (i + 1))).2 Y rfl (h.step S3 (A_sectorOf h.2.1 (xs (i + 1))) (FX_sectorOf μ (xs (i + 1))) rfl rfl)
  · have hX0 := hcd_0 (by decide) (hk.trans hz0)
    rw [if_pos hX0] at hw
    have hv := S2 hX0
    refine v_aload_n C 5 rfl dL_law_744 ?_
    refine v_iconst (v := (0 : Int32)) C (by decide) dL_law_745 ?_
    refine v_lald (v := w) C 33 g_33 vi_0_1 rfl dL_law_746 ?_
    refine v_iload C 0 rfl dL_law_747 ?_
    refine v_i2l C dL_law_749 ?_
    refine v_lcmp C dL_law_750 ?_
    refine v_if_eq (tgt := 756) C (by decide) dL_law_751 (fun _ => ?_) (fun hq => absurd (by rw [← hw, hv]; exact lg_self _) hq)
    refine v_goto (tgt := 2210) C (by decide) dL_law_756 ?_
    refine v_lv [2, 3, 4, 5, 6, 7] rfl ?_
    exact kk (EO E w) σ (F_X10_sectorOf μ (xs (i + 1))).2 Y rfl (h.step S3 (A_sectorOf h.2.1 (xs (i + 1))) (FX_sectorOf μ (xs (i + 1))) rfl rfl)
set_option maxRecDepth 100000 in
set_option maxHeartbeats 2000000 in
theorem st_9 {p : Program} {l : Launch} {e : Env} {s : State} {m : MethodId} {args : Array Value} {below : List Frame} {meth : Method} {c : Code} {G : GG} {A : Nat → Prop} {b L : Nat} {xs : Nat → Int32} {Q : State → Prop} (D : LC p l s m args meth c G A b L xs) {i : Nat} (hi : i + 4 ≤ L) {cells slots : Nat} (hc : cells + 100 ≤ room_1.cells) (hs : slots + 1200 ≤ room_1.slots) {E : EE} {σ μ : Sg} {Y : va_W} (h : LI G E σ μ Y) (kk : ∀ (E' : EE) (σ' μ' : Sg) (Y' : va_W), E'.1 = E.1 → LI G E' σ' μ' Y' → V p l e room_1 s m args below meth c 9 G A (cells + 100) (slots + 1200) Q 2210 [(0, .ref b), (1, .ref (E.1 0)), (2, .ref (E.1 24)), (3, .ref (E.1 33)), (4, .ref (E.1 34)), (5, .int (nI i))] [] (Wd G E' σ' μ' Y')) : V p l e room_1 s m args below meth c 9 G A cells slots Q 759 [(0, .ref b), (1, .ref (E.1 0)), (2, .ref (E.1 24)), (3, .ref (E.1 33)), (4, .ref (E.1 34)), (5, .int (nI i))] [] (Wd G E σ μ Y) := by
  obtain ⟨C, htr, hF, hX, hbl, hbA, hL⟩ := D
  refine v_aload_n C 1 rfl dL_law_759 ?_
  refine v_aload_n C 0 rfl dL_law_760 ?_
  refine v_iload C 5 rfl dL_law_761 ?_
  refine v_iconst (v := (1 : Int32)) C (by decide) dL_law_763 ?_
  refine v_iadd C dL_law_764 ?_
  refine v_sld C hX hbl hbA (show nI i + (1 : Int32) = nI (i + 1) from nI_add i 1) (by omega) hL dL_law_765 ?_
  refine v_aload_n C 3 rfl dL_law_766 ?_
  obtain ⟨S1, S2, S3⟩ := S_startAngle (b := (xs (i + 1))) h.1
  refine v_callSH (rest := []) (As := [.ref (E.1 0), .int (xs (i + 1)), .ref (E.1 33)]) C ml_176 (m_L_startAngle l G E σ μ Y htr (xs (i + 1))) rfl rfl (Nat.le_of_ble_eq_true rfl) ⟨(Nat.le_of_ble_eq_true rfl), (Nat.le_of_ble_eq_true rfl)⟩ ⟨Nat.le_trans (Nat.add_le_add_left (Nat.le_of_ble_eq_true rfl) cells) hc, Nat.le_trans (Nat.add_le_add_left (Nat.le_of_ble_eq_true rfl) slots) hs⟩ dL_law_767 (fun u hu => ?_)
  refine v_wid (k := cells + 100) (n := slots + 1200) (Nat.add_le_add_left (Nat.le_of_ble_eq_true rfl) cells) (Nat.add_le_add_left (Nat.le_of_ble_eq_true rfl) slots) ?_
  rw [eoif]
  generalize hw : (if (X_X9_startAngle σ (xs (i + 1))) = 0 then ((F_X9_startAngle σ (xs (i + 1)))).toInt64 else E.2.2.2.2.1) = w
  generalize hk : hcd [3] (X_X9_startAngle σ (xs (i + 1))) = k1 at S1
  refine v_istore (lv' := [(6, .int k1), (0, .ref b), (1, .ref (E.1 0)), (2, .ref (E.1 24)), (3, .ref (E.1 33)), (4, .ref (E.1 34)), (5, .int (nI i))]) C (Nat.le_of_ble_eq_true rfl) rfl dL_law_770 ?_
  refine v_aload_n C 3 rfl dL_law_772 ?_
  refine v_aload_n C 1 rfl dL_law_773 ?_
  refine v_iload C 6 rfl dL_law_774 ?_
  refine v_iconst (v := (1 : Int32)) C (by decide) dL_law_776 ?_
  refine v_iadd C dL_law_777 ?_
  refine v_sld C hX hbl hbA (show nI i + (1 : Int32) = nI (i + 1) from nI_add i 1) (by omega) hL dL_law_778 ?_
  refine v_cV1 (rest := []) C mv_RL_178 (m_X10_startAngle l G (EO E w) σ μ Y (xs (i + 1)) h.mok) 24 g_24 rfl rfl rfl rfl (Nat.le_of_ble_eq_true rfl) ⟨(Nat.le_of_ble_eq_true rfl), (Nat.le_of_ble_eq_true rfl)⟩ ⟨rfl, rfl⟩ ⟨hc, hs⟩ dL_law_779 ?_
  refine v_istore (lv' := [(7, .int ((F_X10_startAngle μ (xs (i + 1))).1)), (6, .int k1), (0, .ref b), (1, .ref (E.1 0)), (2, .ref (E.1 24)), (3, .ref (E.1 33)), (4, .ref (E.1 34)), (5, .int (nI i))]) C (Nat.le_of_ble_eq_true rfl) rfl dL_law_782 ?_
  refine v_aload_n C 4 rfl dL_law_784 ?_
  refine v_cV1 (rest := []) C mv_RL_145 (m_X10_thrown l G (EO E w) σ (F_X10_startAngle μ (xs (i + 1))).2 Y) 24 g_24 rfl rfl rfl rfl (Nat.le_of_ble_eq_true rfl) ⟨(Nat.le_of_ble_eq_true rfl), (Nat.le_of_ble_eq_true rfl)⟩ ⟨rfl, rfl⟩ ⟨hc, hs⟩ dL_law_785 ?_
  refine v_iload C 1 rfl dL_law_788 ?_
  refine v_icmp_eq (tgt := 795) C (by decide) dL_law_790 (fun ht => ?_) (fun ht => absurd (show F_X10_thrown (F_X10_startAngle μ (xs (i + 1))).2 = k1 from S1.symm) ht)
  refine v_iload C 1 rfl dL_law_795 ?_
  refine v_if_ne (tgt := 812) C (by decide) dL_law_797 (fun _ => ?_) (fun hz0 => ?_)
  · refine v_goto (tgt := 2210) C (by decide) dL_law_812 ?_
    refine v_lv [2, 3, 4, 5, 6, 7] rfl ?_
    exact kk (EO E w) σ (F_X10_startAngle μ (xs (i + 1))).2 Y rfl (h.step S3 (A_startAngle h.2.1 (xs (i + 1))) (FX_startAngle μ (xs (i + 1))) rfl rfl)
  · have hX0 := hcd_0 (by decide) (hk.trans hz0)
    rw [if_pos hX0] at hw
    have hv := S2 hX0
    refine v_aload_n C 5 rfl dL_law_800 ?_
    refine v_iconst (v := (0 : Int32)) C (by decide) dL_law_801 ?_
    refine v_lald (v := w) C 33 g_33 vi_0_1 rfl dL_law_802 ?_
    refine v_iload C 0 rfl dL_law_803 ?_
    refine v_i2l C dL_law_805 ?_
    refine v_lcmp C dL_law_806 ?_
    refine v_if_eq (tgt := 812) C (by decide) dL_law_807 (fun _ => ?_) (fun hq => absurd (by rw [← hw, hv]; exact lg_self _) hq)
    refine v_goto (tgt := 2210) C (by decide) dL_law_812 ?_
    refine v_lv [2, 3, 4, 5, 6, 7] rfl ?_
    exact kk (EO E w) σ (F_X10_startAngle μ (xs (i + 1))).2 Y rfl (h.step S3 (A_startAngle h.2.1 (xs (i + 1))) (FX_startAngle μ (xs (i + 1))) rfl rfl)
set_option maxRecDepth 100000 in
set_option maxHeartbeats 2000000 in
theorem st_10 {p : Program} {l : Launch} {e : Env} {s : State} {m : MethodId} {args : Array Value} {below : List Frame} {meth : Method} {c : Code} {G : GG} {A : Nat → Prop} {b L : Nat} {xs : Nat → Int32} {Q : State → Prop} (D : LC p l s m args meth c G A b L xs) {i : Nat} (hi : i + 4 ≤ L) {cells slots : Nat} (hc : cells + 100 ≤ room_1.cells) (hs : slots + 1200 ≤ room_1.slots) {E : EE} {σ μ : Sg} {Y : va_W} (h : LI G E σ μ Y) (kk : ∀ (E' : EE) (σ' μ' : Sg) (Y' : va_W), E'.1 = E.1 → LI G E' σ' μ' Y' → V p l e room_1 s m args below meth c 9 G A (cells + 100) (slots + 1200) Q 2210 [(0, .ref b), (1, .ref (E.1 0)), (2, .ref (E.1 24)), (3, .ref (E.1 33)), (4, .ref (E.1 34)), (5, .int (nI i))] [] (Wd G E' σ' μ' Y')) : V p l e room_1 s m args below meth c 9 G A cells slots Q 815 [(0, .ref b), (1, .ref (E.1 0)), (2, .ref (E.1 24)), (3, .ref (E.1 33)), (4, .ref (E.1 34)), (5, .int (nI i))] [] (Wd G E σ μ Y) := by
  obtain ⟨C, htr, hF, hX, hbl, hbA, hL⟩ := D
  refine v_aload_n C 1 rfl dL_law_815 ?_
  refine v_aload_n C 0 rfl dL_law_816 ?_
  refine v_iload C 5 rfl dL_law_817 ?_
  refine v_iconst (v := (1 : Int32)) C (by decide) dL_law_819 ?_
  refine v_iadd C dL_law_820 ?_
  refine v_sld C hX hbl hbA (show nI i + (1 : Int32) = nI (i + 1) from nI_add i 1) (by omega) hL dL_law_821 ?_
  refine v_aload_n C 3 rfl dL_law_822 ?_
  obtain ⟨S1, S2, S3⟩ := S_accessTime (b := (xs (i + 1))) h.1
  refine v_callSH (rest := []) (As := [.ref (E.1 0), .int (xs (i + 1)), .ref (E.1 33)]) C ml_179 (m_L_accessTime l G E σ μ Y htr (xs (i + 1))) rfl rfl (Nat.le_of_ble_eq_true rfl) ⟨(Nat.le_of_ble_eq_true rfl), (Nat.le_of_ble_eq_true rfl)⟩ ⟨Nat.le_trans (Nat.add_le_add_left (Nat.le_of_ble_eq_true rfl) cells) hc, Nat.le_trans (Nat.add_le_add_left (Nat.le_of_ble_eq_true rfl) slots) hs⟩ dL_law_823 (fun u hu => ?_)
  refine v_wid (k := cells + 100) (n := slots + 1200) (Nat.add_le_add_left (Nat.le_of_ble_eq_true rfl) cells) (Nat.add_le_add_left (Nat.le_of_ble_eq_true rfl) slots) ?_
  rw [eoif]
  generalize hw : (if (X_X9_accessTime σ (xs (i + 1))) = 0 then ((F_X9_accessTime σ (xs (i + 1)))).toInt64 else E.2.2.2.2.1) = w
  generalize hk : hcd [3] (X_X9_accessTime σ (xs (i + 1))) = k1 at S1
  refine v_istore (lv' := [(6, .int k1), (0, .ref b), (1, .ref (E.1 0)), (2, .ref (E.1 24)), (3, .ref (E.1 33)), (4, .ref (E.1 34)), (5, .int (nI i))]) C (Nat.le_of_ble_eq_true rfl) rfl dL_law_826 ?_
  refine v_aload_n C 3 rfl dL_law_828 ?_
  refine v_aload_n C 1 rfl dL_law_829 ?_
  refine v_iload C 6 rfl dL_law_830 ?_
  refine v_iconst (v := (1 : Int32)) C (by decide) dL_law_832 ?_
  refine v_iadd C dL_law_833 ?_
  refine v_sld C hX hbl hbA (show nI i + (1 : Int32) = nI (i + 1) from nI_add i 1) (by omega) hL dL_law_834 ?_
  refine v_cV1 (rest := []) C mv_RL_181 (m_X10_accessTime l G (EO E w) σ μ Y (xs (i + 1)) h.mok) 24 g_24 rfl rfl rfl rfl (Nat.le_of_ble_eq_true rfl) ⟨(Nat.le_of_ble_eq_true rfl), (Nat.le_of_ble_eq_true rfl)⟩ ⟨rfl, rfl⟩ ⟨hc, hs⟩ dL_law_835 ?_
  refine v_istore (lv' := [(7, .int ((F_X10_accessTime μ (xs (i + 1))).1)), (6, .int k1), (0, .ref b), (1, .ref (E.1 0)), (2, .ref (E.1 24)), (3, .ref (E.1 33)), (4, .ref (E.1 34)), (5, .int (nI i))]) C (Nat.le_of_ble_eq_true rfl) rfl dL_law_838 ?_
  refine v_aload_n C 4 rfl dL_law_840 ?_
  refine v_cV1 (rest := []) C mv_RL_145 (m_X10_thrown l G (EO E w) σ (F_X10_accessTime μ (xs (i + 1))).2 Y) 24 g_24 rfl rfl rfl rfl (Nat.le_of_ble_eq_true rfl) ⟨(Nat.le_of_ble_eq_true rfl), (Nat.le_of_ble_eq_true rfl)⟩ ⟨rfl, rfl⟩ ⟨hc, hs⟩ dL_law_841 ?_
  refine v_iload C 1 rfl dL_law_844 ?_
  refine v_icmp_eq (tgt := 851) C (by decide) dL_law_846 (fun ht => ?_) (fun ht => absurd (show F_X10_thrown (F_X10_accessTime μ (xs (i + 1))).2 = k1 from S1.symm) ht)
  refine v_iload C 1 rfl dL_law_851 ?_
  refine v_if_ne (tgt := 868) C (by decide) dL_law_853 (fun _ => ?_) (fun hz0 => ?_)
  · refine v_goto (tgt := 2210) C (by decide) dL_law_868 ?_
    refine v_lv [2, 3, 4, 5, 6, 7] rfl ?_
    exact kk (EO E w) σ (F_X10_accessTime μ (xs (i + 1))).2 Y rfl (h.step S3 (A_accessTime h.2.1 (xs (i + 1))) (FX_accessTime μ (xs (i + 1))) rfl rfl)
  · have hX0 := hcd_0 (by decide) (hk.trans hz0)
    rw [if_pos hX0] at hw
    have hv := S2 hX0
    refine v_aload_n C 5 rfl dL_law_856 ?_
    refine v_iconst (v := (0 : Int32)) C (by decide) dL_law_857 ?_
    refine v_lald (v := w) C 33 g_33 vi_0_1 rfl dL_law_858 ?_
    refine v_iload C 0 rfl dL_law_859 ?_
    refine v_i2l C dL_law_861 ?_
    refine v_lcmp C dL_law_862 ?_
    refine v_if_eq (tgt := 868) C (by decide) dL_law_863 (fun _ => ?_) (fun hq => absurd (by rw [← hw, hv]; exact lg_self _) hq)
    refine v_goto (tgt := 2210) C (by decide) dL_law_868 ?_
    refine v_lv [2, 3, 4, 5, 6, 7] rfl ?_
    exact kk (EO E w) σ (F_X10_accessTime μ (xs (i + 1))).2 Y rfl (h.step S3 (A_accessTime h.2.1 (xs (i + 1))) (FX_accessTime μ (xs (i + 1))) rfl rfl)
set_option maxRecDepth 100000 in
set_option maxHeartbeats 2000000 in
theorem st_11 {p : Program} {l : Launch} {e : Env} {s : State} {m : MethodId} {args : Array Value} {below : List Frame} {meth : Method} {c : Code} {G : GG} {A : Nat → Prop} {b L : Nat} {xs : Nat → Int32} {Q : State → Prop} (D : LC p l s m args meth c G A b L xs) {i : Nat} (hi : i + 4 ≤ L) {cells slots : Nat} (hc : cells + 100 ≤ room_1.cells) (hs : slots + 1200 ≤ room_1.slots) {E : EE} {σ μ : Sg} {Y : va_W} (h : LI G E σ μ Y) (kk : ∀ (E' : EE) (σ' μ' : Sg) (Y' : va_W), E'.1 = E.1 → LI G E' σ' μ' Y' → V p l e room_1 s m args below meth c 9 G A (cells + 100) (slots + 1200) Q 2210 [(0, .ref b), (1, .ref (E.1 0)), (2, .ref (E.1 24)), (3, .ref (E.1 33)), (4, .ref (E.1 34)), (5, .int (nI i))] [] (Wd G E' σ' μ' Y')) : V p l e room_1 s m args below meth c 9 G A cells slots Q 871 [(0, .ref b), (1, .ref (E.1 0)), (2, .ref (E.1 24)), (3, .ref (E.1 33)), (4, .ref (E.1 34)), (5, .int (nI i))] [] (Wd G E σ μ Y) := by
  obtain ⟨C, htr, hF, hX, hbl, hbA, hL⟩ := D
  refine v_aload_n C 1 rfl dL_law_871 ?_
  refine v_aload_n C 0 rfl dL_law_872 ?_
  refine v_iload C 5 rfl dL_law_873 ?_
  refine v_iconst (v := (1 : Int32)) C (by decide) dL_law_875 ?_
  refine v_iadd C dL_law_876 ?_
  refine v_sld C hX hbl hbA (show nI i + (1 : Int32) = nI (i + 1) from nI_add i 1) (by omega) hL dL_law_877 ?_
  refine v_aload_n C 3 rfl dL_law_878 ?_
  obtain ⟨S1, S2, S3⟩ := S_moveToSpare (b := (xs (i + 1))) h.1
  refine v_callSH (rest := []) (As := [.ref (E.1 0), .int (xs (i + 1)), .ref (E.1 33)]) C ml_182 (m_L_moveToSpare l G E σ μ Y htr (xs (i + 1))) rfl rfl (Nat.le_of_ble_eq_true rfl) ⟨(Nat.le_of_ble_eq_true rfl), (Nat.le_of_ble_eq_true rfl)⟩ ⟨Nat.le_trans (Nat.add_le_add_left (Nat.le_of_ble_eq_true rfl) cells) hc, Nat.le_trans (Nat.add_le_add_left (Nat.le_of_ble_eq_true rfl) slots) hs⟩ dL_law_879 (fun u hu => ?_)
  refine v_wid (k := cells + 100) (n := slots + 1200) (Nat.add_le_add_left (Nat.le_of_ble_eq_true rfl) cells) (Nat.add_le_add_left (Nat.le_of_ble_eq_true rfl) slots) ?_
  rw [eoif]
  generalize hw : (if (X_X9_moveToSpare σ (xs (i + 1))) = 0 then ((F_X9_moveToSpare σ (xs (i + 1))).1).toInt64 else E.2.2.2.2.1) = w
  generalize hk : hcd [3, 2, 4] (X_X9_moveToSpare σ (xs (i + 1))) = k1 at S1
  refine v_istore (lv' := [(6, .int k1), (0, .ref b), (1, .ref (E.1 0)), (2, .ref (E.1 24)), (3, .ref (E.1 33)), (4, .ref (E.1 34)), (5, .int (nI i))]) C (Nat.le_of_ble_eq_true rfl) rfl dL_law_882 ?_
  refine v_aload_n C 3 rfl dL_law_884 ?_
  refine v_aload_n C 1 rfl dL_law_885 ?_
  refine v_iload C 6 rfl dL_law_886 ?_
  refine v_iconst (v := (1 : Int32)) C (by decide) dL_law_888 ?_
  refine v_iadd C dL_law_889 ?_
  refine v_sld C hX hbl hbA (show nI i + (1 : Int32) = nI (i + 1) from nI_add i 1) (by omega) hL dL_law_890 ?_
  refine v_cV1 (rest := []) C mv_RL_184 (m_X10_moveToSpare l G (EO E w) (F_X9_moveToSpare σ (xs (i + 1))).2 μ Y (xs (i + 1)) h.mok) 24 g_24 rfl rfl rfl rfl (Nat.le_of_ble_eq_true rfl) ⟨(Nat.le_of_ble_eq_true rfl), (Nat.le_of_ble_eq_true rfl)⟩ ⟨rfl, rfl⟩ ⟨hc, hs⟩ dL_law_891 ?_
  refine v_istore (lv' := [(7, .int ((F_X10_moveToSpare μ (xs (i + 1))).1)), (6, .int k1), (0, .ref b), (1, .ref (E.1 0)), (2, .ref (E.1 24)), (3, .ref (E.1 33)), (4, .ref (E.1 34)), (5, .int (nI i))]) C (Nat.le_of_ble_eq_true rfl) rfl dL_law_894 ?_
  refine v_aload_n C 4 rfl dL_law_896 ?_
  refine v_cV1 (rest := []) C mv_RL_145 (m_X10_thrown l G (EO E w) (F_X9_moveToSpare σ (xs (i + 1))).2 (F_X10_moveToSpare μ (xs (i + 1))).2 Y) 24 g_24 rfl rfl rfl rfl (Nat.le_of_ble_eq_true rfl) ⟨(Nat.le_of_ble_eq_true rfl), (Nat.le_of_ble_eq_true rfl)⟩ ⟨rfl, rfl⟩ ⟨hc, hs⟩ dL_law_897 ?_
  refine v_iload C 1 rfl dL_law_900 ?_
  refine v_icmp_eq (tgt := 907) C (by decide) dL_law_902 (fun ht => ?_) (fun ht => absurd (show F_X10_thrown (F_X10_moveToSpare μ (xs (i + 1))).2 = k1 from S1.symm) ht)
  refine v_iload C 1 rfl dL_law_907 ?_
  refine v_if_ne (tgt := 924) C (by decide) dL_law_909 (fun _ => ?_) (fun hz0 => ?_)
  · refine v_goto (tgt := 2210) C (by decide) dL_law_924 ?_
    refine v_lv [2, 3, 4, 5, 6, 7] rfl ?_
    exact kk (EO E w) (F_X9_moveToSpare σ (xs (i + 1))).2 (F_X10_moveToSpare μ (xs (i + 1))).2 Y rfl (h.step S3 (A_moveToSpare h.mok h.2.1 (xs (i + 1))) (FX_moveToSpare h.mok (xs (i + 1))) rfl rfl)
  · have hX0 := hcd_0 (by decide) (hk.trans hz0)
    rw [if_pos hX0] at hw
    have hv := S2 hX0
    refine v_aload_n C 5 rfl dL_law_912 ?_
    refine v_iconst (v := (0 : Int32)) C (by decide) dL_law_913 ?_
    refine v_lald (v := w) C 33 g_33 vi_0_1 rfl dL_law_914 ?_
    refine v_iload C 0 rfl dL_law_915 ?_
    refine v_i2l C dL_law_917 ?_
    refine v_lcmp C dL_law_918 ?_
    refine v_if_eq (tgt := 924) C (by decide) dL_law_919 (fun _ => ?_) (fun hq => absurd (by rw [← hw, hv]; exact lg_self _) hq)
    refine v_goto (tgt := 2210) C (by decide) dL_law_924 ?_
    refine v_lv [2, 3, 4, 5, 6, 7] rfl ?_
    exact kk (EO E w) (F_X9_moveToSpare σ (xs (i + 1))).2 (F_X10_moveToSpare μ (xs (i + 1))).2 Y rfl (h.step S3 (A_moveToSpare h.mok h.2.1 (xs (i + 1))) (FX_moveToSpare h.mok (xs (i + 1))) rfl rfl)
set_option maxRecDepth 100000 in
set_option maxHeartbeats 2000000 in
theorem st_12 {p : Program} {l : Launch} {e : Env} {s : State} {m : MethodId} {args : Array Value} {below : List Frame} {meth : Method} {c : Code} {G : GG} {A : Nat → Prop} {b L : Nat} {xs : Nat → Int32} {Q : State → Prop} (D : LC p l s m args meth c G A b L xs) {i : Nat} (hi : i + 4 ≤ L) {cells slots : Nat} (hc : cells + 100 ≤ room_1.cells) (hs : slots + 1200 ≤ room_1.slots) {E : EE} {σ μ : Sg} {Y : va_W} (h : LI G E σ μ Y) (kk : ∀ (E' : EE) (σ' μ' : Sg) (Y' : va_W), E'.1 = E.1 → LI G E' σ' μ' Y' → V p l e room_1 s m args below meth c 9 G A (cells + 100) (slots + 1200) Q 2210 [(0, .ref b), (1, .ref (E.1 0)), (2, .ref (E.1 24)), (3, .ref (E.1 33)), (4, .ref (E.1 34)), (5, .int (nI i))] [] (Wd G E' σ' μ' Y')) : V p l e room_1 s m args below meth c 9 G A cells slots Q 927 [(0, .ref b), (1, .ref (E.1 0)), (2, .ref (E.1 24)), (3, .ref (E.1 33)), (4, .ref (E.1 34)), (5, .int (nI i))] [] (Wd G E σ μ Y) := by
  obtain ⟨C, htr, hF, hX, hbl, hbA, hL⟩ := D
  refine v_aload_n C 1 rfl dL_law_927 ?_
  refine v_aload_n C 0 rfl dL_law_928 ?_
  refine v_iload C 5 rfl dL_law_929 ?_
  refine v_iconst (v := (1 : Int32)) C (by decide) dL_law_931 ?_
  refine v_iadd C dL_law_932 ?_
  refine v_sld C hX hbl hbA (show nI i + (1 : Int32) = nI (i + 1) from nI_add i 1) (by omega) hL dL_law_933 ?_
  refine v_aload_n C 3 rfl dL_law_934 ?_
  obtain ⟨S1, S2, S3⟩ := S_accessesOf (b := (xs (i + 1))) h.1
  refine v_callSH (rest := []) (As := [.ref (E.1 0), .int (xs (i + 1)), .ref (E.1 33)]) C ml_185 (m_L_accessesOf l G E σ μ Y htr (xs (i + 1))) rfl rfl (Nat.le_of_ble_eq_true rfl) ⟨(Nat.le_of_ble_eq_true rfl), (Nat.le_of_ble_eq_true rfl)⟩ ⟨Nat.le_trans (Nat.add_le_add_left (Nat.le_of_ble_eq_true rfl) cells) hc, Nat.le_trans (Nat.add_le_add_left (Nat.le_of_ble_eq_true rfl) slots) hs⟩ dL_law_935 (fun u hu => ?_)
  refine v_wid (k := cells + 100) (n := slots + 1200) (Nat.add_le_add_left (Nat.le_of_ble_eq_true rfl) cells) (Nat.add_le_add_left (Nat.le_of_ble_eq_true rfl) slots) ?_
  rw [eoif]
  generalize hw : (if (X_X9_accessesOf σ (xs (i + 1))) = 0 then ((F_X9_accessesOf σ (xs (i + 1)))).toInt64 else E.2.2.2.2.1) = w
  generalize hk : hcd [3] (X_X9_accessesOf σ (xs (i + 1))) = k1 at S1
  refine v_istore (lv' := [(6, .int k1), (0, .ref b), (1, .ref (E.1 0)), (2, .ref (E.1 24)), (3, .ref (E.1 33)), (4, .ref (E.1 34)), (5, .int (nI i))]) C (Nat.le_of_ble_eq_true rfl) rfl dL_law_938 ?_
  refine v_aload_n C 3 rfl dL_law_940 ?_
  refine v_aload_n C 1 rfl dL_law_941 ?_
  refine v_iload C 6 rfl dL_law_942 ?_
  refine v_iconst (v := (1 : Int32)) C (by decide) dL_law_944 ?_
  refine v_iadd C dL_law_945 ?_
  refine v_sld C hX hbl hbA (show nI i + (1 : Int32) = nI (i + 1) from nI_add i 1) (by omega) hL dL_law_946 ?_
  refine v_cV1 (rest := []) C mv_RL_187 (m_X10_accessesOf l G (EO E w) σ μ Y (xs (i + 1)) h.mok) 24 g_24 rfl rfl rfl rfl (Nat.le_of_ble_eq_true rfl) ⟨(Nat.le_of_ble_eq_true rfl), (Nat.le_of_ble_eq_true rfl)⟩ ⟨rfl, rfl⟩ ⟨hc, hs⟩ dL_law_947 ?_
  refine v_istore (lv' := [(7, .int ((F_X10_accessesOf μ (xs (i + 1))).1)), (6, .int k1), (0, .ref b), (1, .ref (E.1 0)), (2, .ref (E.1 24)), (3, .ref (E.1 33)), (4, .ref (E.1 34)), (5, .int (nI i))]) C (Nat.le_of_ble_eq_true rfl) rfl dL_law_950 ?_
  refine v_aload_n C 4 rfl dL_law_952 ?_
  refine v_cV1 (rest := []) C mv_RL_145 (m_X10_thrown l G (EO E w) σ (F_X10_accessesOf μ (xs (i + 1))).2 Y) 24 g_24 rfl rfl rfl rfl (Nat.le_of_ble_eq_true rfl) ⟨(Nat.le_of_ble_eq_true rfl), (Nat.le_of_ble_eq_true rfl)⟩ ⟨rfl, rfl⟩ ⟨hc, hs⟩ dL_law_953 ?_
  refine v_iload C 1 rfl dL_law_956 ?_
  refine v_icmp_eq (tgt := 963) C (by decide) dL_law_958 (fun ht => ?_) (fun ht => absurd (show F_X10_thrown (F_X10_accessesOf μ (xs (i + 1))).2 = k1 from S1.symm) ht)
  refine v_iload C 1 rfl dL_law_963 ?_
  refine v_if_ne (tgt := 980) C (by decide) dL_law_965 (fun _ => ?_) (fun hz0 => ?_)
  · refine v_goto (tgt := 2210) C (by decide) dL_law_980 ?_
    refine v_lv [2, 3, 4, 5, 6, 7] rfl ?_
    exact kk (EO E w) σ (F_X10_accessesOf μ (xs (i + 1))).2 Y rfl (h.step S3 (A_accessesOf h.2.1 (xs (i + 1))) (FX_accessesOf μ (xs (i + 1))) rfl rfl)
  · have hX0 := hcd_0 (by decide) (hk.trans hz0)
    rw [if_pos hX0] at hw
    have hv := S2 hX0
    refine v_aload_n C 5 rfl dL_law_968 ?_
    refine v_iconst (v := (0 : Int32)) C (by decide) dL_law_969 ?_
    refine v_lald (v := w) C 33 g_33 vi_0_1 rfl dL_law_970 ?_
    refine v_iload C 0 rfl dL_law_971 ?_
    refine v_i2l C dL_law_973 ?_
    refine v_lcmp C dL_law_974 ?_
    refine v_if_eq (tgt := 980) C (by decide) dL_law_975 (fun _ => ?_) (fun hq => absurd (by rw [← hw, hv]; exact lg_self _) hq)
    refine v_goto (tgt := 2210) C (by decide) dL_law_980 ?_
    refine v_lv [2, 3, 4, 5, 6, 7] rfl ?_
    exact kk (EO E w) σ (F_X10_accessesOf μ (xs (i + 1))).2 Y rfl (h.step S3 (A_accessesOf h.2.1 (xs (i + 1))) (FX_accessesOf μ (xs (i + 1))) rfl rfl)
set_option maxRecDepth 100000 in
set_option maxHeartbeats 2000000 in
theorem st_13 {p : Program} {l : Launch} {e : Env} {s : State} {m : MethodId} {args : Array Value} {below : List Frame} {meth : Method} {c : Code} {G : GG} {A : Nat → Prop} {b L : Nat} {xs : Nat → Int32} {Q : State → Prop} (D : LC p l s m args meth c G A b L xs) {i : Nat} (hi : i + 4 ≤ L) {cells slots : Nat} (hc : cells + 100 ≤ room_1.cells) (hs : slots + 1200 ≤ room_1.slots) {E : EE} {σ μ : Sg} {Y : va_W} (h : LI G E σ μ Y) (kk : ∀ (E' : EE) (σ' μ' : Sg) (Y' : va_W), E'.1 = E.1 → LI G E' σ' μ' Y' → V p l e room_1 s m args below meth c 9 G A (cells + 100) (slots + 1200) Q 2210 [(0, .ref b), (1, .ref (E.1 0)), (2, .ref (E.1 24)), (3, .ref (E.1 33)), (4, .ref (E.1 34)), (5, .int (nI i))] [] (Wd G E' σ' μ' Y')) : V p l e room_1 s m args below meth c 9 G A cells slots Q 983 [(0, .ref b), (1, .ref (E.1 0)), (2, .ref (E.1 24)), (3, .ref (E.1 33)), (4, .ref (E.1 34)), (5, .int (nI i))] [] (Wd G E σ μ Y) := by
  obtain ⟨C, htr, hF, hX, hbl, hbA, hL⟩ := D
  refine v_aload_n C 1 rfl dL_law_983 ?_
  refine v_wid (k := cells + 100) (n := slots + 1200) (Nat.le_add_right _ _) (Nat.le_add_right _ _) ?_
  obtain ⟨S1, S3⟩ := S_clock h.1
  refine v_cV1 (rest := []) C mv_RL_188 (m_X9_clock l G E σ μ Y) 0 g_0 rfl rfl rfl rfl (Nat.le_of_ble_eq_true rfl) ⟨(Nat.le_of_ble_eq_true rfl), (Nat.le_of_ble_eq_true rfl)⟩ ⟨rfl, rfl⟩ ⟨hc, hs⟩ dL_law_984 ?_
  refine v_aload_n C 2 rfl dL_law_987 ?_
  refine v_cV1 (rest := [.int (F_X9_clock σ)]) C mv_RL_191 (m_X10_clock l G E σ μ Y) 24 g_24 rfl rfl rfl rfl (Nat.le_of_ble_eq_true rfl) ⟨(Nat.le_of_ble_eq_true rfl), (Nat.le_of_ble_eq_true rfl)⟩ ⟨rfl, rfl⟩ ⟨hc, hs⟩ dL_law_988 ?_
  refine v_icmp_eq (tgt := 2210) C (by decide) dL_law_991 (fun ht => ?_) (fun ht => absurd S1 ht)
  refine v_lv [0, 1, 2, 3, 4, 5] rfl ?_
  exact kk E σ (F_X10_clock μ).2 Y rfl (h.step S3 (by exact h.2.1) ⟨rfl, rfl, rfl, rfl⟩ rfl rfl)
