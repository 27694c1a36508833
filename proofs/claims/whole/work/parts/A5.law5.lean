set_option maxRecDepth 100000 in
set_option maxHeartbeats 2000000 in
theorem st_28 {p : Program} {l : Launch} {e : Env} {s : State} {m : MethodId} {args : Array Value} {below : List Frame} {meth : Method} {c : Code} {G : GG} {A : Nat → Prop} {b L : Nat} {xs : Nat → Int32} {Q : State → Prop} (D : LC p l s m args meth c G A b L xs) {i : Nat} (hi : i + 4 ≤ L) {cells slots : Nat} (hc : cells + 100 ≤ room_1.cells) (hs : slots + 1200 ≤ room_1.slots) {E : EE} {σ μ : Sg} {Y : va_W} (h : LI G E σ μ Y) (kk : ∀ (E' : EE) (σ' μ' : Sg) (Y' : va_W), E'.1 = E.1 → LI G E' σ' μ' Y' → V p l e room_1 s m args below meth c 9 G A (cells + 100) (slots + 1200) Q 2210 [(0, .ref b), (1, .ref (E.1 0)), (2, .ref (E.1 24)), (3, .ref (E.1 33)), (4, .ref (E.1 34)), (5, .int (nI i))] [] (Wd G E' σ' μ' Y')) : V p l e room_1 s m args below meth c 9 G A cells slots Q 1521 [(0, .ref b), (1, .ref (E.1 0)), (2, .ref (E.1 24)), (3, .ref (E.1 33)), (4, .ref (E.1 34)), (5, .int (nI i))] [] (Wd G E σ μ Y) := by
  obtain ⟨C, htr, hF, hX, hbl, hbA, hL⟩ := D
  refine v_aload_n C 1 rfl dL_law_1521 ?_
  refine v_aload_n C 0 rfl dL_law_1522 ?_
  refine v_iload C 5 rfl dL_law_1523 ?_
  refine v_iconst (v := (1 : Int32)) C (by decide) dL_law_1525 ?_
  refine v_iadd C dL_law_1526 ?_
  refine v_sld C hX hbl hbA (show nI i + (1 : Int32) = nI (i + 1) from nI_add i 1) (by omega) hL dL_law_1527 ?_
  refine v_aload_n C 3 rfl dL_law_1528 ?_
  obtain ⟨S1, S2, S3⟩ := S_state (n := (xs (i + 1))) h.1
  refine v_callSH (rest := []) (As := [.ref (E.1 0), .int (xs (i + 1)), .ref (E.1 33)]) C ml_242 (m_L_state l G E σ μ Y htr (xs (i + 1)) h.2.2.2.1) rfl rfl (Nat.le_of_ble_eq_true rfl) ⟨(Nat.le_of_ble_eq_true rfl), (Nat.le_of_ble_eq_true rfl)⟩ ⟨Nat.le_trans (Nat.add_le_add_left (Nat.le_of_ble_eq_true rfl) cells) hc, Nat.le_trans (Nat.add_le_add_left (Nat.le_of_ble_eq_true rfl) slots) hs⟩ dL_law_1529 (fun u hu => ?_)
  refine v_wid (k := cells + 100) (n := slots + 1200) (Nat.add_le_add_left (Nat.le_of_ble_eq_true rfl) cells) (Nat.add_le_add_left (Nat.le_of_ble_eq_true rfl) slots) ?_
  rw [eoif]
  generalize hw : (if (X_X9_state σ (xs (i + 1))) = 0 then ((F_X9_state σ (xs (i + 1)))).toInt64 else E.2.2.2.2.1) = w
  generalize hk : hcd [3] (X_X9_state σ (xs (i + 1))) = k1 at S1
  refine v_istore (lv' := [(6, .int k1), (0, .ref b), (1, .ref (E.1 0)), (2, .ref (E.1 24)), (3, .ref (E.1 33)), (4, .ref (E.1 34)), (5, .int (nI i))]) C (Nat.le_of_ble_eq_true rfl) rfl dL_law_1532 ?_
  refine v_aload_n C 3 rfl dL_law_1534 ?_
  refine v_aload_n C 1 rfl dL_law_1535 ?_
  refine v_iload C 6 rfl dL_law_1536 ?_
  refine v_iconst (v := (1 : Int32)) C (by decide) dL_law_1538 ?_
  refine v_iadd C dL_law_1539 ?_
  refine v_sld C hX hbl hbA (show nI i + (1 : Int32) = nI (i + 1) from nI_add i 1) (by omega) hL dL_law_1540 ?_
  refine v_cV1 (rest := []) C mv_RL_244 (m_X10_state l G (EO E w) σ μ Y (xs (i + 1)) h.mok) 24 g_24 rfl rfl rfl rfl (Nat.le_of_ble_eq_true rfl) ⟨(Nat.le_of_ble_eq_true rfl), (Nat.le_of_ble_eq_true rfl)⟩ ⟨rfl, rfl⟩ ⟨hc, hs⟩ dL_law_1541 ?_
  refine v_istore (lv' := [(7, .int ((F_X10_state μ (xs (i + 1))).1)), (6, .int k1), (0, .ref b), (1, .ref (E.1 0)), (2, .ref (E.1 24)), (3, .ref (E.1 33)), (4, .ref (E.1 34)), (5, .int (nI i))]) C (Nat.le_of_ble_eq_true rfl) rfl dL_law_1544 ?_
  refine v_aload_n C 4 rfl dL_law_1546 ?_
  refine v_cV1 (rest := []) C mv_RL_145 (m_X10_thrown l G (EO E w) σ (F_X10_state μ (xs (i + 1))).2 Y) 24 g_24 rfl rfl rfl rfl (Nat.le_of_ble_eq_true rfl) ⟨(Nat.le_of_ble_eq_true rfl), (Nat.le_of_ble_eq_true rfl)⟩ ⟨rfl, rfl⟩ ⟨hc, hs⟩ dL_law_1547 ?_
  refine v_iload C 1 rfl dL_law_1550 ?_
  refine v_icmp_eq (tgt := 1557) C (by decide) dL_law_1552 (fun ht => ?_) (fun ht => absurd (show F_X10_thrown (F_X10_state μ (xs (i + 1))).2 = k1 from S1.symm) ht)
  refine v_iload C 1 rfl dL_law_1557 ?_
  refine v_if_ne (tgt := 1574) C (by decide) dL_law_1559 (fun _ => ?_) (fun hz0 => ?_)
  · refine v_goto (tgt := 2210) C (by decide) dL_law_1574 ?_
    refine v_lv [2, 3, 4, 5, 6, 7] rfl ?_
    exact kk (EO E w) σ (F_X10_state μ (xs (i + 1))).2 Y rfl (h.step S3 (A_state h.2.1 (xs (i + 1))) (FX_state μ (xs (i + 1))) rfl rfl)
  · have hX0 := hcd_0 (by decide) (hk.trans hz0)
    rw [if_pos hX0] at hw
    have hv := S2 hX0
    refine v_aload_n C 5 rfl dL_law_1562 ?_
    refine v_iconst (v := (0 : Int32)) C (by decide) dL_law_1563 ?_
    refine v_lald (v := w) C 33 g_33 vi_0_1 rfl dL_law_1564 ?_
    refine v_iload C 0 rfl dL_law_1565 ?_
    refine v_i2l C dL_law_1567 ?_
    refine v_lcmp C dL_law_1568 ?_
    refine v_if_eq (tgt := 1574) C (by decide) dL_law_1569 (fun _ => ?_) (fun hq => absurd (by rw [← hw, hv]; exact lg_self _) hq)
    refine v_goto (tgt := 2210) C (by decide) dL_law_1574 ?_
    refine v_lv [2, 3, 4, 5, 6, 7] rfl ?_
    exact kk (EO E w) σ (F_X10_state μ (xs (i + 1))).2 Y rfl (h.step S3 (A_state h.2.1 (xs (i + 1))) (FX_state μ (xs (i + 1))) rfl rfl)
set_option maxRecDepth 100000 in
set_option maxHeartbeats 2000000 in
theorem st_29 {p : Program} {l : Launch} {e : Env} {s : State} {m : MethodId} {args : Array Value} {below : List Frame} {meth : Method} {c : Code} {G : GG} {A : Nat → Prop} {b L : Nat} {xs : Nat → Int32} {Q : State → Prop} (D : LC p l s m args meth c G A b L xs) {i : Nat} (hi : i + 4 ≤ L) {cells slots : Nat} (hc : cells + 100 ≤ room_1.cells) (hs : slots + 1200 ≤ room_1.slots) {E : EE} {σ μ : Sg} {Y : va_W} (h : LI G E σ μ Y) (kk : ∀ (E' : EE) (σ' μ' : Sg) (Y' : va_W), E'.1 = E.1 → LI G E' σ' μ' Y' → V p l e room_1 s m args below meth c 9 G A (cells + 100) (slots + 1200) Q 2210 [(0, .ref b), (1, .ref (E.1 0)), (2, .ref (E.1 24)), (3, .ref (E.1 33)), (4, .ref (E.1 34)), (5, .int (nI i))] [] (Wd G E' σ' μ' Y')) : V p l e room_1 s m args below meth c 9 G A cells slots Q 1577 [(0, .ref b), (1, .ref (E.1 0)), (2, .ref (E.1 24)), (3, .ref (E.1 33)), (4, .ref (E.1 34)), (5, .int (nI i))] [] (Wd G E σ μ Y) := by
  obtain ⟨C, htr, hF, hX, hbl, hbA, hL⟩ := D
  refine v_aload_n C 1 rfl dL_law_1577 ?_
  refine v_aload_n C 0 rfl dL_law_1578 ?_
  refine v_iload C 5 rfl dL_law_1579 ?_
  refine v_iconst (v := (1 : Int32)) C (by decide) dL_law_1581 ?_
  refine v_iadd C dL_law_1582 ?_
  refine v_sld C hX hbl hbA (show nI i + (1 : Int32) = nI (i + 1) from nI_add i 1) (by omega) hL dL_law_1583 ?_
  refine v_aload_n C 3 rfl dL_law_1584 ?_
  obtain ⟨S1, S2, S3⟩ := S_bucket (n := (xs (i + 1))) h.1 h.2.1
  refine v_callSH (rest := []) (As := [.ref (E.1 0), .int (xs (i + 1)), .ref (E.1 33)]) C ml_245 (m_L_bucket l G E σ μ Y htr (xs (i + 1)) h.2.2.2.1) rfl rfl (Nat.le_of_ble_eq_true rfl) ⟨(Nat.le_of_ble_eq_true rfl), (Nat.le_of_ble_eq_true rfl)⟩ ⟨Nat.le_trans (Nat.add_le_add_left (Nat.le_of_ble_eq_true rfl) cells) hc, Nat.le_trans (Nat.add_le_add_left (Nat.le_of_ble_eq_true rfl) slots) hs⟩ dL_law_1585 (fun u hu => ?_)
  refine v_wid (k := cells + 100) (n := slots + 1200) (Nat.add_le_add_left (Nat.le_of_ble_eq_true rfl) cells) (Nat.add_le_add_left (Nat.le_of_ble_eq_true rfl) slots) ?_
  rw [eoif]
  generalize hw : (if (X_X9_bucket σ (xs (i + 1))) = 0 then ((F_X9_bucket σ (xs (i + 1)))).toInt64 else E.2.2.2.2.1) = w
  generalize hk : hcd [3, 2] (X_X9_bucket σ (xs (i + 1))) = k1 at S1
  refine v_istore (lv' := [(6, .int k1), (0, .ref b), (1, .ref (E.1 0)), (2, .ref (E.1 24)), (3, .ref (E.1 33)), (4, .ref (E.1 34)), (5, .int (nI i))]) C (Nat.le_of_ble_eq_true rfl) rfl dL_law_1588 ?_
  refine v_aload_n C 3 rfl dL_law_1590 ?_
  refine v_aload_n C 1 rfl dL_law_1591 ?_
  refine v_iload C 6 rfl dL_law_1592 ?_
  refine v_iconst (v := (1 : Int32)) C (by decide) dL_law_1594 ?_
  refine v_iadd C dL_law_1595 ?_
  refine v_sld C hX hbl hbA (show nI i + (1 : Int32) = nI (i + 1) from nI_add i 1) (by omega) hL dL_law_1596 ?_
  refine v_cV1 (rest := []) C mv_RL_247 (m_X10_bucket l G (EO E w) σ μ Y (xs (i + 1)) h.mok) 24 g_24 rfl rfl rfl rfl (Nat.le_of_ble_eq_true rfl) ⟨(Nat.le_of_ble_eq_true rfl), (Nat.le_of_ble_eq_true rfl)⟩ ⟨rfl, rfl⟩ ⟨hc, hs⟩ dL_law_1597 ?_
  refine v_istore (lv' := [(7, .int ((F_X10_bucket μ (xs (i + 1))).1)), (6, .int k1), (0, .ref b), (1, .ref (E.1 0)), (2, .ref (E.1 24)), (3, .ref (E.1 33)), (4, .ref (E.1 34)), (5, .int (nI i))]) C (Nat.le_of_ble_eq_true rfl) rfl dL_law_1600 ?_
  refine v_aload_n C 4 rfl dL_law_1602 ?_
  refine v_cV1 (rest := []) C mv_RL_145 (m_X10_thrown l G (EO E w) σ (F_X10_bucket μ (xs (i + 1))).2 Y) 24 g_24 rfl rfl rfl rfl (Nat.le_of_ble_eq_true rfl) ⟨(Nat.le_of_ble_eq_true rfl), (Nat.le_of_ble_eq_true rfl)⟩ ⟨rfl, rfl⟩ ⟨hc, hs⟩ dL_law_1603 ?_
  refine v_iload C 1 rfl dL_law_1606 ?_
  refine v_icmp_eq (tgt := 1613) C (by decide) dL_law_1608 (fun ht => ?_) (fun ht => absurd (show F_X10_thrown (F_X10_bucket μ (xs (i + 1))).2 = k1 from S1.symm) ht)
  refine v_iload C 1 rfl dL_law_1613 ?_
  refine v_if_ne (tgt := 1630) C (by decide) dL_law_1615 (fun _ => ?_) (fun hz0 => ?_)
  · refine v_goto (tgt := 2210) C (by decide) dL_law_1630 ?_
    refine v_lv [2, 3, 4, 5, 6, 7] rfl ?_
    exact kk (EO E w) σ (F_X10_bucket μ (xs (i + 1))).2 Y rfl (h.step S3 (A_bucket h.2.1 (xs (i + 1))) (FX_bucket μ (xs (i + 1))) rfl rfl)
  · have hX0 := hcd_0 (by decide) (hk.trans hz0)
    rw [if_pos hX0] at hw
    have hv := S2 hX0
    refine v_aload_n C 5 rfl dL_law_1618 ?_
    refine v_iconst (v := (0 : Int32)) C (by decide) dL_law_1619 ?_
    refine v_lald (v := w) C 33 g_33 vi_0_1 rfl dL_law_1620 ?_
    refine v_iload C 0 rfl dL_law_1621 ?_
    refine v_i2l C dL_law_1623 ?_
    refine v_lcmp C dL_law_1624 ?_
    refine v_if_eq (tgt := 1630) C (by decide) dL_law_1625 (fun _ => ?_) (fun hq => absurd (by rw [← hw, hv]; exact lg_self _) hq)
    refine v_goto (tgt := 2210) C (by decide) dL_law_1630 ?_
    refine v_lv [2, 3, 4, 5, 6, 7] rfl ?_
    exact kk (EO E w) σ (F_X10_bucket μ (xs (i + 1))).2 Y rfl (h.step S3 (A_bucket h.2.1 (xs (i + 1))) (FX_bucket μ (xs (i + 1))) rfl rfl)
set_option maxRecDepth 100000 in
set_option maxHeartbeats 2000000 in
theorem st_30 {p : Program} {l : Launch} {e : Env} {s : State} {m : MethodId} {args : Array Value} {below : List Frame} {meth : Method} {c : Code} {G : GG} {A : Nat → Prop} {b L : Nat} {xs : Nat → Int32} {Q : State → Prop} (D : LC p l s m args meth c G A b L xs) {i : Nat} (hi : i + 4 ≤ L) {cells slots : Nat} (hc : cells + 100 ≤ room_1.cells) (hs : slots + 1200 ≤ room_1.slots) {E : EE} {σ μ : Sg} {Y : va_W} (h : LI G E σ μ Y) (kk : ∀ (E' : EE) (σ' μ' : Sg) (Y' : va_W), E'.1 = E.1 → LI G E' σ' μ' Y' → V p l e room_1 s m args below meth c 9 G A (cells + 100) (slots + 1200) Q 2210 [(0, .ref b), (1, .ref (E.1 0)), (2, .ref (E.1 24)), (3, .ref (E.1 33)), (4, .ref (E.1 34)), (5, .int (nI i))] [] (Wd G E' σ' μ' Y')) : V p l e room_1 s m args below meth c 9 G A cells slots Q 1633 [(0, .ref b), (1, .ref (E.1 0)), (2, .ref (E.1 24)), (3, .ref (E.1 33)), (4, .ref (E.1 34)), (5, .int (nI i))] [] (Wd G E σ μ Y) := by
  obtain ⟨C, htr, hF, hX, hbl, hbA, hL⟩ := D
  refine v_aload_n C 1 rfl dL_law_1633 ?_
  refine v_aload_n C 0 rfl dL_law_1634 ?_
  refine v_iload C 5 rfl dL_law_1635 ?_
  refine v_iconst (v := (1 : Int32)) C (by decide) dL_law_1637 ?_
  refine v_iadd C dL_law_1638 ?_
  refine v_sld C hX hbl hbA (show nI i + (1 : Int32) = nI (i + 1) from nI_add i 1) (by omega) hL dL_law_1639 ?_
  refine v_aload_n C 3 rfl dL_law_1640 ?_
  obtain ⟨S1, S2, S3⟩ := S_finish (n := (xs (i + 1))) h.1
  refine v_callSH (rest := []) (As := [.ref (E.1 0), .int (xs (i + 1)), .ref (E.1 33)]) C ml_248 (m_L_finish l G E σ μ Y htr (xs (i + 1)) h.2.2.2.1) rfl rfl (Nat.le_of_ble_eq_true rfl) ⟨(Nat.le_of_ble_eq_true rfl), (Nat.le_of_ble_eq_true rfl)⟩ ⟨Nat.le_trans (Nat.add_le_add_left (Nat.le_of_ble_eq_true rfl) cells) hc, Nat.le_trans (Nat.add_le_add_left (Nat.le_of_ble_eq_true rfl) slots) hs⟩ dL_law_1641 (fun u hu => ?_)
  refine v_wid (k := cells + 100) (n := slots + 1200) (Nat.add_le_add_left (Nat.le_of_ble_eq_true rfl) cells) (Nat.add_le_add_left (Nat.le_of_ble_eq_true rfl) slots) ?_
  rw [eoif]
  generalize hw : (if (X_X9_finish σ (xs (i + 1))) = 0 then ((F_X9_finish σ (xs (i + 1)))).toInt64 else E.2.2.2.2.1) = w
  generalize hk : hcd [3, 2] (X_X9_finish σ (xs (i + 1))) = k1 at S1
  refine v_istore (lv' := [(6, .int k1), (0, .ref b), (1, .ref (E.1 0)), (2, .ref (E.1 24)), (3, .ref (E.1 33)), (4, .ref (E.1 34)), (5, .int (nI i))]) C (Nat.le_of_ble_eq_true rfl) rfl dL_law_1644 ?_
  refine v_aload_n C 3 rfl dL_law_1646 ?_
  refine v_aload_n C 1 rfl dL_law_1647 ?_
  refine v_iload C 6 rfl dL_law_1648 ?_
  refine v_iconst (v := (1 : Int32)) C (by decide) dL_law_1650 ?_
  refine v_iadd C dL_law_1651 ?_
  refine v_sld C hX hbl hbA (show nI i + (1 : Int32) = nI (i + 1) from nI_add i 1) (by omega) hL dL_law_1652 ?_
  refine v_cV1 (rest := []) C mv_RL_250 (m_X10_finish l G (EO E w) σ μ Y (xs (i + 1)) h.mok) 24 g_24 rfl rfl rfl rfl (Nat.le_of_ble_eq_true rfl) ⟨(Nat.le_of_ble_eq_true rfl), (Nat.le_of_ble_eq_true rfl)⟩ ⟨rfl, rfl⟩ ⟨hc, hs⟩ dL_law_1653 ?_
  refine v_istore (lv' := [(7, .int ((F_X10_finish μ (xs (i + 1))).1)), (6, .int k1), (0, .ref b), (1, .ref (E.1 0)), (2, .ref (E.1 24)), (3, .ref (E.1 33)), (4, .ref (E.1 34)), (5, .int (nI i))]) C (Nat.le_of_ble_eq_true rfl) rfl dL_law_1656 ?_
  refine v_aload_n C 4 rfl dL_law_1658 ?_
  refine v_cV1 (rest := []) C mv_RL_145 (m_X10_thrown l G (EO E w) σ (F_X10_finish μ (xs (i + 1))).2 Y) 24 g_24 rfl rfl rfl rfl (Nat.le_of_ble_eq_true rfl) ⟨(Nat.le_of_ble_eq_true rfl), (Nat.le_of_ble_eq_true rfl)⟩ ⟨rfl, rfl⟩ ⟨hc, hs⟩ dL_law_1659 ?_
  refine v_iload C 1 rfl dL_law_1662 ?_
  refine v_icmp_eq (tgt := 1669) C (by decide) dL_law_1664 (fun ht => ?_) (fun ht => absurd (show F_X10_thrown (F_X10_finish μ (xs (i + 1))).2 = k1 from S1.symm) ht)
  refine v_iload C 1 rfl dL_law_1669 ?_
  refine v_if_ne (tgt := 1686) C (by decide) dL_law_1671 (fun _ => ?_) (fun hz0 => ?_)
  · refine v_goto (tgt := 2210) C (by decide) dL_law_1686 ?_
    refine v_lv [2, 3, 4, 5, 6, 7] rfl ?_
    exact kk (EO E w) σ (F_X10_finish μ (xs (i + 1))).2 Y rfl (h.step S3 (A_finish h.2.1 (xs (i + 1))) (FX_finish μ (xs (i + 1))) rfl rfl)
  · have hX0 := hcd_0 (by decide) (hk.trans hz0)
    rw [if_pos hX0] at hw
    have hv := S2 hX0
    refine v_aload_n C 5 rfl dL_law_1674 ?_
    refine v_iconst (v := (0 : Int32)) C (by decide) dL_law_1675 ?_
    refine v_lald (v := w) C 33 g_33 vi_0_1 rfl dL_law_1676 ?_
    refine v_iload C 0 rfl dL_law_1677 ?_
    refine v_i2l C dL_law_1679 ?_
    refine v_lcmp C dL_law_1680 ?_
    refine v_if_eq (tgt := 1686) C (by decide) dL_law_1681 (fun _ => ?_) (fun hq => absurd (by rw [← hw, hv]; exact lg_self _) hq)
    refine v_goto (tgt := 2210) C (by decide) dL_law_1686 ?_
    refine v_lv [2, 3, 4, 5, 6, 7] rfl ?_
    exact kk (EO E w) σ (F_X10_finish μ (xs (i + 1))).2 Y rfl (h.step S3 (A_finish h.2.1 (xs (i + 1))) (FX_finish μ (xs (i + 1))) rfl rfl)
set_option maxRecDepth 100000 in
set_option maxHeartbeats 2000000 in
theorem st_31 {p : Program} {l : Launch} {e : Env} {s : State} {m : MethodId} {args : Array Value} {below : List Frame} {meth : Method} {c : Code} {G : GG} {A : Nat → Prop} {b L : Nat} {xs : Nat → Int32} {Q : State → Prop} (D : LC p l s m args meth c G A b L xs) {i : Nat} (hi : i + 4 ≤ L) {cells slots : Nat} (hc : cells + 100 ≤ room_1.cells) (hs : slots + 1200 ≤ room_1.slots) {E : EE} {σ μ : Sg} {Y : va_W} (h : LI G E σ μ Y) (kk : ∀ (E' : EE) (σ' μ' : Sg) (Y' : va_W), E'.1 = E.1 → LI G E' σ' μ' Y' → V p l e room_1 s m args below meth c 9 G A (cells + 100) (slots + 1200) Q 2210 [(0, .ref b), (1, .ref (E.1 0)), (2, .ref (E.1 24)), (3, .ref (E.1 33)), (4, .ref (E.1 34)), (5, .int (nI i))] [] (Wd G E' σ' μ' Y')) : V p l e room_1 s m args below meth c 9 G A cells slots Q 1689 [(0, .ref b), (1, .ref (E.1 0)), (2, .ref (E.1 24)), (3, .ref (E.1 33)), (4, .ref (E.1 34)), (5, .int (nI i))] [] (Wd G E σ μ Y) := by
  obtain ⟨C, htr, hF, hX, hbl, hbA, hL⟩ := D
  refine v_aload_n C 1 rfl dL_law_1689 ?_
  refine v_aload_n C 0 rfl dL_law_1690 ?_
  refine v_iload C 5 rfl dL_law_1691 ?_
  refine v_iconst (v := (1 : Int32)) C (by decide) dL_law_1693 ?_
  refine v_iadd C dL_law_1694 ?_
  refine v_sld C hX hbl hbA (show nI i + (1 : Int32) = nI (i + 1) from nI_add i 1) (by omega) hL dL_law_1695 ?_
  refine v_aload_n C 3 rfl dL_law_1696 ?_
  obtain ⟨S1, S2, S3⟩ := S_isLate (n := (xs (i + 1))) h.1 h.2.1
  refine v_callSH (rest := []) (As := [.ref (E.1 0), .int (xs (i + 1)), .ref (E.1 33)]) C ml_251 (m_L_isLate l G E σ μ Y htr (xs (i + 1)) h.2.2.2.1) rfl rfl (Nat.le_of_ble_eq_true rfl) ⟨(Nat.le_of_ble_eq_true rfl), (Nat.le_of_ble_eq_true rfl)⟩ ⟨Nat.le_trans (Nat.add_le_add_left (Nat.le_of_ble_eq_true rfl) cells) hc, Nat.le_trans (Nat.add_le_add_left (Nat.le_of_ble_eq_true rfl) slots) hs⟩ dL_law_1697 (fun u hu => ?_)
  refine v_wid (k := cells + 100) (n := slots + 1200) (Nat.add_le_add_left (Nat.le_of_ble_eq_true rfl) cells) (Nat.add_le_add_left (Nat.le_of_ble_eq_true rfl) slots) ?_
  rw [eoif]
  generalize hw : (if (X_X9_isLate σ (xs (i + 1))) = 0 then (if (F_X9_isLate σ (xs (i + 1))) = 0 then (0 : Int64) else 1) else E.2.2.2.2.1) = w
  generalize hk : hcd [3, 2, 4] (X_X9_isLate σ (xs (i + 1))) = k1 at S1
  refine v_istore (lv' := [(6, .int k1), (0, .ref b), (1, .ref (E.1 0)), (2, .ref (E.1 24)), (3, .ref (E.1 33)), (4, .ref (E.1 34)), (5, .int (nI i))]) C (Nat.le_of_ble_eq_true rfl) rfl dL_law_1700 ?_
  refine v_aload_n C 3 rfl dL_law_1702 ?_
  refine v_aload_n C 1 rfl dL_law_1703 ?_
  refine v_iload C 6 rfl dL_law_1704 ?_
  refine v_iconst (v := (1 : Int32)) C (by decide) dL_law_1706 ?_
  refine v_iadd C dL_law_1707 ?_
  refine v_sld C hX hbl hbA (show nI i + (1 : Int32) = nI (i + 1) from nI_add i 1) (by omega) hL dL_law_1708 ?_
  refine v_cV1 (rest := []) C mv_RL_253 (m_X10_isLate l G (EO E w) σ μ Y (xs (i + 1)) h.mok) 24 g_24 rfl rfl rfl rfl (Nat.le_of_ble_eq_true rfl) ⟨(Nat.le_of_ble_eq_true rfl), (Nat.le_of_ble_eq_true rfl)⟩ ⟨rfl, rfl⟩ ⟨hc, hs⟩ dL_law_1709 ?_
  refine v_istore (lv' := [(7, .int ((F_X10_isLate μ (xs (i + 1))).1)), (6, .int k1), (0, .ref b), (1, .ref (E.1 0)), (2, .ref (E.1 24)), (3, .ref (E.1 33)), (4, .ref (E.1 34)), (5, .int (nI i))]) C (Nat.le_of_ble_eq_true rfl) rfl dL_law_1712 ?_
  refine v_aload_n C 4 rfl dL_law_1714 ?_
  refine v_cV1 (rest := []) C mv_RL_145 (m_X10_thrown l G (EO E w) σ (F_X10_isLate μ (xs (i + 1))).2 Y) 24 g_24 rfl rfl rfl rfl (Nat.le_of_ble_eq_true rfl) ⟨(Nat.le_of_ble_eq_true rfl), (Nat.le_of_ble_eq_true rfl)⟩ ⟨rfl, rfl⟩ ⟨hc, hs⟩ dL_law_1715 ?_
  refine v_iload C 1 rfl dL_law_1718 ?_
  refine v_icmp_eq (tgt := 1725) C (by decide) dL_law_1720 (fun ht => ?_) (fun ht => absurd (show F_X10_thrown (F_X10_isLate μ (xs (i + 1))).2 = k1 from S1.symm) ht)
  refine v_iload C 1 rfl dL_law_1725 ?_
  refine v_if_ne (tgt := 1749) C (by decide) dL_law_1727 (fun _ => ?_) (fun hz0 => ?_)
  · refine v_goto (tgt := 2210) C (by decide) dL_law_1749 ?_
    refine v_lv [2, 3, 4, 5, 6, 7] rfl ?_
    exact kk (EO E w) σ (F_X10_isLate μ (xs (i + 1))).2 Y rfl (h.step S3 (A_isLate h.2.1 (xs (i + 1))) (FX_isLate μ (xs (i + 1))) rfl rfl)
  · have hX0 := hcd_0 (by decide) (hk.trans hz0)
    rw [if_pos hX0] at hw
    have hv := S2 hX0
    refine v_aload_n C 5 rfl dL_law_1730 ?_
    refine v_iconst (v := (0 : Int32)) C (by decide) dL_law_1731 ?_
    refine v_lald (v := w) C 33 g_33 vi_0_1 rfl dL_law_1732 ?_
    refine v_iload C 0 rfl dL_law_1733 ?_
    refine v_if_eq (tgt := 1742) C (by decide) dL_law_1735 (fun hb => ?_) (fun hb => ?_)
    · refine v_lconst (v := (0 : Int64)) C (by decide) dL_law_1742 ?_
      refine v_lcmp C dL_law_1743 ?_
      refine v_if_eq (tgt := 1749) C (by decide) dL_law_1744 (fun _ => ?_) (fun hq => absurd (by rw [← hw, hv, if_pos hb]; exact lg_self _) hq)
      refine v_goto (tgt := 2210) C (by decide) dL_law_1749 ?_
      refine v_lv [2, 3, 4, 5, 6, 7] rfl ?_
      exact kk (EO E w) σ (F_X10_isLate μ (xs (i + 1))).2 Y rfl (h.step S3 (A_isLate h.2.1 (xs (i + 1))) (FX_isLate μ (xs (i + 1))) rfl rfl)
    · refine v_lconst (v := (1 : Int64)) C (by decide) dL_law_1738 ?_
      refine v_goto (tgt := 1743) C (by decide) dL_law_1739 ?_
      refine v_lcmp C dL_law_1743 ?_
      refine v_if_eq (tgt := 1749) C (by decide) dL_law_1744 (fun _ => ?_) (fun hq => absurd (by rw [← hw, hv, if_neg hb]; exact lg_self _) hq)
      refine v_goto (tgt := 2210) C (by decide) dL_law_1749 ?_
      refine v_lv [2, 3, 4, 5, 6, 7] rfl ?_
      exact kk (EO E w) σ (F_X10_isLate μ (xs (i + 1))).2 Y rfl (h.step S3 (A_isLate h.2.1 (xs (i + 1))) (FX_isLate μ (xs (i + 1))) rfl rfl)
set_option maxRecDepth 100000 in
set_option maxHeartbeats 2000000 in
theorem st_32 {p : Program} {l : Launch} {e : Env} {s : State} {m : MethodId} {args : Array Value} {below : List Frame} {meth : Method} {c : Code} {G : GG} {A : Nat → Prop} {b L : Nat} {xs : Nat → Int32} {Q : State → Prop} (D : LC p l s m args meth c G A b L xs) {i : Nat} (hi : i + 4 ≤ L) {cells slots : Nat} (hc : cells + 100 ≤ room_1.cells) (hs : slots + 1200 ≤ room_1.slots) {E : EE} {σ μ : Sg} {Y : va_W} (h : LI G E σ μ Y) (kk : ∀ (E' : EE) (σ' μ' : Sg) (Y' : va_W), E'.1 = E.1 → LI G E' σ' μ' Y' → V p l e room_1 s m args below meth c 9 G A (cells + 100) (slots + 1200) Q 2210 [(0, .ref b), (1, .ref (E.1 0)), (2, .ref (E.1 24)), (3, .ref (E.1 33)), (4, .ref (E.1 34)), (5, .int (nI i))] [] (Wd G E' σ' μ' Y')) : V p l e room_1 s m args below meth c 9 G A cells slots Q 1752 [(0, .ref b), (1, .ref (E.1 0)), (2, .ref (E.1 24)), (3, .ref (E.1 33)), (4, .ref (E.1 34)), (5, .int (nI i))] [] (Wd G E σ μ Y) := by
  obtain ⟨C, htr, hF, hX, hbl, hbA, hL⟩ := D
  refine v_aload_n C 1 rfl dL_law_1752 ?_
  refine v_aload_n C 3 rfl dL_law_1753 ?_
  obtain ⟨S1, S2, S3⟩ := S_bestFinish h.1 h.2.1
  refine v_callSH (rest := []) (As := [.ref (E.1 0), .ref (E.1 33)]) C ml_254 (m_L_bestFinish l G E σ μ Y htr h.2.2.2.1) rfl rfl (Nat.le_of_ble_eq_true rfl) ⟨(Nat.le_of_ble_eq_true rfl), (Nat.le_of_ble_eq_true rfl)⟩ ⟨Nat.le_trans (Nat.add_le_add_left (Nat.le_of_ble_eq_true rfl) cells) hc, Nat.le_trans (Nat.add_le_add_left (Nat.le_of_ble_eq_true rfl) slots) hs⟩ dL_law_1754 (fun u hu => ?_)
  refine v_wid (k := cells + 100) (n := slots + 1200) (Nat.add_le_add_left (Nat.le_of_ble_eq_true rfl) cells) (Nat.add_le_add_left (Nat.le_of_ble_eq_true rfl) slots) ?_
  rw [eoif]
  generalize hw : (if (X_X9_bestFinish σ) = 0 then ((F_X9_bestFinish σ).1).toInt64 else E.2.2.2.2.1) = w
  generalize hk : hcd [4] (X_X9_bestFinish σ) = k1 at S1
  refine v_istore (lv' := [(6, .int k1), (0, .ref b), (1, .ref (E.1 0)), (2, .ref (E.1 24)), (3, .ref (E.1 33)), (4, .ref (E.1 34)), (5, .int (nI i))]) C (Nat.le_of_ble_eq_true rfl) rfl dL_law_1757 ?_
  refine v_aload_n C 3 rfl dL_law_1759 ?_
  refine v_cV1 (rest := []) C mv_RL_256 (m_X10_bestFinish l G (EO E w) (F_X9_bestFinish σ).2 μ Y h.mok) 24 g_24 rfl rfl rfl rfl (Nat.le_of_ble_eq_true rfl) ⟨(Nat.le_of_ble_eq_true rfl), (Nat.le_of_ble_eq_true rfl)⟩ ⟨rfl, rfl⟩ ⟨hc, hs⟩ dL_law_1760 ?_
  refine v_istore (lv' := [(7, .int ((F_X10_bestFinish μ).1)), (6, .int k1), (0, .ref b), (1, .ref (E.1 0)), (2, .ref (E.1 24)), (3, .ref (E.1 33)), (4, .ref (E.1 34)), (5, .int (nI i))]) C (Nat.le_of_ble_eq_true rfl) rfl dL_law_1763 ?_
  refine v_aload_n C 4 rfl dL_law_1765 ?_
  refine v_cV1 (rest := []) C mv_RL_145 (m_X10_thrown l G (EO E w) (F_X9_bestFinish σ).2 (F_X10_bestFinish μ).2 Y) 24 g_24 rfl rfl rfl rfl (Nat.le_of_ble_eq_true rfl) ⟨(Nat.le_of_ble_eq_true rfl), (Nat.le_of_ble_eq_true rfl)⟩ ⟨rfl, rfl⟩ ⟨hc, hs⟩ dL_law_1766 ?_
  refine v_iload C 1 rfl dL_law_1769 ?_
  refine v_icmp_eq (tgt := 1776) C (by decide) dL_law_1771 (fun ht => ?_) (fun ht => absurd (show F_X10_thrown (F_X10_bestFinish μ).2 = k1 from S1.symm) ht)
  refine v_iload C 1 rfl dL_law_1776 ?_
  refine v_if_ne (tgt := 1793) C (by decide) dL_law_1778 (fun _ => ?_) (fun hz0 => ?_)
  · refine v_goto (tgt := 2210) C (by decide) dL_law_1793 ?_
    refine v_lv [2, 3, 4, 5, 6, 7] rfl ?_
    exact kk (EO E w) (F_X9_bestFinish σ).2 (F_X10_bestFinish μ).2 Y rfl (h.step S3 (A_bestFinish h.2.1) (FX_bestFinish μ) rfl rfl)
  · have hX0 := hcd_0 (by decide) (hk.trans hz0)
    rw [if_pos hX0] at hw
    have hv := S2 hX0
    refine v_aload_n C 5 rfl dL_law_1781 ?_
    refine v_iconst (v := (0 : Int32)) C (by decide) dL_law_1782 ?_
    refine v_lald (v := w) C 33 g_33 vi_0_1 rfl dL_law_1783 ?_
    refine v_iload C 0 rfl dL_law_1784 ?_
    refine v_i2l C dL_law_1786 ?_
    refine v_lcmp C dL_law_1787 ?_
    refine v_if_eq (tgt := 1793) C (by decide) dL_law_1788 (fun _ => ?_) (fun hq => absurd (by rw [← hw, hv]; exact lg_self _) hq)
    refine v_goto (tgt := 2210) C (by decide) dL_law_1793 ?_
    refine v_lv [2, 3, 4, 5, 6, 7] rfl ?_
    exact kk (EO E w) (F_X9_bestFinish σ).2 (F_X10_bestFinish μ).2 Y rfl (h.step S3 (A_bestFinish h.2.1) (FX_bestFinish μ) rfl rfl)
set_option maxRecDepth 100000 in
set_option maxHeartbeats 2000000 in
theorem st_33 {p : Program} {l : Launch} {e : Env} {s : State} {m : MethodId} {args : Array Value} {below : List Frame} {meth : Method} {c : Code} {G : GG} {A : Nat → Prop} {b L : Nat} {xs : Nat → Int32} {Q : State → Prop} (D : LC p l s m args meth c G A b L xs) {i : Nat} (hi : i + 4 ≤ L) {cells slots : Nat} (hc : cells + 100 ≤ room_1.cells) (hs : slots + 1200 ≤ room_1.slots) {E : EE} {σ μ : Sg} {Y : va_W} (h : LI G E σ μ Y) (kk : ∀ (E' : EE) (σ' μ' : Sg) (Y' : va_W), E'.1 = E.1 → LI G E' σ' μ' Y' → V p l e room_1 s m args below meth c 9 G A (cells + 100) (slots + 1200) Q 2210 [(0, .ref b), (1, .ref (E.1 0)), (2, .ref (E.1 24)), (3, .ref (E.1 33)), (4, .ref (E.1 34)), (5, .int (nI i))] [] (Wd G E' σ' μ' Y')) : V p l e room_1 s m args below meth c 9 G A cells slots Q 1796 [(0, .ref b), (1, .ref (E.1 0)), (2, .ref (E.1 24)), (3, .ref (E.1 33)), (4, .ref (E.1 34)), (5, .int (nI i))] [] (Wd G E σ μ Y) := by
  obtain ⟨C, htr, hF, hX, hbl, hbA, hL⟩ := D
  refine v_aload_n C 1 rfl dL_law_1796 ?_
  refine v_aload_n C 0 rfl dL_law_1797 ?_
  refine v_iload C 5 rfl dL_law_1798 ?_
  refine v_iconst (v := (1 : Int32)) C (by decide) dL_law_1800 ?_
  refine v_iadd C dL_law_1801 ?_
  refine v_sld C hX hbl hbA (show nI i + (1 : Int32) = nI (i + 1) from nI_add i 1) (by omega) hL dL_law_1802 ?_
  refine v_aload_n C 3 rfl dL_law_1803 ?_
  obtain ⟨S1, S2, S3⟩ := S_bestRequest (po := (xs (i + 1))) h.1 h.2.1
  refine v_callSH (rest := []) (As := [.ref (E.1 0), .int (xs (i + 1)), .ref (E.1 33)]) C ml_257 (m_L_bestRequest l G E σ μ Y htr (xs (i + 1)) h.2.2.2.1) rfl rfl (Nat.le_of_ble_eq_true rfl) ⟨(Nat.le_of_ble_eq_true rfl), (Nat.le_of_ble_eq_true rfl)⟩ ⟨Nat.le_trans (Nat.add_le_add_left (Nat.le_of_ble_eq_true rfl) cells) hc, Nat.le_trans (Nat.add_le_add_left (Nat.le_of_ble_eq_true rfl) slots) hs⟩ dL_law_1804 (fun u hu => ?_)
  refine v_wid (k := cells + 100) (n := slots + 1200) (Nat.add_le_add_left (Nat.le_of_ble_eq_true rfl) cells) (Nat.add_le_add_left (Nat.le_of_ble_eq_true rfl) slots) ?_
  rw [eoif]
  generalize hw : (if (X_X9_bestRequest σ (xs (i + 1))) = 0 then ((F_X9_bestRequest σ (xs (i + 1))).1).toInt64 else E.2.2.2.2.1) = w
  generalize hk : hcd [4, 3] (X_X9_bestRequest σ (xs (i + 1))) = k1 at S1
  refine v_istore (lv' := [(6, .int k1), (0, .ref b), (1, .ref (E.1 0)), (2, .ref (E.1 24)), (3, .ref (E.1 33)), (4, .ref (E.1 34)), (5, .int (nI i))]) C (Nat.le_of_ble_eq_true rfl) rfl dL_law_1807 ?_
  refine v_aload_n C 3 rfl dL_law_1809 ?_
  refine v_aload_n C 1 rfl dL_law_1810 ?_
  refine v_iload C 6 rfl dL_law_1811 ?_
  refine v_iconst (v := (1 : Int32)) C (by decide) dL_law_1813 ?_
  refine v_iadd C dL_law_1814 ?_
  refine v_sld C hX hbl hbA (show nI i + (1 : Int32) = nI (i + 1) from nI_add i 1) (by omega) hL dL_law_1815 ?_
  refine v_cV1 (rest := []) C mv_RL_259 (m_X10_bestRequest l G (EO E w) (F_X9_bestRequest σ (xs (i + 1))).2 μ Y (xs (i + 1)) h.mok) 24 g_24 rfl rfl rfl rfl (Nat.le_of_ble_eq_true rfl) ⟨(Nat.le_of_ble_eq_true rfl), (Nat.le_of_ble_eq_true rfl)⟩ ⟨rfl, rfl⟩ ⟨hc, hs⟩ dL_law_1816 ?_
  refine v_istore (lv' := [(7, .int ((F_X10_bestRequest μ (xs (i + 1))).1)), (6, .int k1), (0, .ref b), (1, .ref (E.1 0)), (2, .ref (E.1 24)), (3, .ref (E.1 33)), (4, .ref (E.1 34)), (5, .int (nI i))]) C (Nat.le_of_ble_eq_true rfl) rfl dL_law_1819 ?_
  refine v_aload_n C 4 rfl dL_law_1821 ?_
  refine v_cV1 (rest := []) C mv_RL_145 (m_X10_thrown l G (EO E w) (F_X9_bestRequest σ (xs (i + 1))).2 (F_X10_bestRequest μ (xs (i + 1))).2 Y) 24 g_24 rfl rfl rfl rfl (Nat.le_of_ble_eq_true rfl) ⟨(Nat.le_of_ble_eq_true rfl), (Nat.le_of_ble_eq_true rfl)⟩ ⟨rfl, rfl⟩ ⟨hc, hs⟩ dL_law_1822 ?_
  refine v_iload C 1 rfl dL_law_1825 ?_
  refine v_icmp_eq (tgt := 1832) C (by decide) dL_law_1827 (fun ht => ?_) (fun ht => absurd (show F_X10_thrown (F_X10_bestRequest μ (xs (i + 1))).2 = k1 from S1.symm) ht)
  refine v_iload C 1 rfl dL_law_1832 ?_
  refine v_if_ne (tgt := 1849) C (by decide) dL_law_1834 (fun _ => ?_) (fun hz0 => ?_)
  · refine v_goto (tgt := 2210) C (by decide) dL_law_1849 ?_
    refine v_lv [2, 3, 4, 5, 6, 7] rfl ?_
    exact kk (EO E w) (F_X9_bestRequest σ (xs (i + 1))).2 (F_X10_bestRequest μ (xs (i + 1))).2 Y rfl (h.step S3 (A_bestRequest h.2.1 (xs (i + 1))) (FX_bestRequest μ (xs (i + 1))) rfl rfl)
  · have hX0 := hcd_0 (by decide) (hk.trans hz0)
    rw [if_pos hX0] at hw
    have hv := S2 hX0
    refine v_aload_n C 5 rfl dL_law_1837 ?_
    refine v_iconst (v := (0 : Int32)) C (by decide) dL_law_1838 ?_
    refine v_lald (v := w) C 33 g_33 vi_0_1 rfl dL_law_1839 ?_
    refine v_iload C 0 rfl dL_law_1840 ?_
    refine v_i2l C dL_law_1842 ?_
    refine v_lcmp C dL_law_1843 ?_
    refine v_if_eq (tgt := 1849) C (by decide) dL_law_1844 (fun _ => ?_) (fun hq => absurd (by rw [← hw, hv]; exact lg_self _) hq)
    refine v_goto (tgt := 2210) C (by decide) dL_law_1849 ?_
    refine v_lv [2, 3, 4, 5, 6, 7] rfl ?_
    exact kk (EO E w) (F_X9_bestRequest σ (xs (i + 1))).2 (F_X10_bestRequest μ (xs (i + 1))).2 Y rfl (h.step S3 (A_bestRequest h.2.1 (xs (i + 1))) (FX_bestRequest μ (xs (i + 1))) rfl rfl)
set_option maxRecDepth 100000 in
set_option maxHeartbeats 2000000 in
theorem st_34 {p : Program} {l : Launch} {e : Env} {s : State} {m : MethodId} {args : Array Value} {below : List Frame} {meth : Method} {c : Code} {G : GG} {A : Nat → Prop} {b L : Nat} {xs : Nat → Int32} {Q : State → Prop} (D : LC p l s m args meth c G A b L xs) {i : Nat} (hi : i + 4 ≤ L) {cells slots : Nat} (hc : cells + 100 ≤ room_1.cells) (hs : slots + 1200 ≤ room_1.slots) {E : EE} {σ μ : Sg} {Y : va_W} (h : LI G E σ μ Y) (kk : ∀ (E' : EE) (σ' μ' : Sg) (Y' : va_W), E'.1 = E.1 → LI G E' σ' μ' Y' → V p l e room_1 s m args below meth c 9 G A (cells + 100) (slots + 1200) Q 2210 [(0, .ref b), (1, .ref (E.1 0)), (2, .ref (E.1 24)), (3, .ref (E.1 33)), (4, .ref (E.1 34)), (5, .int (nI i))] [] (Wd G E' σ' μ' Y')) : V p l e room_1 s m args below meth c 9 G A cells slots Q 1852 [(0, .ref b), (1, .ref (E.1 0)), (2, .ref (E.1 24)), (3, .ref (E.1 33)), (4, .ref (E.1 34)), (5, .int (nI i))] [] (Wd G E σ μ Y) := by
  obtain ⟨C, htr, hF, hX, hbl, hbA, hL⟩ := D
  refine v_aload_n C 1 rfl dL_law_1852 ?_
  refine v_aload_n C 3 rfl dL_law_1853 ?_
  obtain ⟨S1, S2, S3⟩ := S_canMeetDeadlines h.1 h.2.1
  refine v_callSH (rest := []) (As := [.ref (E.1 0), .ref (E.1 33)]) C ml_260 (m_L_canMeetDeadlines l G E σ μ Y htr h.2.2.2.1) rfl rfl (Nat.le_of_ble_eq_true rfl) ⟨(Nat.le_of_ble_eq_true rfl), (Nat.le_of_ble_eq_true rfl)⟩ ⟨Nat.le_trans (Nat.add_le_add_left (Nat.le_of_ble_eq_true rfl) cells) hc, Nat.le_trans (Nat.add_le_add_left (Nat.le_of_ble_eq_true rfl) slots) hs⟩ dL_law_1854 (fun u hu => ?_)
  refine v_wid (k := cells + 100) (n := slots + 1200) (Nat.add_le_add_left (Nat.le_of_ble_eq_true rfl) cells) (Nat.add_le_add_left (Nat.le_of_ble_eq_true rfl) slots) ?_
  rw [eoif]
  generalize hw : (if (X_X9_canMeetDeadlines σ) = 0 then (if (F_X9_canMeetDeadlines σ).1 = 0 then (0 : Int64) else 1) else E.2.2.2.2.1) = w
  generalize hk : hcd [4] (X_X9_canMeetDeadlines σ) = k1 at S1
  refine v_istore (lv' := [(6, .int k1), (0, .ref b), (1, .ref (E.1 0)), (2, .ref (E.1 24)), (3, .ref (E.1 33)), (4, .ref (E.1 34)), (5, .int (nI i))]) C (Nat.le_of_ble_eq_true rfl) rfl dL_law_1857 ?_
  refine v_aload_n C 3 rfl dL_law_1859 ?_
  refine v_cV1 (rest := []) C mv_RL_262 (m_X10_canMeetDeadlines l G (EO E w) (F_X9_canMeetDeadlines σ).2 μ Y h.mok) 24 g_24 rfl rfl rfl rfl (Nat.le_of_ble_eq_true rfl) ⟨(Nat.le_of_ble_eq_true rfl), (Nat.le_of_ble_eq_true rfl)⟩ ⟨rfl, rfl⟩ ⟨hc, hs⟩ dL_law_1860 ?_
  refine v_istore (lv' := [(7, .int ((F_X10_canMeetDeadlines μ).1)), (6, .int k1), (0, .ref b), (1, .ref (E.1 0)), (2, .ref (E.1 24)), (3, .ref (E.1 33)), (4, .ref (E.1 34)), (5, .int (nI i))]) C (Nat.le_of_ble_eq_true rfl) rfl dL_law_1863 ?_
  refine v_aload_n C 4 rfl dL_law_1865 ?_
  refine v_cV1 (rest := []) C mv_RL_145 (m_X10_thrown l G (EO E w) (F_X9_canMeetDeadlines σ).2 (F_X10_canMeetDeadlines μ).2 Y) 24 g_24 rfl rfl rfl rfl (Nat.le_of_ble_eq_true rfl) ⟨(Nat.le_of_ble_eq_true rfl), (Nat.le_of_ble_eq_true rfl)⟩ ⟨rfl, rfl⟩ ⟨hc, hs⟩ dL_law_1866 ?_
  refine v_iload C 1 rfl dL_law_1869 ?_
  refine v_icmp_eq (tgt := 1876) C (by decide) dL_law_1871 (fun ht => ?_) (fun ht => absurd (show F_X10_thrown (F_X10_canMeetDeadlines μ).2 = k1 from S1.symm) ht)
  refine v_iload C 1 rfl dL_law_1876 ?_
  refine v_if_ne (tgt := 1900) C (by decide) dL_law_1878 (fun _ => ?_) (fun hz0 => ?_)
  · refine v_goto (tgt := 2210) C (by decide) dL_law_1900 ?_
    refine v_lv [2, 3, 4, 5, 6, 7] rfl ?_
    exact kk (EO E w) (F_X9_canMeetDeadlines σ).2 (F_X10_canMeetDeadlines μ).2 Y rfl (h.step S3 (A_canMeetDeadlines h.2.1) (FX_canMeetDeadlines μ) rfl rfl)
  · have hX0 := hcd_0 (by decide) (hk.trans hz0)
    rw [if_pos hX0] at hw
    have hv := S2 hX0
    refine v_aload_n C 5 rfl dL_law_1881 ?_
    refine v_iconst (v := (0 : Int32)) C (by decide) dL_law_1882 ?_
    refine v_lald (v := w) C 33 g_33 vi_0_1 rfl dL_law_1883 ?_
    refine v_iload C 0 rfl dL_law_1884 ?_
    refine v_if_eq (tgt := 1893) C (by decide) dL_law_1886 (fun hb => ?_) (fun hb => ?_)
    · refine v_lconst (v := (0 : Int64)) C (by decide) dL_law_1893 ?_
      refine v_lcmp C dL_law_1894 ?_
      refine v_if_eq (tgt := 1900) C (by decide) dL_law_1895 (fun _ => ?_) (fun hq => absurd (by rw [← hw, hv, if_pos hb]; exact lg_self _) hq)
      refine v_goto (tgt := 2210) C (by decide) dL_law_1900 ?_
      refine v_lv [2, 3, 4, 5, 6, 7] rfl ?_
      exact kk (EO E w) (F_X9_canMeetDeadlines σ).2 (F_X10_canMeetDeadlines μ).2 Y rfl (h.step S3 (A_canMeetDeadlines h.2.1) (FX_canMeetDeadlines μ) rfl rfl)
    · refine v_lconst (v := (1 : Int64)) C (by decide) dL_law_1889 ?_
      refine v_goto (tgt := 1894) C (by decide) dL_law_1890 ?_
      refine v_lcmp C dL_law_1894 ?_
      refine v_if_eq (tgt := 1900) C (by decide) dL_law_1895 (fun _ => ?_) (fun hq => absurd (by rw [← hw, hv, if_neg hb]; exact lg_self _) hq)
      refine v_goto (tgt := 2210) C (by decide) dL_law_1900 ?_
      refine v_lv [2, 3, 4, 5, 6, 7] rfl ?_
      exact kk (EO E w) (F_X9_canMeetDeadlines σ).2 (F_X10_canMeetDeadlines μ).2 Y rfl (h.step S3 (A_canMeetDeadlines h.2.1) (FX_canMeetDeadlines μ) rfl rfl)
set_option maxRecDepth 100000 in
set_option maxHeartbeats 2000000 in
theorem st_35 {p : Program} {l : Launch} {e : Env} {s : State} {m : MethodId} {args : Array Value} {below : List Frame} {meth : Method} {c : Code} {G : GG} {A : Nat → Prop} {b L : Nat} {xs : Nat → Int32} {Q : State → Prop} (D : LC p l s m args meth c G A b L xs) {i : Nat} (hi : i + 4 ≤ L) {cells slots : Nat} (hc : cells + 100 ≤ room_1.cells) (hs : slots + 1200 ≤ room_1.slots) {E : EE} {σ μ : Sg} {Y : va_W} (h : LI G E σ μ Y) (kk : ∀ (E' : EE) (σ' μ' : Sg) (Y' : va_W), E'.1 = E.1 → LI G E' σ' μ' Y' → V p l e room_1 s m args below meth c 9 G A (cells + 100) (slots + 1200) Q 2210 [(0, .ref b), (1, .ref (E.1 0)), (2, .ref (E.1 24)), (3, .ref (E.1 33)), (4, .ref (E.1 34)), (5, .int (nI i))] [] (Wd G E' σ' μ' Y')) : V p l e room_1 s m args below meth c 9 G A cells slots Q 1903 [(0, .ref b), (1, .ref (E.1 0)), (2, .ref (E.1 24)), (3, .ref (E.1 33)), (4, .ref (E.1 34)), (5, .int (nI i))] [] (Wd G E σ μ Y) := by
  obtain ⟨C, htr, hF, hX, hbl, hbA, hL⟩ := D
  refine v_aload_n C 1 rfl dL_law_1903 ?_
  refine v_aload_n C 0 rfl dL_law_1904 ?_
  refine v_iload C 5 rfl dL_law_1905 ?_
  refine v_iconst (v := (1 : Int32)) C (by decide) dL_law_1907 ?_
  refine v_iadd C dL_law_1908 ?_
  refine v_sld C hX hbl hbA (show nI i + (1 : Int32) = nI (i + 1) from nI_add i 1) (by omega) hL dL_law_1909 ?_
  refine v_aload_n C 3 rfl dL_law_1910 ?_
  obtain ⟨S1, S2, S3⟩ := S_total (wh := (xs (i + 1))) h.1
  refine v_callSH (rest := []) (As := [.ref (E.1 0), .int (xs (i + 1)), .ref (E.1 33)]) C ml_263 (m_L_total l G E σ μ Y htr (xs (i + 1))) rfl rfl (Nat.le_of_ble_eq_true rfl) ⟨(Nat.le_of_ble_eq_true rfl), (Nat.le_of_ble_eq_true rfl)⟩ ⟨Nat.le_trans (Nat.add_le_add_left (Nat.le_of_ble_eq_true rfl) cells) hc, Nat.le_trans (Nat.add_le_add_left (Nat.le_of_ble_eq_true rfl) slots) hs⟩ dL_law_1911 (fun u hu => ?_)
  refine v_wid (k := cells + 100) (n := slots + 1200) (Nat.add_le_add_left (Nat.le_of_ble_eq_true rfl) cells) (Nat.add_le_add_left (Nat.le_of_ble_eq_true rfl) slots) ?_
  rw [eoif]
  generalize hw : (if (X_X9_total σ (xs (i + 1))) = 0 then ((F_X9_total σ (xs (i + 1)))).toInt64 else E.2.2.2.2.1) = w
  generalize hk : hcd [1] (X_X9_total σ (xs (i + 1))) = k1 at S1
  refine v_istore (lv' := [(6, .int k1), (0, .ref b), (1, .ref (E.1 0)), (2, .ref (E.1 24)), (3, .ref (E.1 33)), (4, .ref (E.1 34)), (5, .int (nI i))]) C (Nat.le_of_ble_eq_true rfl) rfl dL_law_1914 ?_
  refine v_aload_n C 3 rfl dL_law_1916 ?_
  refine v_aload_n C 1 rfl dL_law_1917 ?_
  refine v_iload C 6 rfl dL_law_1918 ?_
  refine v_iconst (v := (1 : Int32)) C (by decide) dL_law_1920 ?_
  refine v_iadd C dL_law_1921 ?_
  refine v_sld C hX hbl hbA (show nI i + (1 : Int32) = nI (i + 1) from nI_add i 1) (by omega) hL dL_law_1922 ?_
  refine v_cV1 (rest := []) C mv_RL_265 (m_X10_total l G (EO E w) σ μ Y (xs (i + 1))) 24 g_24 rfl rfl rfl rfl (Nat.le_of_ble_eq_true rfl) ⟨(Nat.le_of_ble_eq_true rfl), (Nat.le_of_ble_eq_true rfl)⟩ ⟨rfl, rfl⟩ ⟨hc, hs⟩ dL_law_1923 ?_
  refine v_istore (lv' := [(7, .int ((F_X10_total μ (xs (i + 1))).1)), (6, .int k1), (0, .ref b), (1, .ref (E.1 0)), (2, .ref (E.1 24)), (3, .ref (E.1 33)), (4, .ref (E.1 34)), (5, .int (nI i))]) C (Nat.le_of_ble_eq_true rfl) rfl dL_law_1926 ?_
  refine v_aload_n C 4 rfl dL_law_1928 ?_
  refine v_cV1 (rest := []) C mv_RL_145 (m_X10_thrown l G (EO E w) σ (F_X10_total μ (xs (i + 1))).2 Y) 24 g_24 rfl rfl rfl rfl (Nat.le_of_ble_eq_true rfl) ⟨(Nat.le_of_ble_eq_true rfl), (Nat.le_of_ble_eq_true rfl)⟩ ⟨rfl, rfl⟩ ⟨hc, hs⟩ dL_law_1929 ?_
  refine v_iload C 1 rfl dL_law_1932 ?_
  refine v_icmp_eq (tgt := 1939) C (by decide) dL_law_1934 (fun ht => ?_) (fun ht => absurd (show F_X10_thrown (F_X10_total μ (xs (i + 1))).2 = k1 from S1.symm) ht)
  refine v_iload C 1 rfl dL_law_1939 ?_
  refine v_if_ne (tgt := 1956) C (by decide) dL_law_1941 (fun _ => ?_) (fun hz0 => ?_)
  · refine v_goto (tgt := 2210) C (by decide) dL_law_1956 ?_
    refine v_lv [2, 3, 4, 5, 6, 7] rfl ?_
    exact kk (EO E w) σ (F_X10_total μ (xs (i + 1))).2 Y rfl (h.step S3 (A_total h.2.1 (xs (i + 1))) (FX_total μ (xs (i + 1))) rfl rfl)
  · have hX0 := hcd_0 (by decide) (hk.trans hz0)
    rw [if_pos hX0] at hw
    have hv := S2 hX0
    refine v_aload_n C 5 rfl dL_law_1944 ?_
    refine v_iconst (v := (0 : Int32)) C (by decide) dL_law_1945 ?_
    refine v_lald (v := w) C 33 g_33 vi_0_1 rfl dL_law_1946 ?_
    refine v_iload C 0 rfl dL_law_1947 ?_
    refine v_i2l C dL_law_1949 ?_
    refine v_lcmp C dL_law_1950 ?_
    refine v_if_eq (tgt := 1956) C (by decide) dL_law_1951 (fun _ => ?_) (fun hq => absurd (by rw [← hw, hv]; exact lg_self _) hq)
    refine v_goto (tgt := 2210) C (by decide) dL_law_1956 ?_
    refine v_lv [2, 3, 4, 5, 6, 7] rfl ?_
    exact kk (EO E w) σ (F_X10_total μ (xs (i + 1))).2 Y rfl (h.step S3 (A_total h.2.1 (xs (i + 1))) (FX_total μ (xs (i + 1))) rfl rfl)
set_option maxRecDepth 100000 in
set_option maxHeartbeats 2000000 in
theorem st_36 {p : Program} {l : Launch} {e : Env} {s : State} {m : MethodId} {args : Array Value} {below : List Frame} {meth : Method} {c : Code} {G : GG} {A : Nat → Prop} {b L : Nat} {xs : Nat → Int32} {Q : State → Prop} (D : LC p l s m args meth c G A b L xs) {i : Nat} (hi : i + 4 ≤ L) {cells slots : Nat} (hc : cells + 100 ≤ room_1.cells) (hs : slots + 1200 ≤ room_1.slots) {E : EE} {σ μ : Sg} {Y : va_W} (h : LI G E σ μ Y) (kk : ∀ (E' : EE) (σ' μ' : Sg) (Y' : va_W), E'.1 = E.1 → LI G E' σ' μ' Y' → V p l e room_1 s m args below meth c 9 G A (cells + 100) (slots + 1200) Q 2210 [(0, .ref b), (1, .ref (E.1 0)), (2, .ref (E.1 24)), (3, .ref (E.1 33)), (4, .ref (E.1 34)), (5, .int (nI i))] [] (Wd G E' σ' μ' Y')) : V p l e room_1 s m args below meth c 9 G A cells slots Q 1959 [(0, .ref b), (1, .ref (E.1 0)), (2, .ref (E.1 24)), (3, .ref (E.1 33)), (4, .ref (E.1 34)), (5, .int (nI i))] [] (Wd G E σ μ Y) := by
  obtain ⟨C, htr, hF, hX, hbl, hbA, hL⟩ := D
  refine v_aload_n C 1 rfl dL_law_1959 ?_
  refine v_aload C 4 rfl dL_law_1960 ?_
  obtain ⟨S1, S2, S3, S4, S5⟩ := S_utilization h.1 h.2.1
  refine v_callSH (rest := []) (As := [.ref (E.1 0), .ref (E.1 34)]) C ml_266 (m_L_utilization l G E σ μ Y htr hF) rfl rfl (Nat.le_of_ble_eq_true rfl) ⟨(Nat.le_of_ble_eq_true rfl), (Nat.le_of_ble_eq_true rfl)⟩ ⟨Nat.le_trans (Nat.add_le_add_left (Nat.le_of_ble_eq_true rfl) cells) hc, Nat.le_trans (Nat.add_le_add_left (Nat.le_of_ble_eq_true rfl) slots) hs⟩ dL_law_1962 (fun u hu => ?_)
  refine v_wid (k := cells + 100) (n := slots + 1200) (Nat.add_le_add_left (Nat.le_of_ble_eq_true rfl) cells) (Nat.add_le_add_left (Nat.le_of_ble_eq_true rfl) slots) ?_
  rw [edif]
  generalize hw : (if (X_X9_utilization σ) = 0 then (F_X9_utilization σ) else E.2.2.2.2.2) = w
  generalize hk : hcd [6] (X_X9_utilization σ) = k1 at S1
  refine v_istore (lv' := [(6, .int k1), (0, .ref b), (1, .ref (E.1 0)), (2, .ref (E.1 24)), (3, .ref (E.1 33)), (4, .ref (E.1 34)), (5, .int (nI i))]) C (Nat.le_of_ble_eq_true rfl) rfl dL_law_1965 ?_
  refine v_aload_n C 3 rfl dL_law_1967 ?_
  refine v_cV1 (rest := []) C mv_RL_269 (m_X10_utilization l G (ED E w) σ μ Y hF) 24 g_24 rfl rfl rfl rfl (Nat.le_of_ble_eq_true rfl) ⟨(Nat.le_of_ble_eq_true rfl), (Nat.le_of_ble_eq_true rfl)⟩ ⟨rfl, rfl⟩ ⟨hc, hs⟩ dL_law_1968 ?_
  refine v_dstore (lv' := [(7, .double ((F_X10_utilization μ).1)), (6, .int k1), (0, .ref b), (1, .ref (E.1 0)), (2, .ref (E.1 24)), (3, .ref (E.1 33)), (4, .ref (E.1 34)), (5, .int (nI i))]) C (Nat.le_of_ble_eq_true rfl) rfl dL_law_1971 ?_
  refine v_aload_n C 4 rfl dL_law_1973 ?_
  refine v_cV1 (rest := []) C mv_RL_145 (m_X10_thrown l G (ED E w) σ (F_X10_utilization μ).2 Y) 24 g_24 rfl rfl rfl rfl (Nat.le_of_ble_eq_true rfl) ⟨(Nat.le_of_ble_eq_true rfl), (Nat.le_of_ble_eq_true rfl)⟩ ⟨rfl, rfl⟩ ⟨hc, hs⟩ dL_law_1974 ?_
  refine v_iload C 1 rfl dL_law_1977 ?_
  refine v_icmp_eq (tgt := 1984) C (by decide) dL_law_1979 (fun ht => ?_) (fun ht => absurd (show F_X10_thrown (F_X10_utilization μ).2 = k1 from S1.symm) ht)
  refine v_iload C 1 rfl dL_law_1984 ?_
  refine v_if_ne (tgt := 2021) C (by decide) dL_law_1986 (fun _ => ?_) (fun hz0 => ?_)
  · refine v_goto (tgt := 2210) C (by decide) dL_law_2021 ?_
    refine v_lv [2, 3, 4, 5, 6, 7] rfl ?_
    exact kk (ED E w) σ (F_X10_utilization μ).2 Y rfl (h.step S3 S4 S5 rfl rfl)
  · have hX0 := hcd_0 (by decide) (hk.trans hz0)
    rw [if_pos hX0] at hw
    have hv := S2 hX0
    refine v_aload C 6 rfl dL_law_1989 ?_
    refine v_iconst (v := (0 : Int32)) C (by decide) dL_law_1991 ?_
    refine v_dald (v := w) C 34 g_34 vi_0_1 rfl dL_law_1992 ?_
    refine v_dload C 0 rfl dL_law_1993 ?_
    refine v_dcmp C dL_law_1995 ?_
    refine v_if_eq (tgt := 2021) C (by decide) dL_law_1996 (fun _ => ?_) (fun hq => absurd (by rw [← hw, hv, hF.2.2.2 _ (by rw [← hv]; exact n_utilization hF hX0)]; rfl) hq)
    refine v_goto (tgt := 2210) C (by decide) dL_law_2021 ?_
    refine v_lv [2, 3, 4, 5, 6, 7] rfl ?_
    exact kk (ED E w) σ (F_X10_utilization μ).2 Y rfl (h.step S3 S4 S5 rfl rfl)
set_option maxRecDepth 100000 in
set_option maxHeartbeats 2000000 in
theorem st_37 {p : Program} {l : Launch} {e : Env} {s : State} {m : MethodId} {args : Array Value} {below : List Frame} {meth : Method} {c : Code} {G : GG} {A : Nat → Prop} {b L : Nat} {xs : Nat → Int32} {Q : State → Prop} (D : LC p l s m args meth c G A b L xs) {i : Nat} (hi : i + 4 ≤ L) {cells slots : Nat} (hc : cells + 100 ≤ room_1.cells) (hs : slots + 1200 ≤ room_1.slots) {E : EE} {σ μ : Sg} {Y : va_W} (h : LI G E σ μ Y) (kk : ∀ (E' : EE) (σ' μ' : Sg) (Y' : va_W), E'.1 = E.1 → LI G E' σ' μ' Y' → V p l e room_1 s m args below meth c 9 G A (cells + 100) (slots + 1200) Q 2210 [(0, .ref b), (1, .ref (E.1 0)), (2, .ref (E.1 24)), (3, .ref (E.1 33)), (4, .ref (E.1 34)), (5, .int (nI i))] [] (Wd G E' σ' μ' Y')) : V p l e room_1 s m args below meth c 9 G A cells slots Q 2024 [(0, .ref b), (1, .ref (E.1 0)), (2, .ref (E.1 24)), (3, .ref (E.1 33)), (4, .ref (E.1 34)), (5, .int (nI i))] [] (Wd G E σ μ Y) := by
  obtain ⟨C, htr, hF, hX, hbl, hbA, hL⟩ := D
  refine v_aload_n C 1 rfl dL_law_2024 ?_
  refine v_aload C 4 rfl dL_law_2025 ?_
  obtain ⟨S1, S2, S3, S4, S5⟩ := S_averageResponse h.1 h.2.1
  refine v_callSH (rest := []) (As := [.ref (E.1 0), .ref (E.1 34)]) C ml_270 (m_L_averageResponse l G E σ μ Y htr h.2.2.2.1 hF) rfl rfl (Nat.le_of_ble_eq_true rfl) ⟨(Nat.le_of_ble_eq_true rfl), (Nat.le_of_ble_eq_true rfl)⟩ ⟨Nat.le_trans (Nat.add_le_add_left (Nat.le_of_ble_eq_true rfl) cells) hc, Nat.le_trans (Nat.add_le_add_left (Nat.le_of_ble_eq_true rfl) slots) hs⟩ dL_law_2027 (fun u hu => ?_)
  refine v_wid (k := cells + 100) (n := slots + 1200) (Nat.add_le_add_left (Nat.le_of_ble_eq_true rfl) cells) (Nat.add_le_add_left (Nat.le_of_ble_eq_true rfl) slots) ?_
  rw [edif]
  generalize hw : (if (X_X9_averageResponse σ) = 0 then (F_X9_averageResponse σ) else E.2.2.2.2.2) = w
  generalize hk : hcd [6] (X_X9_averageResponse σ) = k1 at S1
  refine v_istore (lv' := [(6, .int k1), (0, .ref b), (1, .ref (E.1 0)), (2, .ref (E.1 24)), (3, .ref (E.1 33)), (4, .ref (E.1 34)), (5, .int (nI i))]) C (Nat.le_of_ble_eq_true rfl) rfl dL_law_2030 ?_
  refine v_aload_n C 3 rfl dL_law_2032 ?_
  refine v_cV1 (rest := []) C mv_RL_272 (m_X10_averageResponse l G (ED E w) σ μ Y h.mok hF) 24 g_24 rfl rfl rfl rfl (Nat.le_of_ble_eq_true rfl) ⟨(Nat.le_of_ble_eq_true rfl), (Nat.le_of_ble_eq_true rfl)⟩ ⟨rfl, rfl⟩ ⟨hc, hs⟩ dL_law_2033 ?_
  refine v_dstore (lv' := [(7, .double ((F_X10_averageResponse μ).1)), (6, .int k1), (0, .ref b), (1, .ref (E.1 0)), (2, .ref (E.1 24)), (3, .ref (E.1 33)), (4, .ref (E.1 34)), (5, .int (nI i))]) C (Nat.le_of_ble_eq_true rfl) rfl dL_law_2036 ?_
  refine v_aload_n C 4 rfl dL_law_2038 ?_
  refine v_cV1 (rest := []) C mv_RL_145 (m_X10_thrown l G (ED E w) σ (F_X10_averageResponse μ).2 Y) 24 g_24 rfl rfl rfl rfl (Nat.le_of_ble_eq_true rfl) ⟨(Nat.le_of_ble_eq_true rfl), (Nat.le_of_ble_eq_true rfl)⟩ ⟨rfl, rfl⟩ ⟨hc, hs⟩ dL_law_2039 ?_
  refine v_iload C 1 rfl dL_law_2042 ?_
  refine v_icmp_eq (tgt := 2049) C (by decide) dL_law_2044 (fun ht => ?_) (fun ht => absurd (show F_X10_thrown (F_X10_averageResponse μ).2 = k1 from S1.symm) ht)
  refine v_iload C 1 rfl dL_law_2049 ?_
  refine v_if_ne (tgt := 2086) C (by decide) dL_law_2051 (fun _ => ?_) (fun hz0 => ?_)
  · refine v_goto (tgt := 2210) C (by decide) dL_law_2086 ?_
    refine v_lv [2, 3, 4, 5, 6, 7] rfl ?_
    exact kk (ED E w) σ (F_X10_averageResponse μ).2 Y rfl (h.step S3 S4 S5 rfl rfl)
  · have hX0 := hcd_0 (by decide) (hk.trans hz0)
    rw [if_pos hX0] at hw
    have hv := S2 hX0
    refine v_aload C 6 rfl dL_law_2054 ?_
    refine v_iconst (v := (0 : Int32)) C (by decide) dL_law_2056 ?_
    refine v_dald (v := w) C 34 g_34 vi_0_1 rfl dL_law_2057 ?_
    refine v_dload C 0 rfl dL_law_2058 ?_
    refine v_dcmp C dL_law_2060 ?_
    refine v_if_eq (tgt := 2086) C (by decide) dL_law_2061 (fun _ => ?_) (fun hq => absurd (by rw [← hw, hv, hF.2.2.2 _ (by rw [← hv]; exact n_averageResponse hF hX0)]; rfl) hq)
    refine v_goto (tgt := 2210) C (by decide) dL_law_2086 ?_
    refine v_lv [2, 3, 4, 5, 6, 7] rfl ?_
    exact kk (ED E w) σ (F_X10_averageResponse μ).2 Y rfl (h.step S3 S4 S5 rfl rfl)
set_option maxRecDepth 100000 in
set_option maxHeartbeats 2000000 in
theorem st_38 {p : Program} {l : Launch} {e : Env} {s : State} {m : MethodId} {args : Array Value} {below : List Frame} {meth : Method} {c : Code} {G : GG} {A : Nat → Prop} {b L : Nat} {xs : Nat → Int32} {Q : State → Prop} (D : LC p l s m args meth c G A b L xs) {i : Nat} (hi : i + 4 ≤ L) {cells slots : Nat} (hc : cells + 100 ≤ room_1.cells) (hs : slots + 1200 ≤ room_1.slots) {E : EE} {σ μ : Sg} {Y : va_W} (h : LI G E σ μ Y) (kk : ∀ (E' : EE) (σ' μ' : Sg) (Y' : va_W), E'.1 = E.1 → LI G E' σ' μ' Y' → V p l e room_1 s m args below meth c 9 G A (cells + 100) (slots + 1200) Q 2210 [(0, .ref b), (1, .ref (E.1 0)), (2, .ref (E.1 24)), (3, .ref (E.1 33)), (4, .ref (E.1 34)), (5, .int (nI i))] [] (Wd G E' σ' μ' Y')) : V p l e room_1 s m args below meth c 9 G A cells slots Q 2089 [(0, .ref b), (1, .ref (E.1 0)), (2, .ref (E.1 24)), (3, .ref (E.1 33)), (4, .ref (E.1 34)), (5, .int (nI i))] [] (Wd G E σ μ Y) := by
  obtain ⟨C, htr, hF, hX, hbl, hbA, hL⟩ := D
  refine v_aload_n C 1 rfl dL_law_2089 ?_
  refine v_aload C 4 rfl dL_law_2090 ?_
  obtain ⟨S1, S2, S3, S4, S5⟩ := S_lateShare h.1 h.2.1
  refine v_callSH (rest := []) (As := [.ref (E.1 0), .ref (E.1 34)]) C ml_273 (m_L_lateShare l G E σ μ Y htr h.2.2.2.1 hF) rfl rfl (Nat.le_of_ble_eq_true rfl) ⟨(Nat.le_of_ble_eq_true rfl), (Nat.le_of_ble_eq_true rfl)⟩ ⟨Nat.le_trans (Nat.add_le_add_left (Nat.le_of_ble_eq_true rfl) cells) hc, Nat.le_trans (Nat.add_le_add_left (Nat.le_of_ble_eq_true rfl) slots) hs⟩ dL_law_2092 (fun u hu => ?_)
  refine v_wid (k := cells + 100) (n := slots + 1200) (Nat.add_le_add_left (Nat.le_of_ble_eq_true rfl) cells) (Nat.add_le_add_left (Nat.le_of_ble_eq_true rfl) slots) ?_
  rw [edif]
  generalize hw : (if (X_X9_lateShare σ) = 0 then (FP.f2d (F_X9_lateShare σ)) else E.2.2.2.2.2) = w
  generalize hk : hcd [6] (X_X9_lateShare σ) = k1 at S1
  refine v_istore (lv' := [(6, .int k1), (0, .ref b), (1, .ref (E.1 0)), (2, .ref (E.1 24)), (3, .ref (E.1 33)), (4, .ref (E.1 34)), (5, .int (nI i))]) C (Nat.le_of_ble_eq_true rfl) rfl dL_law_2095 ?_
  refine v_aload_n C 3 rfl dL_law_2097 ?_
  refine v_cV1 (rest := []) C mv_RL_275 (m_X10_lateShare l G (ED E w) σ μ Y h.mok hF) 24 g_24 rfl rfl rfl rfl (Nat.le_of_ble_eq_true rfl) ⟨(Nat.le_of_ble_eq_true rfl), (Nat.le_of_ble_eq_true rfl)⟩ ⟨rfl, rfl⟩ ⟨hc, hs⟩ dL_law_2098 ?_
  refine v_fstore (lv' := [(7, .float ((F_X10_lateShare μ).1)), (6, .int k1), (0, .ref b), (1, .ref (E.1 0)), (2, .ref (E.1 24)), (3, .ref (E.1 33)), (4, .ref (E.1 34)), (5, .int (nI i))]) C (Nat.le_of_ble_eq_true rfl) rfl dL_law_2101 ?_
  refine v_aload_n C 4 rfl dL_law_2103 ?_
  refine v_cV1 (rest := []) C mv_RL_145 (m_X10_thrown l G (ED E w) σ (F_X10_lateShare μ).2 Y) 24 g_24 rfl rfl rfl rfl (Nat.le_of_ble_eq_true rfl) ⟨(Nat.le_of_ble_eq_true rfl), (Nat.le_of_ble_eq_true rfl)⟩ ⟨rfl, rfl⟩ ⟨hc, hs⟩ dL_law_2104 ?_
  refine v_iload C 1 rfl dL_law_2107 ?_
  refine v_icmp_eq (tgt := 2114) C (by decide) dL_law_2109 (fun ht => ?_) (fun ht => absurd (show F_X10_thrown (F_X10_lateShare μ).2 = k1 from S1.symm) ht)
  refine v_iload C 1 rfl dL_law_2114 ?_
  refine v_if_ne (tgt := 2152) C (by decide) dL_law_2116 (fun _ => ?_) (fun hz0 => ?_)
  · refine v_goto (tgt := 2210) C (by decide) dL_law_2152 ?_
    refine v_lv [2, 3, 4, 5, 6, 7] rfl ?_
    exact kk (ED E w) σ (F_X10_lateShare μ).2 Y rfl (h.step S3 S4 S5 rfl rfl)
  · have hX0 := hcd_0 (by decide) (hk.trans hz0)
    rw [if_pos hX0] at hw
    have hv := S2 hX0
    refine v_aload C 6 rfl dL_law_2119 ?_
    refine v_iconst (v := (0 : Int32)) C (by decide) dL_law_2121 ?_
    refine v_dald (v := w) C 34 g_34 vi_0_1 rfl dL_law_2122 ?_
    refine v_fload C 0 rfl dL_law_2123 ?_
    refine v_f2d C (hF.2.2.1 _ (by rw [← hv]; exact n_lateShare hF hX0)) dL_law_2125 ?_
    refine v_dcmp C dL_law_2126 ?_
    refine v_if_eq (tgt := 2152) C (by decide) dL_law_2127 (fun _ => ?_) (fun hq => absurd (by rw [← hw, hv, hF.2.2.2 _ (hF.2.2.1 _ (by rw [← hv]; exact n_lateShare hF hX0))]; rfl) hq)
    refine v_goto (tgt := 2210) C (by decide) dL_law_2152 ?_
    refine v_lv [2, 3, 4, 5, 6, 7] rfl ?_
    exact kk (ED E w) σ (F_X10_lateShare μ).2 Y rfl (h.step S3 S4 S5 rfl rfl)
