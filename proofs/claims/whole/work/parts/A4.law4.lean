set_option maxRecDepth 100000 in
set_option maxHeartbeats 2000000 in
theorem st_14 {p : Program} {l : Launch} {e : Env} {s : State} {m : MethodId} {args : Array Value} {below : List Frame} {meth : Method} {c : Code} {G : GG} {A : Nat → Prop} {b L : Nat} {xs : Nat → Int32} {Q : State → Prop} (D : LC p l s m args meth c G A b L xs) {i : Nat} (hi : i + 4 ≤ L) {cells slots : Nat} (hc : cells + 100 ≤ room_1.cells) (hs : slots + 1200 ≤ room_1.slots) {E : EE} {σ μ : Sg} {Y : va_W} (h : LI G E σ μ Y) (kk : ∀ (E' : EE) (σ' μ' : Sg) (Y' : va_W), E'.1 = E.1 → LI G E' σ' μ' Y' → V p l e room_1 s m args below meth c 9 G A (cells + 100) (slots + 1200) Q 2210 [(0, .ref b), (1, .ref (E.1 0)), (2, .ref (E.1 24)), (3, .ref (E.1 33)), (4, .ref (E.1 34)), (5, .int (nI i))] [] (Wd G E' σ' μ' Y')) : V p l e room_1 s m args below meth c 9 G A cells slots Q 996 [(0, .ref b), (1, .ref (E.1 0)), (2, .ref (E.1 24)), (3, .ref (E.1 33)), (4, .ref (E.1 34)), (5, .int (nI i))] [] (Wd G E σ μ Y) := by
  obtain ⟨C, htr, hF, hX, hbl, hbA, hL⟩ := D
  refine v_aload_n C 1 rfl dL_law_996 ?_
  refine v_wid (k := cells + 100) (n := slots + 1200) (Nat.le_add_right _ _) (Nat.le_add_right _ _) ?_
  obtain ⟨S1, S3⟩ := S_arm h.1
  refine v_cV1 (rest := []) C mv_RL_192 (m_X9_arm l G E σ μ Y) 0 g_0 rfl rfl rfl rfl (Nat.le_of_ble_eq_true rfl) ⟨(Nat.le_of_ble_eq_true rfl), (Nat.le_of_ble_eq_true rfl)⟩ ⟨rfl, rfl⟩ ⟨hc, hs⟩ dL_law_997 ?_
  refine v_aload_n C 2 rfl dL_law_1000 ?_
  refine v_cV1 (rest := [.int (F_X9_arm σ)]) C mv_RL_195 (m_X10_arm l G E σ μ Y) 24 g_24 rfl rfl rfl rfl (Nat.le_of_ble_eq_true rfl) ⟨(Nat.le_of_ble_eq_true rfl), (Nat.le_of_ble_eq_true rfl)⟩ ⟨rfl, rfl⟩ ⟨hc, hs⟩ dL_law_1001 ?_
  refine v_icmp_eq (tgt := 2210) C (by decide) dL_law_1004 (fun ht => ?_) (fun ht => absurd S1 ht)
  refine v_lv [0, 1, 2, 3, 4, 5] rfl ?_
  exact kk E σ (F_X10_arm μ).2 Y rfl (h.step S3 (by exact h.2.1) ⟨rfl, rfl, rfl, rfl⟩ rfl rfl)
set_option maxRecDepth 100000 in
set_option maxHeartbeats 2000000 in
theorem st_15 {p : Program} {l : Launch} {e : Env} {s : State} {m : MethodId} {args : Array Value} {below : List Frame} {meth : Method} {c : Code} {G : GG} {A : Nat → Prop} {b L : Nat} {xs : Nat → Int32} {Q : State → Prop} (D : LC p l s m args meth c G A b L xs) {i : Nat} (hi : i + 4 ≤ L) {cells slots : Nat} (hc : cells + 100 ≤ room_1.cells) (hs : slots + 1200 ≤ room_1.slots) {E : EE} {σ μ : Sg} {Y : va_W} (h : LI G E σ μ Y) (kk : ∀ (E' : EE) (σ' μ' : Sg) (Y' : va_W), E'.1 = E.1 → LI G E' σ' μ' Y' → V p l e room_1 s m args below meth c 9 G A (cells + 100) (slots + 1200) Q 2210 [(0, .ref b), (1, .ref (E.1 0)), (2, .ref (E.1 24)), (3, .ref (E.1 33)), (4, .ref (E.1 34)), (5, .int (nI i))] [] (Wd G E' σ' μ' Y')) : V p l e room_1 s m args below meth c 9 G A cells slots Q 1009 [(0, .ref b), (1, .ref (E.1 0)), (2, .ref (E.1 24)), (3, .ref (E.1 33)), (4, .ref (E.1 34)), (5, .int (nI i))] [] (Wd G E σ μ Y) := by
  obtain ⟨C, htr, hF, hX, hbl, hbA, hL⟩ := D
  refine v_aload_n C 1 rfl dL_law_1009 ?_
  refine v_wid (k := cells + 100) (n := slots + 1200) (Nat.le_add_right _ _) (Nat.le_add_right _ _) ?_
  obtain ⟨S1, S3⟩ := S_isUpward h.1
  refine v_cV1 (rest := []) C mv_RL_196 (m_X9_isUpward l G E σ μ Y h.b7) 0 g_0 rfl rfl rfl rfl (Nat.le_of_ble_eq_true rfl) ⟨(Nat.le_of_ble_eq_true rfl), (Nat.le_of_ble_eq_true rfl)⟩ ⟨rfl, rfl⟩ ⟨hc, hs⟩ dL_law_1010 ?_
  refine v_aload_n C 2 rfl dL_law_1013 ?_
  refine v_cV1 (rest := [.int (F_X9_isUpward σ)]) C mv_RL_199 (m_X10_isUpward l G E σ μ Y) 24 g_24 rfl rfl rfl rfl (Nat.le_of_ble_eq_true rfl) ⟨(Nat.le_of_ble_eq_true rfl), (Nat.le_of_ble_eq_true rfl)⟩ ⟨rfl, rfl⟩ ⟨hc, hs⟩ dL_law_1014 ?_
  refine v_icmp_eq (tgt := 2210) C (by decide) dL_law_1017 (fun ht => ?_) (fun ht => absurd S1 ht)
  refine v_lv [0, 1, 2, 3, 4, 5] rfl ?_
  exact kk E σ (F_X10_isUpward μ).2 Y rfl (h.step S3 (by rw [up_2]; exact h.2.1) (by rw [up_2]; exact ⟨rfl, rfl, rfl, rfl⟩) rfl rfl)
set_option maxRecDepth 100000 in
set_option maxHeartbeats 2000000 in
theorem st_16 {p : Program} {l : Launch} {e : Env} {s : State} {m : MethodId} {args : Array Value} {below : List Frame} {meth : Method} {c : Code} {G : GG} {A : Nat → Prop} {b L : Nat} {xs : Nat → Int32} {Q : State → Prop} (D : LC p l s m args meth c G A b L xs) {i : Nat} (hi : i + 4 ≤ L) {cells slots : Nat} (hc : cells + 100 ≤ room_1.cells) (hs : slots + 1200 ≤ room_1.slots) {E : EE} {σ μ : Sg} {Y : va_W} (h : LI G E σ μ Y) (kk : ∀ (E' : EE) (σ' μ' : Sg) (Y' : va_W), E'.1 = E.1 → LI G E' σ' μ' Y' → V p l e room_1 s m args below meth c 9 G A (cells + 100) (slots + 1200) Q 2210 [(0, .ref b), (1, .ref (E.1 0)), (2, .ref (E.1 24)), (3, .ref (E.1 33)), (4, .ref (E.1 34)), (5, .int (nI i))] [] (Wd G E' σ' μ' Y')) : V p l e room_1 s m args below meth c 9 G A cells slots Q 1022 [(0, .ref b), (1, .ref (E.1 0)), (2, .ref (E.1 24)), (3, .ref (E.1 33)), (4, .ref (E.1 34)), (5, .int (nI i))] [] (Wd G E σ μ Y) := by
  obtain ⟨C, htr, hF, hX, hbl, hbA, hL⟩ := D
  refine v_aload_n C 1 rfl dL_law_1022 ?_
  refine v_aload_n C 0 rfl dL_law_1023 ?_
  refine v_iload C 5 rfl dL_law_1024 ?_
  refine v_iconst (v := (1 : Int32)) C (by decide) dL_law_1026 ?_
  refine v_iadd C dL_law_1027 ?_
  refine v_sld C hX hbl hbA (show nI i + (1 : Int32) = nI (i + 1) from nI_add i 1) (by omega) hL dL_law_1028 ?_
  refine v_aload_n C 3 rfl dL_law_1029 ?_
  obtain ⟨S1, S2, S3⟩ := S_idle (tk := (xs (i + 1))) h.1
  refine v_callSH (rest := []) (As := [.ref (E.1 0), .int (xs (i + 1)), .ref (E.1 33)]) C ml_200 (m_L_idle l G E σ μ Y htr (xs (i + 1))) rfl rfl (Nat.le_of_ble_eq_true rfl) ⟨(Nat.le_of_ble_eq_true rfl), (Nat.le_of_ble_eq_true rfl)⟩ ⟨Nat.le_trans (Nat.add_le_add_left (Nat.le_of_ble_eq_true rfl) cells) hc, Nat.le_trans (Nat.add_le_add_left (Nat.le_of_ble_eq_true rfl) slots) hs⟩ dL_law_1030 (fun u hu => ?_)
  refine v_wid (k := cells + 100) (n := slots + 1200) (Nat.add_le_add_left (Nat.le_of_ble_eq_true rfl) cells) (Nat.add_le_add_left (Nat.le_of_ble_eq_true rfl) slots) ?_
  rw [eoif]
  generalize hw : (if (X_X9_idle σ (xs (i + 1))) = 0 then ((F_X9_idle σ (xs (i + 1))).1).toInt64 else E.2.2.2.2.1) = w
  generalize hk : hcd [1, 2] (X_X9_idle σ (xs (i + 1))) = k1 at S1
  refine v_istore (lv' := [(6, .int k1), (0, .ref b), (1, .ref (E.1 0)), (2, .ref (E.1 24)), (3, .ref (E.1 33)), (4, .ref (E.1 34)), (5, .int (nI i))]) C (Nat.le_of_ble_eq_true rfl) rfl dL_law_1033 ?_
  refine v_aload_n C 3 rfl dL_law_1035 ?_
  refine v_aload_n C 1 rfl dL_law_1036 ?_
  refine v_iload C 6 rfl dL_law_1037 ?_
  refine v_iconst (v := (1 : Int32)) C (by decide) dL_law_1039 ?_
  refine v_iadd C dL_law_1040 ?_
  refine v_sld C hX hbl hbA (show nI i + (1 : Int32) = nI (i + 1) from nI_add i 1) (by omega) hL dL_law_1041 ?_
  refine v_cV1 (rest := []) C mv_RL_202 (m_X10_idle l G (EO E w) (F_X9_idle σ (xs (i + 1))).2 μ Y (xs (i + 1))) 24 g_24 rfl rfl rfl rfl (Nat.le_of_ble_eq_true rfl) ⟨(Nat.le_of_ble_eq_true rfl), (Nat.le_of_ble_eq_true rfl)⟩ ⟨rfl, rfl⟩ ⟨hc, hs⟩ dL_law_1042 ?_
  refine v_istore (lv' := [(7, .int ((F_X10_idle μ (xs (i + 1))).1)), (6, .int k1), (0, .ref b), (1, .ref (E.1 0)), (2, .ref (E.1 24)), (3, .ref (E.1 33)), (4, .ref (E.1 34)), (5, .int (nI i))]) C (Nat.le_of_ble_eq_true rfl) rfl dL_law_1045 ?_
  refine v_aload_n C 4 rfl dL_law_1047 ?_
  refine v_cV1 (rest := []) C mv_RL_145 (m_X10_thrown l G (EO E w) (F_X9_idle σ (xs (i + 1))).2 (F_X10_idle μ (xs (i + 1))).2 Y) 24 g_24 rfl rfl rfl rfl (Nat.le_of_ble_eq_true rfl) ⟨(Nat.le_of_ble_eq_true rfl), (Nat.le_of_ble_eq_true rfl)⟩ ⟨rfl, rfl⟩ ⟨hc, hs⟩ dL_law_1048 ?_
  refine v_iload C 1 rfl dL_law_1051 ?_
  refine v_icmp_eq (tgt := 1058) C (by decide) dL_law_1053 (fun ht => ?_) (fun ht => absurd (show F_X10_thrown (F_X10_idle μ (xs (i + 1))).2 = k1 from S1.symm) ht)
  refine v_iload C 1 rfl dL_law_1058 ?_
  refine v_if_ne (tgt := 1075) C (by decide) dL_law_1060 (fun _ => ?_) (fun hz0 => ?_)
  · refine v_goto (tgt := 2210) C (by decide) dL_law_1075 ?_
    refine v_lv [2, 3, 4, 5, 6, 7] rfl ?_
    exact kk (EO E w) (F_X9_idle σ (xs (i + 1))).2 (F_X10_idle μ (xs (i + 1))).2 Y rfl (h.step S3 (A_idle h.1 h.2.1 (xs (i + 1))) (FX_idle μ (xs (i + 1))) rfl rfl)
  · have hX0 := hcd_0 (by decide) (hk.trans hz0)
    rw [if_pos hX0] at hw
    have hv := S2 hX0
    refine v_aload_n C 5 rfl dL_law_1063 ?_
    refine v_iconst (v := (0 : Int32)) C (by decide) dL_law_1064 ?_
    refine v_lald (v := w) C 33 g_33 vi_0_1 rfl dL_law_1065 ?_
    refine v_iload C 0 rfl dL_law_1066 ?_
    refine v_i2l C dL_law_1068 ?_
    refine v_lcmp C dL_law_1069 ?_
    refine v_if_eq (tgt := 1075) C (by decide) dL_law_1070 (fun _ => ?_) (fun hq => absurd (by rw [← hw, hv]; exact lg_self _) hq)
    refine v_goto (tgt := 2210) C (by decide) dL_law_1075 ?_
    refine v_lv [2, 3, 4, 5, 6, 7] rfl ?_
    exact kk (EO E w) (F_X9_idle σ (xs (i + 1))).2 (F_X10_idle μ (xs (i + 1))).2 Y rfl (h.step S3 (A_idle h.1 h.2.1 (xs (i + 1))) (FX_idle μ (xs (i + 1))) rfl rfl)
set_option maxRecDepth 100000 in
set_option maxHeartbeats 2000000 in
theorem st_17 {p : Program} {l : Launch} {e : Env} {s : State} {m : MethodId} {args : Array Value} {below : List Frame} {meth : Method} {c : Code} {G : GG} {A : Nat → Prop} {b L : Nat} {xs : Nat → Int32} {Q : State → Prop} (D : LC p l s m args meth c G A b L xs) {i : Nat} (hi : i + 4 ≤ L) {cells slots : Nat} (hc : cells + 100 ≤ room_1.cells) (hs : slots + 1200 ≤ room_1.slots) {E : EE} {σ μ : Sg} {Y : va_W} (h : LI G E σ μ Y) (kk : ∀ (E' : EE) (σ' μ' : Sg) (Y' : va_W), E'.1 = E.1 → LI G E' σ' μ' Y' → V p l e room_1 s m args below meth c 9 G A (cells + 100) (slots + 1200) Q 2210 [(0, .ref b), (1, .ref (E.1 0)), (2, .ref (E.1 24)), (3, .ref (E.1 33)), (4, .ref (E.1 34)), (5, .int (nI i))] [] (Wd G E' σ' μ' Y')) : V p l e room_1 s m args below meth c 9 G A cells slots Q 1078 [(0, .ref b), (1, .ref (E.1 0)), (2, .ref (E.1 24)), (3, .ref (E.1 33)), (4, .ref (E.1 34)), (5, .int (nI i))] [] (Wd G E σ μ Y) := by
  obtain ⟨C, htr, hF, hX, hbl, hbA, hL⟩ := D
  refine v_aload_n C 1 rfl dL_law_1078 ?_
  refine v_aload_n C 0 rfl dL_law_1079 ?_
  refine v_iload C 5 rfl dL_law_1080 ?_
  refine v_iconst (v := (1 : Int32)) C (by decide) dL_law_1082 ?_
  refine v_iadd C dL_law_1083 ?_
  refine v_sld C hX hbl hbA (show nI i + (1 : Int32) = nI (i + 1) from nI_add i 1) (by omega) hL dL_law_1084 ?_
  refine v_aload_n C 0 rfl dL_law_1085 ?_
  refine v_iload C 5 rfl dL_law_1086 ?_
  refine v_iconst (v := (2 : Int32)) C (by decide) dL_law_1088 ?_
  refine v_iadd C dL_law_1089 ?_
  refine v_sld C hX hbl hbA (show nI i + (2 : Int32) = nI (i + 2) from nI_add i 2) (by omega) hL dL_law_1090 ?_
  refine v_aload_n C 0 rfl dL_law_1091 ?_
  refine v_iload C 5 rfl dL_law_1092 ?_
  refine v_iconst (v := (3 : Int32)) C (by decide) dL_law_1094 ?_
  refine v_iadd C dL_law_1095 ?_
  refine v_sld C hX hbl hbA (show nI i + (3 : Int32) = nI (i + 3) from nI_add i 3) (by omega) hL dL_law_1096 ?_
  refine v_aload_n C 3 rfl dL_law_1097 ?_
  obtain ⟨cn, h80, hjK, hcn⟩ := h.2.2.2.1
  obtain ⟨S1, S2, S3, S4⟩ := S_submit (ki := (xs (i + 1))) (bk := (xs (i + 2))) (al := (xs (i + 3))) h.1 h.2.1 h80 (h.1.1.2.2.2.1.1.symm.trans hcn)
  refine v_callSH (rest := []) (As := [.ref (E.1 0), .int (xs (i + 1)), .int (xs (i + 2)), .int (xs (i + 3)), .ref (E.1 33)]) C ml_203 (m_L_submit l G E σ μ Y htr cn (xs (i + 1)) (xs (i + 2)) (xs (i + 3)) hcn h80 hjK) rfl rfl (Nat.le_of_ble_eq_true rfl) ⟨(Nat.le_of_ble_eq_true rfl), (Nat.le_of_ble_eq_true rfl)⟩ ⟨Nat.le_trans (Nat.add_le_add_left (Nat.le_of_ble_eq_true rfl) cells) hc, Nat.le_trans (Nat.add_le_add_left (Nat.le_of_ble_eq_true rfl) slots) hs⟩ dL_law_1098 (fun u hu => ?_)
  refine v_wid (k := cells + 100) (n := slots + 1200) (Nat.add_le_add_left (Nat.le_of_ble_eq_true rfl) cells) (Nat.add_le_add_left (Nat.le_of_ble_eq_true rfl) slots) ?_
  generalize hw : (if (X_X9_submit σ cn (xs (i + 1)) (xs (i + 2)) (xs (i + 3))) = 0 then ((F_X9_submit σ cn (xs (i + 1)) (xs (i + 2)) (xs (i + 3))).1).toInt64 else E.2.2.2.2.1) = w
  generalize hk : hcd [1, 3, 2] (X_X9_submit σ cn (xs (i + 1)) (xs (i + 2)) (xs (i + 3))) = k1 at S1
  refine v_istore (lv' := [(6, .int k1), (0, .ref b), (1, .ref (E.1 0)), (2, .ref (E.1 24)), (3, .ref (E.1 33)), (4, .ref (E.1 34)), (5, .int (nI i))]) C (Nat.le_of_ble_eq_true rfl) rfl dL_law_1101 ?_
  refine v_aload_n C 3 rfl dL_law_1103 ?_
  refine v_aload_n C 1 rfl dL_law_1104 ?_
  refine v_iload C 6 rfl dL_law_1105 ?_
  refine v_iconst (v := (1 : Int32)) C (by decide) dL_law_1107 ?_
  refine v_iadd C dL_law_1108 ?_
  refine v_sld C hX hbl hbA (show nI i + (1 : Int32) = nI (i + 1) from nI_add i 1) (by omega) hL dL_law_1109 ?_
  refine v_aload_n C 1 rfl dL_law_1110 ?_
  refine v_iload C 6 rfl dL_law_1111 ?_
  refine v_iconst (v := (2 : Int32)) C (by decide) dL_law_1113 ?_
  refine v_iadd C dL_law_1114 ?_
  refine v_sld C hX hbl hbA (show nI i + (2 : Int32) = nI (i + 2) from nI_add i 2) (by omega) hL dL_law_1115 ?_
  refine v_aload_n C 1 rfl dL_law_1116 ?_
  refine v_iload C 6 rfl dL_law_1117 ?_
  refine v_iconst (v := (3 : Int32)) C (by decide) dL_law_1119 ?_
  refine v_iadd C dL_law_1120 ?_
  refine v_sld C hX hbl hbA (show nI i + (3 : Int32) = nI (i + 3) from nI_add i 3) (by omega) hL dL_law_1121 ?_
  refine v_cV1 (rest := []) C mv_RL_206 (m_X10_submit l G (EO (EK E u.1 u.2) w) (F_X9_submit σ cn (xs (i + 1)) (xs (i + 2)) (xs (i + 3))).2 μ Y (xs (i + 1)) (xs (i + 2)) (xs (i + 3)) h.mok) 24 g_24 rfl rfl rfl rfl (Nat.le_of_ble_eq_true rfl) ⟨(Nat.le_of_ble_eq_true rfl), (Nat.le_of_ble_eq_true rfl)⟩ ⟨rfl, rfl⟩ ⟨hc, hs⟩ dL_law_1122 ?_
  refine v_istore (lv' := [(7, .int ((F_X10_submit μ (xs (i + 1)) (xs (i + 2)) (xs (i + 3))).1)), (6, .int k1), (0, .ref b), (1, .ref (E.1 0)), (2, .ref (E.1 24)), (3, .ref (E.1 33)), (4, .ref (E.1 34)), (5, .int (nI i))]) C (Nat.le_of_ble_eq_true rfl) rfl dL_law_1125 ?_
  refine v_aload_n C 4 rfl dL_law_1127 ?_
  refine v_cV1 (rest := []) C mv_RL_145 (m_X10_thrown l G (EO (EK E u.1 u.2) w) (F_X9_submit σ cn (xs (i + 1)) (xs (i + 2)) (xs (i + 3))).2 (F_X10_submit μ (xs (i + 1)) (xs (i + 2)) (xs (i + 3))).2 Y) 24 g_24 rfl rfl rfl rfl (Nat.le_of_ble_eq_true rfl) ⟨(Nat.le_of_ble_eq_true rfl), (Nat.le_of_ble_eq_true rfl)⟩ ⟨rfl, rfl⟩ ⟨hc, hs⟩ dL_law_1128 ?_
  refine v_iload C 1 rfl dL_law_1131 ?_
  refine v_icmp_eq (tgt := 1138) C (by decide) dL_law_1133 (fun ht => ?_) (fun ht => absurd (show F_X10_thrown (F_X10_submit μ (xs (i + 1)) (xs (i + 2)) (xs (i + 3))).2 = k1 from S1.symm) ht)
  refine v_iload C 1 rfl dL_law_1138 ?_
  refine v_if_ne (tgt := 1155) C (by decide) dL_law_1140 (fun _ => ?_) (fun hz0 => ?_)
  · refine v_goto (tgt := 2210) C (by decide) dL_law_1155 ?_
    refine v_lv [2, 3, 4, 5, 6, 7] rfl ?_
    exact kk (EO (EK E u.1 u.2) w) (F_X9_submit σ cn (xs (i + 1)) (xs (i + 2)) (xs (i + 3))).2 (F_X10_submit μ (xs (i + 1)) (xs (i + 2)) (xs (i + 3))).2 Y rfl (h.rows S3 S4 (sub_fx h.1 _ _ _).1 (sub_fx h.1 _ _ _).2.1 ⟨h.2.2.1.choose, h.2.2.1.choose_spec.1, (sub_fx h.1 _ _ _).2.2.trans h.2.2.1.choose_spec.2⟩ (sub_cnt h80 hjK hcn hu) rfl)
  · have hX0 := hcd_0 (by decide) (hk.trans hz0)
    rw [if_pos hX0] at hw
    have hv := S2 hX0
    refine v_aload_n C 5 rfl dL_law_1143 ?_
    refine v_iconst (v := (0 : Int32)) C (by decide) dL_law_1144 ?_
    refine v_lald (v := w) C 33 g_33 vi_0_1 rfl dL_law_1145 ?_
    refine v_iload C 0 rfl dL_law_1146 ?_
    refine v_i2l C dL_law_1148 ?_
    refine v_lcmp C dL_law_1149 ?_
    refine v_if_eq (tgt := 1155) C (by decide) dL_law_1150 (fun _ => ?_) (fun hq => absurd (by rw [← hw, hv]; exact lg_self _) hq)
    refine v_goto (tgt := 2210) C (by decide) dL_law_1155 ?_
    refine v_lv [2, 3, 4, 5, 6, 7] rfl ?_
    exact kk (EO (EK E u.1 u.2) w) (F_X9_submit σ cn (xs (i + 1)) (xs (i + 2)) (xs (i + 3))).2 (F_X10_submit μ (xs (i + 1)) (xs (i + 2)) (xs (i + 3))).2 Y rfl (h.rows S3 S4 (sub_fx h.1 _ _ _).1 (sub_fx h.1 _ _ _).2.1 ⟨h.2.2.1.choose, h.2.2.1.choose_spec.1, (sub_fx h.1 _ _ _).2.2.trans h.2.2.1.choose_spec.2⟩ (sub_cnt h80 hjK hcn hu) rfl)
set_option maxRecDepth 100000 in
set_option maxHeartbeats 2000000 in
theorem st_18 {p : Program} {l : Launch} {e : Env} {s : State} {m : MethodId} {args : Array Value} {below : List Frame} {meth : Method} {c : Code} {G : GG} {A : Nat → Prop} {b L : Nat} {xs : Nat → Int32} {Q : State → Prop} (D : LC p l s m args meth c G A b L xs) {i : Nat} (hi : i + 4 ≤ L) {cells slots : Nat} (hc : cells + 100 ≤ room_1.cells) (hs : slots + 1200 ≤ room_1.slots) {E : EE} {σ μ : Sg} {Y : va_W} (h : LI G E σ μ Y) (kk : ∀ (E' : EE) (σ' μ' : Sg) (Y' : va_W), E'.1 = E.1 → LI G E' σ' μ' Y' → V p l e room_1 s m args below meth c 9 G A (cells + 100) (slots + 1200) Q 2210 [(0, .ref b), (1, .ref (E.1 0)), (2, .ref (E.1 24)), (3, .ref (E.1 33)), (4, .ref (E.1 34)), (5, .int (nI i))] [] (Wd G E' σ' μ' Y')) : V p l e room_1 s m args below meth c 9 G A cells slots Q 1158 [(0, .ref b), (1, .ref (E.1 0)), (2, .ref (E.1 24)), (3, .ref (E.1 33)), (4, .ref (E.1 34)), (5, .int (nI i))] [] (Wd G E σ μ Y) := by
  obtain ⟨C, htr, hF, hX, hbl, hbA, hL⟩ := D
  refine v_aload_n C 1 rfl dL_law_1158 ?_
  refine v_aload_n C 0 rfl dL_law_1159 ?_
  refine v_iload C 5 rfl dL_law_1160 ?_
  refine v_iconst (v := (1 : Int32)) C (by decide) dL_law_1162 ?_
  refine v_iadd C dL_law_1163 ?_
  refine v_sld C hX hbl hbA (show nI i + (1 : Int32) = nI (i + 1) from nI_add i 1) (by omega) hL dL_law_1164 ?_
  refine v_aload_n C 3 rfl dL_law_1165 ?_
  obtain ⟨S1, S2, S3⟩ := S_appendCharacter (ch := (xs (i + 1))) h.1
  refine v_callSH (rest := []) (As := [.ref (E.1 0), .int (xs (i + 1)), .ref (E.1 33)]) C ml_207 (m_L_appendCharacter l G E σ μ Y htr (xs (i + 1))) rfl rfl (Nat.le_of_ble_eq_true rfl) ⟨(Nat.le_of_ble_eq_true rfl), (Nat.le_of_ble_eq_true rfl)⟩ ⟨Nat.le_trans (Nat.add_le_add_left (Nat.le_of_ble_eq_true rfl) cells) hc, Nat.le_trans (Nat.add_le_add_left (Nat.le_of_ble_eq_true rfl) slots) hs⟩ dL_law_1166 (fun u hu => ?_)
  refine v_wid (k := cells + 100) (n := slots + 1200) (Nat.add_le_add_left (Nat.le_of_ble_eq_true rfl) cells) (Nat.add_le_add_left (Nat.le_of_ble_eq_true rfl) slots) ?_
  rw [eoif]
  generalize hw : (if (X_X9_appendCharacter σ (xs (i + 1))) = 0 then ((F_X9_appendCharacter σ (xs (i + 1))).1).toInt64 else E.2.2.2.2.1) = w
  generalize hk : hcd [1, 2] (X_X9_appendCharacter σ (xs (i + 1))) = k1 at S1
  refine v_istore (lv' := [(6, .int k1), (0, .ref b), (1, .ref (E.1 0)), (2, .ref (E.1 24)), (3, .ref (E.1 33)), (4, .ref (E.1 34)), (5, .int (nI i))]) C (Nat.le_of_ble_eq_true rfl) rfl dL_law_1169 ?_
  refine v_aload_n C 3 rfl dL_law_1171 ?_
  refine v_aload_n C 1 rfl dL_law_1172 ?_
  refine v_iload C 6 rfl dL_law_1173 ?_
  refine v_iconst (v := (1 : Int32)) C (by decide) dL_law_1175 ?_
  refine v_iadd C dL_law_1176 ?_
  refine v_sld C hX hbl hbA (show nI i + (1 : Int32) = nI (i + 1) from nI_add i 1) (by omega) hL dL_law_1177 ?_
  refine v_cV1 (rest := []) C mv_RL_209 (m_X10_appendCharacter l G (EO E w) (F_X9_appendCharacter σ (xs (i + 1))).2 μ Y (xs (i + 1)) h.1.2.2.2.1) 24 g_24 rfl rfl rfl rfl (Nat.le_of_ble_eq_true rfl) ⟨(Nat.le_of_ble_eq_true rfl), (Nat.le_of_ble_eq_true rfl)⟩ ⟨rfl, rfl⟩ ⟨hc, hs⟩ dL_law_1178 ?_
  refine v_istore (lv' := [(7, .int ((F_X10_appendCharacter μ (xs (i + 1))).1)), (6, .int k1), (0, .ref b), (1, .ref (E.1 0)), (2, .ref (E.1 24)), (3, .ref (E.1 33)), (4, .ref (E.1 34)), (5, .int (nI i))]) C (Nat.le_of_ble_eq_true rfl) rfl dL_law_1181 ?_
  refine v_aload_n C 4 rfl dL_law_1183 ?_
  refine v_cV1 (rest := []) C mv_RL_145 (m_X10_thrown l G (EO E w) (F_X9_appendCharacter σ (xs (i + 1))).2 (F_X10_appendCharacter μ (xs (i + 1))).2 Y) 24 g_24 rfl rfl rfl rfl (Nat.le_of_ble_eq_true rfl) ⟨(Nat.le_of_ble_eq_true rfl), (Nat.le_of_ble_eq_true rfl)⟩ ⟨rfl, rfl⟩ ⟨hc, hs⟩ dL_law_1184 ?_
  refine v_iload C 1 rfl dL_law_1187 ?_
  refine v_icmp_eq (tgt := 1194) C (by decide) dL_law_1189 (fun ht => ?_) (fun ht => absurd (show F_X10_thrown (F_X10_appendCharacter μ (xs (i + 1))).2 = k1 from S1.symm) ht)
  refine v_iload C 1 rfl dL_law_1194 ?_
  refine v_if_ne (tgt := 1211) C (by decide) dL_law_1196 (fun _ => ?_) (fun hz0 => ?_)
  · refine v_goto (tgt := 2210) C (by decide) dL_law_1211 ?_
    refine v_lv [2, 3, 4, 5, 6, 7] rfl ?_
    exact kk (EO E w) (F_X9_appendCharacter σ (xs (i + 1))).2 (F_X10_appendCharacter μ (xs (i + 1))).2 Y rfl (h.step S3 (A_appendCharacter h.2.1 (xs (i + 1))) (FX_appendCharacter μ (xs (i + 1))) rfl rfl)
  · have hX0 := hcd_0 (by decide) (hk.trans hz0)
    rw [if_pos hX0] at hw
    have hv := S2 hX0
    refine v_aload_n C 5 rfl dL_law_1199 ?_
    refine v_iconst (v := (0 : Int32)) C (by decide) dL_law_1200 ?_
    refine v_lald (v := w) C 33 g_33 vi_0_1 rfl dL_law_1201 ?_
    refine v_iload C 0 rfl dL_law_1202 ?_
    refine v_i2l C dL_law_1204 ?_
    refine v_lcmp C dL_law_1205 ?_
    refine v_if_eq (tgt := 1211) C (by decide) dL_law_1206 (fun _ => ?_) (fun hq => absurd (by rw [← hw, hv]; exact lg_self _) hq)
    refine v_goto (tgt := 2210) C (by decide) dL_law_1211 ?_
    refine v_lv [2, 3, 4, 5, 6, 7] rfl ?_
    exact kk (EO E w) (F_X9_appendCharacter σ (xs (i + 1))).2 (F_X10_appendCharacter μ (xs (i + 1))).2 Y rfl (h.step S3 (A_appendCharacter h.2.1 (xs (i + 1))) (FX_appendCharacter μ (xs (i + 1))) rfl rfl)
set_option maxRecDepth 100000 in
set_option maxHeartbeats 2000000 in
theorem st_19 {p : Program} {l : Launch} {e : Env} {s : State} {m : MethodId} {args : Array Value} {below : List Frame} {meth : Method} {c : Code} {G : GG} {A : Nat → Prop} {b L : Nat} {xs : Nat → Int32} {Q : State → Prop} (D : LC p l s m args meth c G A b L xs) {i : Nat} (hi : i + 4 ≤ L) {cells slots : Nat} (hc : cells + 100 ≤ room_1.cells) (hs : slots + 1200 ≤ room_1.slots) {E : EE} {σ μ : Sg} {Y : va_W} (h : LI G E σ μ Y) (kk : ∀ (E' : EE) (σ' μ' : Sg) (Y' : va_W), E'.1 = E.1 → LI G E' σ' μ' Y' → V p l e room_1 s m args below meth c 9 G A (cells + 100) (slots + 1200) Q 2210 [(0, .ref b), (1, .ref (E.1 0)), (2, .ref (E.1 24)), (3, .ref (E.1 33)), (4, .ref (E.1 34)), (5, .int (nI i))] [] (Wd G E' σ' μ' Y')) : V p l e room_1 s m args below meth c 9 G A cells slots Q 1214 [(0, .ref b), (1, .ref (E.1 0)), (2, .ref (E.1 24)), (3, .ref (E.1 33)), (4, .ref (E.1 34)), (5, .int (nI i))] [] (Wd G E σ μ Y) := by
  obtain ⟨C, htr, hF, hX, hbl, hbA, hL⟩ := D
  refine v_aload_n C 1 rfl dL_law_1214 ?_
  refine v_aload_n C 3 rfl dL_law_1215 ?_
  obtain ⟨S1, S2, S3, S4, S5, S6, S7⟩ := S_submitText h.1 h.2.1
  refine v_callSH (rest := []) (As := [.ref (E.1 0), .ref (E.1 33)]) C ml_210 (m_L_submitText l G E σ μ Y htr h.2.2.2.1) rfl rfl (Nat.le_of_ble_eq_true rfl) ⟨(Nat.le_of_ble_eq_true rfl), (Nat.le_of_ble_eq_true rfl)⟩ ⟨Nat.le_trans (Nat.add_le_add_left (Nat.le_of_ble_eq_true rfl) cells) hc, Nat.le_trans (Nat.add_le_add_left (Nat.le_of_ble_eq_true rfl) slots) hs⟩ dL_law_1216 (fun u hu => ?_)
  refine v_wid (k := cells + 100) (n := slots + 1200) (Nat.add_le_add_left (Nat.le_of_ble_eq_true rfl) cells) (Nat.add_le_add_left (Nat.le_of_ble_eq_true rfl) slots) ?_
  generalize hw : (if (X_X9_submitText σ) = 0 then ((F_X9_submitText σ).1).toInt64 else E.2.2.2.2.1) = w
  generalize hk : hcd [1] (X_X9_submitText σ) = k1 at S1
  refine v_istore (lv' := [(6, .int k1), (0, .ref b), (1, .ref (E.1 0)), (2, .ref (E.1 24)), (3, .ref (E.1 33)), (4, .ref (E.1 34)), (5, .int (nI i))]) C (Nat.le_of_ble_eq_true rfl) rfl dL_law_1219 ?_
  refine v_aload_n C 3 rfl dL_law_1221 ?_
  refine v_cV1 (rest := []) C mv_RL_213 (m_X10_submitText l G (EO (EK E u.1 u.2) w) (F_X9_submitText σ).2 μ Y h.mok h.tok) 24 g_24 rfl rfl rfl rfl (Nat.le_of_ble_eq_true rfl) ⟨(Nat.le_of_ble_eq_true rfl), (Nat.le_of_ble_eq_true rfl)⟩ ⟨rfl, rfl⟩ ⟨hc, hs⟩ dL_law_1222 ?_
  refine v_istore (lv' := [(7, .int ((F_X10_submitText μ).1)), (6, .int k1), (0, .ref b), (1, .ref (E.1 0)), (2, .ref (E.1 24)), (3, .ref (E.1 33)), (4, .ref (E.1 34)), (5, .int (nI i))]) C (Nat.le_of_ble_eq_true rfl) rfl dL_law_1225 ?_
  refine v_aload_n C 4 rfl dL_law_1227 ?_
  refine v_cV1 (rest := []) C mv_RL_145 (m_X10_thrown l G (EO (EK E u.1 u.2) w) (F_X9_submitText σ).2 (F_X10_submitText μ).2 Y) 24 g_24 rfl rfl rfl rfl (Nat.le_of_ble_eq_true rfl) ⟨(Nat.le_of_ble_eq_true rfl), (Nat.le_of_ble_eq_true rfl)⟩ ⟨rfl, rfl⟩ ⟨hc, hs⟩ dL_law_1228 ?_
  refine v_iload C 1 rfl dL_law_1231 ?_
  refine v_icmp_eq (tgt := 1238) C (by decide) dL_law_1233 (fun ht => ?_) (fun ht => absurd (show F_X10_thrown (F_X10_submitText μ).2 = k1 from S1.symm) ht)
  refine v_iload C 1 rfl dL_law_1238 ?_
  refine v_if_ne (tgt := 1255) C (by decide) dL_law_1240 (fun _ => ?_) (fun hz0 => ?_)
  · refine v_goto (tgt := 2210) C (by decide) dL_law_1255 ?_
    refine v_lv [2, 3, 4, 5, 6, 7] rfl ?_
    exact kk (EO (EK E u.1 u.2) w) (F_X9_submitText σ).2 (F_X10_submitText μ).2 Y rfl (h.rows S3 S4 S5 S6 S7 (subt_cnt h.2.2.2.1 hu) rfl)
  · have hX0 := hcd_0 (by decide) (hk.trans hz0)
    rw [if_pos hX0] at hw
    have hv := S2 hX0
    refine v_aload_n C 5 rfl dL_law_1243 ?_
    refine v_iconst (v := (0 : Int32)) C (by decide) dL_law_1244 ?_
    refine v_lald (v := w) C 33 g_33 vi_0_1 rfl dL_law_1245 ?_
    refine v_iload C 0 rfl dL_law_1246 ?_
    refine v_i2l C dL_law_1248 ?_
    refine v_lcmp C dL_law_1249 ?_
    refine v_if_eq (tgt := 1255) C (by decide) dL_law_1250 (fun _ => ?_) (fun hq => absurd (by rw [← hw, hv]; exact lg_self _) hq)
    refine v_goto (tgt := 2210) C (by decide) dL_law_1255 ?_
    refine v_lv [2, 3, 4, 5, 6, 7] rfl ?_
    exact kk (EO (EK E u.1 u.2) w) (F_X9_submitText σ).2 (F_X10_submitText μ).2 Y rfl (h.rows S3 S4 S5 S6 S7 (subt_cnt h.2.2.2.1 hu) rfl)
set_option maxRecDepth 100000 in
set_option maxHeartbeats 2000000 in
theorem st_20 {p : Program} {l : Launch} {e : Env} {s : State} {m : MethodId} {args : Array Value} {below : List Frame} {meth : Method} {c : Code} {G : GG} {A : Nat → Prop} {b L : Nat} {xs : Nat → Int32} {Q : State → Prop} (D : LC p l s m args meth c G A b L xs) {i : Nat} (hi : i + 4 ≤ L) {cells slots : Nat} (hc : cells + 100 ≤ room_1.cells) (hs : slots + 1200 ≤ room_1.slots) {E : EE} {σ μ : Sg} {Y : va_W} (h : LI G E σ μ Y) (kk : ∀ (E' : EE) (σ' μ' : Sg) (Y' : va_W), E'.1 = E.1 → LI G E' σ' μ' Y' → V p l e room_1 s m args below meth c 9 G A (cells + 100) (slots + 1200) Q 2210 [(0, .ref b), (1, .ref (E.1 0)), (2, .ref (E.1 24)), (3, .ref (E.1 33)), (4, .ref (E.1 34)), (5, .int (nI i))] [] (Wd G E' σ' μ' Y')) : V p l e room_1 s m args below meth c 9 G A cells slots Q 1258 [(0, .ref b), (1, .ref (E.1 0)), (2, .ref (E.1 24)), (3, .ref (E.1 33)), (4, .ref (E.1 34)), (5, .int (nI i))] [] (Wd G E σ μ Y) := by
  obtain ⟨C, htr, hF, hX, hbl, hbA, hL⟩ := D
  refine v_aload_n C 1 rfl dL_law_1258 ?_
  refine v_wid (k := cells + 100) (n := slots + 1200) (Nat.le_add_right _ _) (Nat.le_add_right _ _) ?_
  obtain ⟨S1, S3⟩ := S_faultPosition h.1
  refine v_cV1 (rest := []) C mv_RL_214 (m_X9_faultPosition l G E σ μ Y) 0 g_0 rfl rfl rfl rfl (Nat.le_of_ble_eq_true rfl) ⟨(Nat.le_of_ble_eq_true rfl), (Nat.le_of_ble_eq_true rfl)⟩ ⟨rfl, rfl⟩ ⟨hc, hs⟩ dL_law_1259 ?_
  refine v_aload_n C 2 rfl dL_law_1262 ?_
  refine v_cV1 (rest := [.int (F_X9_faultPosition σ)]) C mv_RL_217 (m_X10_faultPosition l G E σ μ Y) 24 g_24 rfl rfl rfl rfl (Nat.le_of_ble_eq_true rfl) ⟨(Nat.le_of_ble_eq_true rfl), (Nat.le_of_ble_eq_true rfl)⟩ ⟨rfl, rfl⟩ ⟨hc, hs⟩ dL_law_1263 ?_
  refine v_icmp_eq (tgt := 2210) C (by decide) dL_law_1266 (fun ht => ?_) (fun ht => absurd S1 ht)
  refine v_lv [0, 1, 2, 3, 4, 5] rfl ?_
  exact kk E σ (F_X10_faultPosition μ).2 Y rfl (h.step S3 (by exact h.2.1) ⟨rfl, rfl, rfl, rfl⟩ rfl rfl)
set_option maxRecDepth 100000 in
set_option maxHeartbeats 2000000 in
theorem st_21 {p : Program} {l : Launch} {e : Env} {s : State} {m : MethodId} {args : Array Value} {below : List Frame} {meth : Method} {c : Code} {G : GG} {A : Nat → Prop} {b L : Nat} {xs : Nat → Int32} {Q : State → Prop} (D : LC p l s m args meth c G A b L xs) {i : Nat} (hi : i + 4 ≤ L) {cells slots : Nat} (hc : cells + 100 ≤ room_1.cells) (hs : slots + 1200 ≤ room_1.slots) {E : EE} {σ μ : Sg} {Y : va_W} (h : LI G E σ μ Y) (kk : ∀ (E' : EE) (σ' μ' : Sg) (Y' : va_W), E'.1 = E.1 → LI G E' σ' μ' Y' → V p l e room_1 s m args below meth c 9 G A (cells + 100) (slots + 1200) Q 2210 [(0, .ref b), (1, .ref (E.1 0)), (2, .ref (E.1 24)), (3, .ref (E.1 33)), (4, .ref (E.1 34)), (5, .int (nI i))] [] (Wd G E' σ' μ' Y')) : V p l e room_1 s m args below meth c 9 G A cells slots Q 1271 [(0, .ref b), (1, .ref (E.1 0)), (2, .ref (E.1 24)), (3, .ref (E.1 33)), (4, .ref (E.1 34)), (5, .int (nI i))] [] (Wd G E σ μ Y) := by
  obtain ⟨C, htr, hF, hX, hbl, hbA, hL⟩ := D
  refine v_aload_n C 1 rfl dL_law_1271 ?_
  refine v_aload_n C 0 rfl dL_law_1272 ?_
  refine v_iload C 5 rfl dL_law_1273 ?_
  refine v_iconst (v := (1 : Int32)) C (by decide) dL_law_1275 ?_
  refine v_iadd C dL_law_1276 ?_
  refine v_sld C hX hbl hbA (show nI i + (1 : Int32) = nI (i + 1) from nI_add i 1) (by omega) hL dL_law_1277 ?_
  obtain ⟨S1, S3⟩ := S_cancel (n := (xs (i + 1))) h.1
  refine v_callSH (rest := []) (As := [.ref (E.1 0), .int (xs (i + 1))]) C ml_218 (m_L_cancel l G E σ μ Y htr (xs (i + 1)) h.2.2.2.1) rfl rfl (Nat.le_of_ble_eq_true rfl) ⟨(Nat.le_of_ble_eq_true rfl), (Nat.le_of_ble_eq_true rfl)⟩ ⟨Nat.le_trans (Nat.add_le_add_left (Nat.le_of_ble_eq_true rfl) cells) hc, Nat.le_trans (Nat.add_le_add_left (Nat.le_of_ble_eq_true rfl) slots) hs⟩ dL_law_1278 (fun u hu => ?_)
  refine v_wid (k := cells + 100) (n := slots + 1200) (Nat.add_le_add_left (Nat.le_of_ble_eq_true rfl) cells) (Nat.add_le_add_left (Nat.le_of_ble_eq_true rfl) slots) ?_
  generalize hk : hcd [3, 2] (X_X9_cancel σ (xs (i + 1))) = k1 at S1
  refine v_istore (lv' := [(6, .int k1), (0, .ref b), (1, .ref (E.1 0)), (2, .ref (E.1 24)), (3, .ref (E.1 33)), (4, .ref (E.1 34)), (5, .int (nI i))]) C (Nat.le_of_ble_eq_true rfl) rfl dL_law_1281 ?_
  refine v_aload_n C 3 rfl dL_law_1283 ?_
  refine v_aload_n C 1 rfl dL_law_1284 ?_
  refine v_iload C 6 rfl dL_law_1285 ?_
  refine v_iconst (v := (1 : Int32)) C (by decide) dL_law_1287 ?_
  refine v_iadd C dL_law_1288 ?_
  refine v_sld C hX hbl hbA (show nI i + (1 : Int32) = nI (i + 1) from nI_add i 1) (by omega) hL dL_law_1289 ?_
  refine v_cV0 (rest := []) C mv_RL_221 (m_X10_cancel l G E (F_X9_cancel σ (xs (i + 1))) μ Y (xs (i + 1)) h.mok) 24 g_24 rfl rfl rfl rfl (Nat.le_of_ble_eq_true rfl) ⟨(Nat.le_of_ble_eq_true rfl), (Nat.le_of_ble_eq_true rfl)⟩ ⟨rfl, rfl⟩ ⟨hc, hs⟩ dL_law_1290 ?_
  refine v_aload_n C 3 rfl dL_law_1293 ?_
  refine v_cV1 (rest := []) C mv_RL_145 (m_X10_thrown l G E (F_X9_cancel σ (xs (i + 1))) (F_X10_cancel μ (xs (i + 1))) Y) 24 g_24 rfl rfl rfl rfl (Nat.le_of_ble_eq_true rfl) ⟨(Nat.le_of_ble_eq_true rfl), (Nat.le_of_ble_eq_true rfl)⟩ ⟨rfl, rfl⟩ ⟨hc, hs⟩ dL_law_1294 ?_
  refine v_iload C 0 rfl dL_law_1297 ?_
  refine v_icmp_eq (tgt := 1304) C (by decide) dL_law_1299 (fun ht => ?_) (fun ht => absurd (show F_X10_thrown (F_X10_cancel μ (xs (i + 1))) = k1 from S1.symm) ht)
  refine v_goto (tgt := 2210) C (by decide) dL_law_1304 ?_
  refine v_lv [1, 2, 3, 4, 5, 6] rfl ?_
  exact kk E (F_X9_cancel σ (xs (i + 1))) (F_X10_cancel μ (xs (i + 1))) Y rfl (h.step S3 (A_cancel h.1 h.2.1) (FX_cancel h.1 (xs (i + 1))) rfl rfl)
set_option maxRecDepth 100000 in
set_option maxHeartbeats 2000000 in
theorem st_22 {p : Program} {l : Launch} {e : Env} {s : State} {m : MethodId} {args : Array Value} {below : List Frame} {meth : Method} {c : Code} {G : GG} {A : Nat → Prop} {b L : Nat} {xs : Nat → Int32} {Q : State → Prop} (D : LC p l s m args meth c G A b L xs) {i : Nat} (hi : i + 4 ≤ L) {cells slots : Nat} (hc : cells + 100 ≤ room_1.cells) (hs : slots + 1200 ≤ room_1.slots) {E : EE} {σ μ : Sg} {Y : va_W} (h : LI G E σ μ Y) (kk : ∀ (E' : EE) (σ' μ' : Sg) (Y' : va_W), E'.1 = E.1 → LI G E' σ' μ' Y' → V p l e room_1 s m args below meth c 9 G A (cells + 100) (slots + 1200) Q 2210 [(0, .ref b), (1, .ref (E.1 0)), (2, .ref (E.1 24)), (3, .ref (E.1 33)), (4, .ref (E.1 34)), (5, .int (nI i))] [] (Wd G E' σ' μ' Y')) : V p l e room_1 s m args below meth c 9 G A cells slots Q 1307 [(0, .ref b), (1, .ref (E.1 0)), (2, .ref (E.1 24)), (3, .ref (E.1 33)), (4, .ref (E.1 34)), (5, .int (nI i))] [] (Wd G E σ μ Y) := by
  obtain ⟨C, htr, hF, hX, hbl, hbA, hL⟩ := D
  refine v_aload_n C 1 rfl dL_law_1307 ?_
  refine v_aload_n C 3 rfl dL_law_1308 ?_
  obtain ⟨S1, S2, S3, S4⟩ := S_next h.1 h.2.1
  refine v_callSH (rest := []) (As := [.ref (E.1 0), .ref (E.1 33)]) C ml_222 (m_L_next l G E σ μ Y htr h.2.2.2.1) rfl rfl (Nat.le_of_ble_eq_true rfl) ⟨(Nat.le_of_ble_eq_true rfl), (Nat.le_of_ble_eq_true rfl)⟩ ⟨Nat.le_trans (Nat.add_le_add_left (Nat.le_of_ble_eq_true rfl) cells) hc, Nat.le_trans (Nat.add_le_add_left (Nat.le_of_ble_eq_true rfl) slots) hs⟩ dL_law_1309 (fun u hu => ?_)
  refine v_wid (k := cells + 100) (n := slots + 1200) (Nat.add_le_add_left (Nat.le_of_ble_eq_true rfl) cells) (Nat.add_le_add_left (Nat.le_of_ble_eq_true rfl) slots) ?_
  rw [eoif]
  generalize hw : (if (X_X9_next σ) = 0 then ((F_X9_next σ).1).toInt64 else E.2.2.2.2.1) = w
  generalize hk : hcd [5] (X_X9_next σ) = k1 at S1
  refine v_istore (lv' := [(6, .int k1), (0, .ref b), (1, .ref (E.1 0)), (2, .ref (E.1 24)), (3, .ref (E.1 33)), (4, .ref (E.1 34)), (5, .int (nI i))]) C (Nat.le_of_ble_eq_true rfl) rfl dL_law_1312 ?_
  refine v_aload_n C 3 rfl dL_law_1314 ?_
  refine v_cV1 (rest := []) C mv_RL_224 (m_X10_next l G (EO E w) (F_X9_next σ).2 μ Y h.mok) 24 g_24 rfl rfl rfl rfl (Nat.le_of_ble_eq_true rfl) ⟨(Nat.le_of_ble_eq_true rfl), (Nat.le_of_ble_eq_true rfl)⟩ ⟨rfl, rfl⟩ ⟨hc, hs⟩ dL_law_1315 ?_
  refine v_istore (lv' := [(7, .int ((F_X10_next μ).1)), (6, .int k1), (0, .ref b), (1, .ref (E.1 0)), (2, .ref (E.1 24)), (3, .ref (E.1 33)), (4, .ref (E.1 34)), (5, .int (nI i))]) C (Nat.le_of_ble_eq_true rfl) rfl dL_law_1318 ?_
  refine v_aload_n C 4 rfl dL_law_1320 ?_
  refine v_cV1 (rest := []) C mv_RL_145 (m_X10_thrown l G (EO E w) (F_X9_next σ).2 (F_X10_next μ).2 Y) 24 g_24 rfl rfl rfl rfl (Nat.le_of_ble_eq_true rfl) ⟨(Nat.le_of_ble_eq_true rfl), (Nat.le_of_ble_eq_true rfl)⟩ ⟨rfl, rfl⟩ ⟨hc, hs⟩ dL_law_1321 ?_
  refine v_iload C 1 rfl dL_law_1324 ?_
  refine v_icmp_eq (tgt := 1331) C (by decide) dL_law_1326 (fun ht => ?_) (fun ht => absurd (show F_X10_thrown (F_X10_next μ).2 = k1 from S1.symm) ht)
  refine v_iload C 1 rfl dL_law_1331 ?_
  refine v_if_ne (tgt := 1348) C (by decide) dL_law_1333 (fun _ => ?_) (fun hz0 => ?_)
  · refine v_goto (tgt := 2210) C (by decide) dL_law_1348 ?_
    refine v_lv [2, 3, 4, 5, 6, 7] rfl ?_
    exact kk (EO E w) (F_X9_next σ).2 (F_X10_next μ).2 Y rfl (h.step S3 S4 (FX_next μ) rfl rfl)
  · have hX0 := hcd_0 (by decide) (hk.trans hz0)
    rw [if_pos hX0] at hw
    have hv := S2 hX0
    refine v_aload_n C 5 rfl dL_law_1336 ?_
    refine v_iconst (v := (0 : Int32)) C (by decide) dL_law_1337 ?_
    refine v_lald (v := w) C 33 g_33 vi_0_1 rfl dL_law_1338 ?_
    refine v_iload C 0 rfl dL_law_1339 ?_
    refine v_i2l C dL_law_1341 ?_
    refine v_lcmp C dL_law_1342 ?_
    refine v_if_eq (tgt := 1348) C (by decide) dL_law_1343 (fun _ => ?_) (fun hq => absurd (by rw [← hw, hv]; exact lg_self _) hq)
    refine v_goto (tgt := 2210) C (by decide) dL_law_1348 ?_
    refine v_lv [2, 3, 4, 5, 6, 7] rfl ?_
    exact kk (EO E w) (F_X9_next σ).2 (F_X10_next μ).2 Y rfl (h.step S3 S4 (FX_next μ) rfl rfl)
set_option maxRecDepth 100000 in
set_option maxHeartbeats 2000000 in
theorem st_23 {p : Program} {l : Launch} {e : Env} {s : State} {m : MethodId} {args : Array Value} {below : List Frame} {meth : Method} {c : Code} {G : GG} {A : Nat → Prop} {b L : Nat} {xs : Nat → Int32} {Q : State → Prop} (D : LC p l s m args meth c G A b L xs) {i : Nat} (hi : i + 4 ≤ L) {cells slots : Nat} (hc : cells + 100 ≤ room_1.cells) (hs : slots + 1200 ≤ room_1.slots) {E : EE} {σ μ : Sg} {Y : va_W} (h : LI G E σ μ Y) (kk : ∀ (E' : EE) (σ' μ' : Sg) (Y' : va_W), E'.1 = E.1 → LI G E' σ' μ' Y' → V p l e room_1 s m args below meth c 9 G A (cells + 100) (slots + 1200) Q 2210 [(0, .ref b), (1, .ref (E.1 0)), (2, .ref (E.1 24)), (3, .ref (E.1 33)), (4, .ref (E.1 34)), (5, .int (nI i))] [] (Wd G E' σ' μ' Y')) : V p l e room_1 s m args below meth c 9 G A cells slots Q 1351 [(0, .ref b), (1, .ref (E.1 0)), (2, .ref (E.1 24)), (3, .ref (E.1 33)), (4, .ref (E.1 34)), (5, .int (nI i))] [] (Wd G E σ μ Y) := by
  obtain ⟨C, htr, hF, hX, hbl, hbA, hL⟩ := D
  refine v_aload_n C 1 rfl dL_law_1351 ?_
  refine v_aload_n C 3 rfl dL_law_1352 ?_
  obtain ⟨S1, S2, S3, S4⟩ := S_serve h.1 h.2.1
  refine v_callSH (rest := []) (As := [.ref (E.1 0), .ref (E.1 33)]) C ml_225 (m_L_serve l G E σ μ Y htr h.2.2.2.1) rfl rfl (Nat.le_of_ble_eq_true rfl) ⟨(Nat.le_of_ble_eq_true rfl), (Nat.le_of_ble_eq_true rfl)⟩ ⟨Nat.le_trans (Nat.add_le_add_left (Nat.le_of_ble_eq_true rfl) cells) hc, Nat.le_trans (Nat.add_le_add_left (Nat.le_of_ble_eq_true rfl) slots) hs⟩ dL_law_1353 (fun u hu => ?_)
  refine v_wid (k := cells + 100) (n := slots + 1200) (Nat.add_le_add_left (Nat.le_of_ble_eq_true rfl) cells) (Nat.add_le_add_left (Nat.le_of_ble_eq_true rfl) slots) ?_
  rw [eoif]
  generalize hw : (if (X_X9_serve σ) = 0 then ((F_X9_serve σ).1).toInt64 else E.2.2.2.2.1) = w
  generalize hk : hcd [5, 2] (X_X9_serve σ) = k1 at S1
  refine v_istore (lv' := [(6, .int k1), (0, .ref b), (1, .ref (E.1 0)), (2, .ref (E.1 24)), (3, .ref (E.1 33)), (4, .ref (E.1 34)), (5, .int (nI i))]) C (Nat.le_of_ble_eq_true rfl) rfl dL_law_1356 ?_
  refine v_aload_n C 3 rfl dL_law_1358 ?_
  refine v_cV1 (rest := []) C mv_RL_227 (m_X10_serve l G (EO E w) (F_X9_serve σ).2 μ Y h.mok) 24 g_24 rfl rfl rfl rfl (Nat.le_of_ble_eq_true rfl) ⟨(Nat.le_of_ble_eq_true rfl), (Nat.le_of_ble_eq_true rfl)⟩ ⟨rfl, rfl⟩ ⟨hc, hs⟩ dL_law_1359 ?_
  refine v_istore (lv' := [(7, .int ((F_X10_serve μ).1)), (6, .int k1), (0, .ref b), (1, .ref (E.1 0)), (2, .ref (E.1 24)), (3, .ref (E.1 33)), (4, .ref (E.1 34)), (5, .int (nI i))]) C (Nat.le_of_ble_eq_true rfl) rfl dL_law_1362 ?_
  refine v_aload_n C 4 rfl dL_law_1364 ?_
  refine v_cV1 (rest := []) C mv_RL_145 (m_X10_thrown l G (EO E w) (F_X9_serve σ).2 (F_X10_serve μ).2 Y) 24 g_24 rfl rfl rfl rfl (Nat.le_of_ble_eq_true rfl) ⟨(Nat.le_of_ble_eq_true rfl), (Nat.le_of_ble_eq_true rfl)⟩ ⟨rfl, rfl⟩ ⟨hc, hs⟩ dL_law_1365 ?_
  refine v_iload C 1 rfl dL_law_1368 ?_
  refine v_icmp_eq (tgt := 1375) C (by decide) dL_law_1370 (fun ht => ?_) (fun ht => absurd (show F_X10_thrown (F_X10_serve μ).2 = k1 from S1.symm) ht)
  refine v_iload C 1 rfl dL_law_1375 ?_
  refine v_if_ne (tgt := 1392) C (by decide) dL_law_1377 (fun _ => ?_) (fun hz0 => ?_)
  · refine v_goto (tgt := 2210) C (by decide) dL_law_1392 ?_
    refine v_lv [2, 3, 4, 5, 6, 7] rfl ?_
    exact kk (EO E w) (F_X9_serve σ).2 (F_X10_serve μ).2 Y rfl (h.step S3 S4 (FX_serve h.mok) rfl rfl)
  · have hX0 := hcd_0 (by decide) (hk.trans hz0)
    rw [if_pos hX0] at hw
    have hv := S2 hX0
    refine v_aload_n C 5 rfl dL_law_1380 ?_
    refine v_iconst (v := (0 : Int32)) C (by decide) dL_law_1381 ?_
    refine v_lald (v := w) C 33 g_33 vi_0_1 rfl dL_law_1382 ?_
    refine v_iload C 0 rfl dL_law_1383 ?_
    refine v_i2l C dL_law_1385 ?_
    refine v_lcmp C dL_law_1386 ?_
    refine v_if_eq (tgt := 1392) C (by decide) dL_law_1387 (fun _ => ?_) (fun hq => absurd (by rw [← hw, hv]; exact lg_self _) hq)
    refine v_goto (tgt := 2210) C (by decide) dL_law_1392 ?_
    refine v_lv [2, 3, 4, 5, 6, 7] rfl ?_
    exact kk (EO E w) (F_X9_serve σ).2 (F_X10_serve μ).2 Y rfl (h.step S3 S4 (FX_serve h.mok) rfl rfl)
set_option maxRecDepth 100000 in
set_option maxHeartbeats 2000000 in
theorem st_24 {p : Program} {l : Launch} {e : Env} {s : State} {m : MethodId} {args : Array Value} {below : List Frame} {meth : Method} {c : Code} {G : GG} {A : Nat → Prop} {b L : Nat} {xs : Nat → Int32} {Q : State → Prop} (D : LC p l s m args meth c G A b L xs) {i : Nat} (hi : i + 4 ≤ L) {cells slots : Nat} (hc : cells + 100 ≤ room_1.cells) (hs : slots + 1200 ≤ room_1.slots) {E : EE} {σ μ : Sg} {Y : va_W} (h : LI G E σ μ Y) (kk : ∀ (E' : EE) (σ' μ' : Sg) (Y' : va_W), E'.1 = E.1 → LI G E' σ' μ' Y' → V p l e room_1 s m args below meth c 9 G A (cells + 100) (slots + 1200) Q 2210 [(0, .ref b), (1, .ref (E.1 0)), (2, .ref (E.1 24)), (3, .ref (E.1 33)), (4, .ref (E.1 34)), (5, .int (nI i))] [] (Wd G E' σ' μ' Y')) : V p l e room_1 s m args below meth c 9 G A cells slots Q 1395 [(0, .ref b), (1, .ref (E.1 0)), (2, .ref (E.1 24)), (3, .ref (E.1 33)), (4, .ref (E.1 34)), (5, .int (nI i))] [] (Wd G E σ μ Y) := by
  obtain ⟨C, htr, hF, hX, hbl, hbA, hL⟩ := D
  refine v_aload_n C 1 rfl dL_law_1395 ?_
  refine v_aload_n C 0 rfl dL_law_1396 ?_
  refine v_iload C 5 rfl dL_law_1397 ?_
  refine v_iconst (v := (1 : Int32)) C (by decide) dL_law_1399 ?_
  refine v_iadd C dL_law_1400 ?_
  refine v_sld C hX hbl hbA (show nI i + (1 : Int32) = nI (i + 1) from nI_add i 1) (by omega) hL dL_law_1401 ?_
  refine v_aload_n C 3 rfl dL_law_1402 ?_
  obtain ⟨S1, S2, S3, S4⟩ := S_serveFor (tk := (xs (i + 1))) h.1 h.2.1
  refine v_callSH (rest := []) (As := [.ref (E.1 0), .int (xs (i + 1)), .ref (E.1 33)]) C ml_228 (m_L_serveFor l G E σ μ Y htr (xs (i + 1)) h.2.2.2.1) rfl rfl (Nat.le_of_ble_eq_true rfl) ⟨(Nat.le_of_ble_eq_true rfl), (Nat.le_of_ble_eq_true rfl)⟩ ⟨Nat.le_trans (Nat.add_le_add_left (Nat.le_of_ble_eq_true rfl) cells) hc, Nat.le_trans (Nat.add_le_add_left (Nat.le_of_ble_eq_true rfl) slots) hs⟩ dL_law_1403 (fun u hu => ?_)
  refine v_wid (k := cells + 100) (n := slots + 1200) (Nat.add_le_add_left (Nat.le_of_ble_eq_true rfl) cells) (Nat.add_le_add_left (Nat.le_of_ble_eq_true rfl) slots) ?_
  rw [eoif]
  generalize hw : (if (X_X9_serveFor σ (xs (i + 1))) = 0 then ((F_X9_serveFor σ (xs (i + 1))).1).toInt64 else E.2.2.2.2.1) = w
  generalize hk : hcd [1, 2] (X_X9_serveFor σ (xs (i + 1))) = k1 at S1
  refine v_istore (lv' := [(6, .int k1), (0, .ref b), (1, .ref (E.1 0)), (2, .ref (E.1 24)), (3, .ref (E.1 33)), (4, .ref (E.1 34)), (5, .int (nI i))]) C (Nat.le_of_ble_eq_true rfl) rfl dL_law_1406 ?_
  refine v_aload_n C 3 rfl dL_law_1408 ?_
  refine v_aload_n C 1 rfl dL_law_1409 ?_
  refine v_iload C 6 rfl dL_law_1410 ?_
  refine v_iconst (v := (1 : Int32)) C (by decide) dL_law_1412 ?_
  refine v_iadd C dL_law_1413 ?_
  refine v_sld C hX hbl hbA (show nI i + (1 : Int32) = nI (i + 1) from nI_add i 1) (by omega) hL dL_law_1414 ?_
  refine v_cV1 (rest := []) C mv_RL_230 (m_X10_serveFor l G (EO E w) (F_X9_serveFor σ (xs (i + 1))).2 μ Y (xs (i + 1)) h.mok) 24 g_24 rfl rfl rfl rfl (Nat.le_of_ble_eq_true rfl) ⟨(Nat.le_of_ble_eq_true rfl), (Nat.le_of_ble_eq_true rfl)⟩ ⟨rfl, rfl⟩ ⟨hc, hs⟩ dL_law_1415 ?_
  refine v_istore (lv' := [(7, .int ((F_X10_serveFor μ (xs (i + 1))).1)), (6, .int k1), (0, .ref b), (1, .ref (E.1 0)), (2, .ref (E.1 24)), (3, .ref (E.1 33)), (4, .ref (E.1 34)), (5, .int (nI i))]) C (Nat.le_of_ble_eq_true rfl) rfl dL_law_1418 ?_
  refine v_aload_n C 4 rfl dL_law_1420 ?_
  refine v_cV1 (rest := []) C mv_RL_145 (m_X10_thrown l G (EO E w) (F_X9_serveFor σ (xs (i + 1))).2 (F_X10_serveFor μ (xs (i + 1))).2 Y) 24 g_24 rfl rfl rfl rfl (Nat.le_of_ble_eq_true rfl) ⟨(Nat.le_of_ble_eq_true rfl), (Nat.le_of_ble_eq_true rfl)⟩ ⟨rfl, rfl⟩ ⟨hc, hs⟩ dL_law_1421 ?_
  refine v_iload C 1 rfl dL_law_1424 ?_
  refine v_icmp_eq (tgt := 1431) C (by decide) dL_law_1426 (fun ht => ?_) (fun ht => absurd (show F_X10_thrown (F_X10_serveFor μ (xs (i + 1))).2 = k1 from S1.symm) ht)
  refine v_iload C 1 rfl dL_law_1431 ?_
  refine v_if_ne (tgt := 1448) C (by decide) dL_law_1433 (fun _ => ?_) (fun hz0 => ?_)
  · refine v_goto (tgt := 2210) C (by decide) dL_law_1448 ?_
    refine v_lv [2, 3, 4, 5, 6, 7] rfl ?_
    exact kk (EO E w) (F_X9_serveFor σ (xs (i + 1))).2 (F_X10_serveFor μ (xs (i + 1))).2 Y rfl (h.step S3 S4 (FX_serveFor h.mok (xs (i + 1))) rfl rfl)
  · have hX0 := hcd_0 (by decide) (hk.trans hz0)
    rw [if_pos hX0] at hw
    have hv := S2 hX0
    refine v_aload_n C 5 rfl dL_law_1436 ?_
    refine v_iconst (v := (0 : Int32)) C (by decide) dL_law_1437 ?_
    refine v_lald (v := w) C 33 g_33 vi_0_1 rfl dL_law_1438 ?_
    refine v_iload C 0 rfl dL_law_1439 ?_
    refine v_i2l C dL_law_1441 ?_
    refine v_lcmp C dL_law_1442 ?_
    refine v_if_eq (tgt := 1448) C (by decide) dL_law_1443 (fun _ => ?_) (fun hq => absurd (by rw [← hw, hv]; exact lg_self _) hq)
    refine v_goto (tgt := 2210) C (by decide) dL_law_1448 ?_
    refine v_lv [2, 3, 4, 5, 6, 7] rfl ?_
    exact kk (EO E w) (F_X9_serveFor σ (xs (i + 1))).2 (F_X10_serveFor μ (xs (i + 1))).2 Y rfl (h.step S3 S4 (FX_serveFor h.mok (xs (i + 1))) rfl rfl)
set_option maxRecDepth 100000 in
set_option maxHeartbeats 2000000 in
theorem st_25 {p : Program} {l : Launch} {e : Env} {s : State} {m : MethodId} {args : Array Value} {below : List Frame} {meth : Method} {c : Code} {G : GG} {A : Nat → Prop} {b L : Nat} {xs : Nat → Int32} {Q : State → Prop} (D : LC p l s m args meth c G A b L xs) {i : Nat} (hi : i + 4 ≤ L) {cells slots : Nat} (hc : cells + 100 ≤ room_1.cells) (hs : slots + 1200 ≤ room_1.slots) {E : EE} {σ μ : Sg} {Y : va_W} (h : LI G E σ μ Y) (kk : ∀ (E' : EE) (σ' μ' : Sg) (Y' : va_W), E'.1 = E.1 → LI G E' σ' μ' Y' → V p l e room_1 s m args below meth c 9 G A (cells + 100) (slots + 1200) Q 2210 [(0, .ref b), (1, .ref (E.1 0)), (2, .ref (E.1 24)), (3, .ref (E.1 33)), (4, .ref (E.1 34)), (5, .int (nI i))] [] (Wd G E' σ' μ' Y')) : V p l e room_1 s m args below meth c 9 G A cells slots Q 1451 [(0, .ref b), (1, .ref (E.1 0)), (2, .ref (E.1 24)), (3, .ref (E.1 33)), (4, .ref (E.1 34)), (5, .int (nI i))] [] (Wd G E σ μ Y) := by
  obtain ⟨C, htr, hF, hX, hbl, hbA, hL⟩ := D
  refine v_aload_n C 1 rfl dL_law_1451 ?_
  refine v_aload_n C 3 rfl dL_law_1452 ?_
  obtain ⟨S1, S2, S3, S4⟩ := S_flush h.1 h.2.1
  refine v_callSH (rest := []) (As := [.ref (E.1 0), .ref (E.1 33)]) C ml_231 (m_L_flush l G E σ μ Y htr) rfl rfl (Nat.le_of_ble_eq_true rfl) ⟨(Nat.le_of_ble_eq_true rfl), (Nat.le_of_ble_eq_true rfl)⟩ ⟨Nat.le_trans (Nat.add_le_add_left (Nat.le_of_ble_eq_true rfl) cells) hc, Nat.le_trans (Nat.add_le_add_left (Nat.le_of_ble_eq_true rfl) slots) hs⟩ dL_law_1453 (fun u hu => ?_)
  refine v_wid (k := cells + 100) (n := slots + 1200) (Nat.add_le_add_left (Nat.le_of_ble_eq_true rfl) cells) (Nat.add_le_add_left (Nat.le_of_ble_eq_true rfl) slots) ?_
  rw [eoif]
  generalize hw : (if (X_X9_flush σ) = 0 then ((F_X9_flush σ).1).toInt64 else E.2.2.2.2.1) = w
  generalize hk : hcd [2] (X_X9_flush σ) = k1 at S1
  refine v_istore (lv' := [(6, .int k1), (0, .ref b), (1, .ref (E.1 0)), (2, .ref (E.1 24)), (3, .ref (E.1 33)), (4, .ref (E.1 34)), (5, .int (nI i))]) C (Nat.le_of_ble_eq_true rfl) rfl dL_law_1456 ?_
  refine v_aload_n C 3 rfl dL_law_1458 ?_
  refine v_cV1 (rest := []) C mv_RL_233 (m_X10_flush l G (EO E w) (F_X9_flush σ).2 μ Y h.mok) 24 g_24 rfl rfl rfl rfl (Nat.le_of_ble_eq_true rfl) ⟨(Nat.le_of_ble_eq_true rfl), (Nat.le_of_ble_eq_true rfl)⟩ ⟨rfl, rfl⟩ ⟨hc, hs⟩ dL_law_1459 ?_
  refine v_istore (lv' := [(7, .int ((F_X10_flush μ).1)), (6, .int k1), (0, .ref b), (1, .ref (E.1 0)), (2, .ref (E.1 24)), (3, .ref (E.1 33)), (4, .ref (E.1 34)), (5, .int (nI i))]) C (Nat.le_of_ble_eq_true rfl) rfl dL_law_1462 ?_
  refine v_aload_n C 4 rfl dL_law_1464 ?_
  refine v_cV1 (rest := []) C mv_RL_145 (m_X10_thrown l G (EO E w) (F_X9_flush σ).2 (F_X10_flush μ).2 Y) 24 g_24 rfl rfl rfl rfl (Nat.le_of_ble_eq_true rfl) ⟨(Nat.le_of_ble_eq_true rfl), (Nat.le_of_ble_eq_true rfl)⟩ ⟨rfl, rfl⟩ ⟨hc, hs⟩ dL_law_1465 ?_
  refine v_iload C 1 rfl dL_law_1468 ?_
  refine v_icmp_eq (tgt := 1475) C (by decide) dL_law_1470 (fun ht => ?_) (fun ht => absurd (show F_X10_thrown (F_X10_flush μ).2 = k1 from S1.symm) ht)
  refine v_iload C 1 rfl dL_law_1475 ?_
  refine v_if_ne (tgt := 1492) C (by decide) dL_law_1477 (fun _ => ?_) (fun hz0 => ?_)
  · refine v_goto (tgt := 2210) C (by decide) dL_law_1492 ?_
    refine v_lv [2, 3, 4, 5, 6, 7] rfl ?_
    exact kk (EO E w) (F_X9_flush σ).2 (F_X10_flush μ).2 Y rfl (h.step S3 S4 (FX_flush h.mok) rfl rfl)
  · have hX0 := hcd_0 (by decide) (hk.trans hz0)
    rw [if_pos hX0] at hw
    have hv := S2 hX0
    refine v_aload_n C 5 rfl dL_law_1480 ?_
    refine v_iconst (v := (0 : Int32)) C (by decide) dL_law_1481 ?_
    refine v_lald (v := w) C 33 g_33 vi_0_1 rfl dL_law_1482 ?_
    refine v_iload C 0 rfl dL_law_1483 ?_
    refine v_i2l C dL_law_1485 ?_
    refine v_lcmp C dL_law_1486 ?_
    refine v_if_eq (tgt := 1492) C (by decide) dL_law_1487 (fun _ => ?_) (fun hq => absurd (by rw [← hw, hv]; exact lg_self _) hq)
    refine v_goto (tgt := 2210) C (by decide) dL_law_1492 ?_
    refine v_lv [2, 3, 4, 5, 6, 7] rfl ?_
    exact kk (EO E w) (F_X9_flush σ).2 (F_X10_flush μ).2 Y rfl (h.step S3 S4 (FX_flush h.mok) rfl rfl)
set_option maxRecDepth 100000 in
set_option maxHeartbeats 2000000 in
theorem st_26 {p : Program} {l : Launch} {e : Env} {s : State} {m : MethodId} {args : Array Value} {below : List Frame} {meth : Method} {c : Code} {G : GG} {A : Nat → Prop} {b L : Nat} {xs : Nat → Int32} {Q : State → Prop} (D : LC p l s m args meth c G A b L xs) {i : Nat} (hi : i + 4 ≤ L) {cells slots : Nat} (hc : cells + 100 ≤ room_1.cells) (hs : slots + 1200 ≤ room_1.slots) {E : EE} {σ μ : Sg} {Y : va_W} (h : LI G E σ μ Y) (kk : ∀ (E' : EE) (σ' μ' : Sg) (Y' : va_W), E'.1 = E.1 → LI G E' σ' μ' Y' → V p l e room_1 s m args below meth c 9 G A (cells + 100) (slots + 1200) Q 2210 [(0, .ref b), (1, .ref (E.1 0)), (2, .ref (E.1 24)), (3, .ref (E.1 33)), (4, .ref (E.1 34)), (5, .int (nI i))] [] (Wd G E' σ' μ' Y')) : V p l e room_1 s m args below meth c 9 G A cells slots Q 1495 [(0, .ref b), (1, .ref (E.1 0)), (2, .ref (E.1 24)), (3, .ref (E.1 33)), (4, .ref (E.1 34)), (5, .int (nI i))] [] (Wd G E σ μ Y) := by
  obtain ⟨C, htr, hF, hX, hbl, hbA, hL⟩ := D
  refine v_aload_n C 1 rfl dL_law_1495 ?_
  refine v_wid (k := cells + 100) (n := slots + 1200) (Nat.le_add_right _ _) (Nat.le_add_right _ _) ?_
  obtain ⟨S1, S3⟩ := S_dirtyBlocks h.1
  refine v_cV1 (rest := []) C mv_RL_234 (m_X9_dirtyBlocks l G E σ μ Y) 0 g_0 rfl rfl rfl rfl (Nat.le_of_ble_eq_true rfl) ⟨(Nat.le_of_ble_eq_true rfl), (Nat.le_of_ble_eq_true rfl)⟩ ⟨rfl, rfl⟩ ⟨hc, hs⟩ dL_law_1496 ?_
  refine v_aload_n C 2 rfl dL_law_1499 ?_
  refine v_cV1 (rest := [.int (F_X9_dirtyBlocks σ)]) C mv_RL_237 (m_X10_dirtyBlocks l G E σ μ Y) 24 g_24 rfl rfl rfl rfl (Nat.le_of_ble_eq_true rfl) ⟨(Nat.le_of_ble_eq_true rfl), (Nat.le_of_ble_eq_true rfl)⟩ ⟨rfl, rfl⟩ ⟨hc, hs⟩ dL_law_1500 ?_
  refine v_icmp_eq (tgt := 2210) C (by decide) dL_law_1503 (fun ht => ?_) (fun ht => absurd S1 ht)
  refine v_lv [0, 1, 2, 3, 4, 5] rfl ?_
  exact kk E σ (F_X10_dirtyBlocks μ).2 Y rfl (h.step S3 (by exact h.2.1) ⟨rfl, rfl, rfl, rfl⟩ rfl rfl)
set_option maxRecDepth 100000 in
set_option maxHeartbeats 2000000 in
theorem st_27 {p : Program} {l : Launch} {e : Env} {s : State} {m : MethodId} {args : Array Value} {below : List Frame} {meth : Method} {c : Code} {G : GG} {A : Nat → Prop} {b L : Nat} {xs : Nat → Int32} {Q : State → Prop} (D : LC p l s m args meth c G A b L xs) {i : Nat} (hi : i + 4 ≤ L) {cells slots : Nat} (hc : cells + 100 ≤ room_1.cells) (hs : slots + 1200 ≤ room_1.slots) {E : EE} {σ μ : Sg} {Y : va_W} (h : LI G E σ μ Y) (kk : ∀ (E' : EE) (σ' μ' : Sg) (Y' : va_W), E'.1 = E.1 → LI G E' σ' μ' Y' → V p l e room_1 s m args below meth c 9 G A (cells + 100) (slots + 1200) Q 2210 [(0, .ref b), (1, .ref (E.1 0)), (2, .ref (E.1 24)), (3, .ref (E.1 33)), (4, .ref (E.1 34)), (5, .int (nI i))] [] (Wd G E' σ' μ' Y')) : V p l e room_1 s m args below meth c 9 G A cells slots Q 1508 [(0, .ref b), (1, .ref (E.1 0)), (2, .ref (E.1 24)), (3, .ref (E.1 33)), (4, .ref (E.1 34)), (5, .int (nI i))] [] (Wd G E σ μ Y) := by
  obtain ⟨C, htr, hF, hX, hbl, hbA, hL⟩ := D
  refine v_aload_n C 1 rfl dL_law_1508 ?_
  refine v_wid (k := cells + 100) (n := slots + 1200) (Nat.le_add_right _ _) (Nat.le_add_right _ _) ?_
  obtain ⟨S1, S3⟩ := S_pendingRequests h.1
  refine v_cV1 (rest := []) C mv_RL_238 (m_X9_pendingRequests l G E σ μ Y) 0 g_0 rfl rfl rfl rfl (Nat.le_of_ble_eq_true rfl) ⟨(Nat.le_of_ble_eq_true rfl), (Nat.le_of_ble_eq_true rfl)⟩ ⟨rfl, rfl⟩ ⟨hc, hs⟩ dL_law_1509 ?_
  refine v_aload_n C 2 rfl dL_law_1512 ?_
  refine v_cV1 (rest := [.int (F_X9_pendingRequests σ)]) C mv_RL_241 (m_X10_pendingRequests l G E σ μ Y h.mok) 24 g_24 rfl rfl rfl rfl (Nat.le_of_ble_eq_true rfl) ⟨(Nat.le_of_ble_eq_true rfl), (Nat.le_of_ble_eq_true rfl)⟩ ⟨rfl, rfl⟩ ⟨hc, hs⟩ dL_law_1513 ?_
  refine v_icmp_eq (tgt := 2210) C (by decide) dL_law_1516 (fun ht => ?_) (fun ht => absurd S1 ht)
  refine v_lv [0, 1, 2, 3, 4, 5] rfl ?_
  exact kk E σ (F_X10_pendingRequests μ).2 Y rfl (h.step S3 (by exact h.2.1) ⟨rfl, rfl, rfl, rfl⟩ rfl rfl)
