def uF (q : List Nat) : Nat → Nat := fun j => q.getD j 0
theorem df_X4 : ∀ j, j < 6 → defaultValue (tyX4 j) = vp_V [.int 0, .int 0, .int 0, .int 0, .int 0, .int 0] j := by
  intro j hj
  rcases (show j = 0 ∨ j = 1 ∨ j = 2 ∨ j = 3 ∨ j = 4 ∨ j = 5 by omega) with rfl | rfl | rfl | rfl | rfl | rfl <;> rfl
abbrev rm_X4_init : Room := { frames := 1, cells := 0, slots := 0, locals := 30 }
def T_X4_init (G : GG) (a : Nat) (n : Int32) (u : Nat → Nat) : va_W := [(a, .inr (3, [.int n, .int 0, .int 0, .int 0, .int 0, .int 0]))]
set_option maxRecDepth 100000 in
set_option maxHeartbeats 400000 in
theorem n_X4_init (l : Launch) (G : GG) (ws : va_W) (a : Nat) (n : Int32) : KE (S := Nat → Nat) l G yX4_init cX4_init 2 none rm_X4_init [.ref a, .int n] (ws ++ [(a, .inr (3, [.int 0, .int 0, .int 0, .int 0, .int 0, .int 0]))]) (fun _ => none) (fun u => ws ++ [(a, .inr (3, [.int n, .int 0, .int 0, .int 0, .int 0, .int 0]))]) (fun _ => True) := by
  refine KE.of (S := Nat → Nat) (by decide) (Nat.le_of_ble_eq_true rfl) ?_
  intro zp ze zs zm za zb zt zc zA C hin
  generalize hQ : MQ zb _ za zs _ _ zA = Q
  show V zp l ze rm_X4_init zs zm za zb zt zc 2 G zA 0 0 Q 0 [(0, .ref a), (1, .int n)] [] (ws ++ [(a, .inr (3, [.int 0, .int 0, .int 0, .int 0, .int 0, .int 0]))])
  refine v_aload_n C 0 rfl dX4_init_0 ?_
  refine v_objI C w_384 (Nat.le_of_ble_eq_true rfl) (Nat.le_of_ble_eq_true rfl) dX4_init_1 ?_
  refine v_aload_n C 0 rfl dX4_init_4 ?_
  refine v_iload_n C 1 rfl dX4_init_5 ?_
  refine v_putF (ws' := ws ++ [(a, .inr (3, [.int n, .int 0, .int 0, .int 0, .int 0, .int 0]))]) C hin fp_RX4_9 (ws.length + 0) (gA 0 rfl) rfl rfl (Nat.le_of_ble_eq_true rfl) (pA 0 _) dX4_init_6 ?_
  exact v_Q hQ (v_vret C (uF []) trivial rfl rfl (Nat.le_of_ble_eq_true rfl) (Nat.le_of_ble_eq_true rfl) dX4_init_9)
theorem df_X1 : ∀ j, j < 13 → defaultValue (tyX1 j) = vp_V [.int 0, .int 0, .int 0, .int 0, .int 0, .int 0, .int 0, .int 0, .int 0, .int 0, .int 0, .null, .null] j := by
  intro j hj
  rcases (show j = 0 ∨ j = 1 ∨ j = 2 ∨ j = 3 ∨ j = 4 ∨ j = 5 ∨ j = 6 ∨ j = 7 ∨ j = 8 ∨ j = 9 ∨ j = 10 ∨ j = 11 ∨ j = 12 by omega) with rfl | rfl | rfl | rfl | rfl | rfl | rfl | rfl | rfl | rfl | rfl | rfl | rfl <;> rfl
abbrev rm_X1_init : Room := { frames := 1, cells := 2, slots := 580, locals := 30 }
def T_X1_init (G : GG) (a : Nat) (u : Nat → Nat) : va_W := [(a, .inr (1, [.int (10 : Int32), .int (4 : Int32), .int (1 : Int32), .int 0, .int 0, .int 0, .int 0, .int 0, .int 0, .int 0, .int 0, .ref (u 0), .ref (u 1)])), ((u 0), .inl (G.2 0, 4, .inl (fun _ => 0))), ((u 1), .inl (G.2 0, 576, .inl (fun _ => 0)))]
set_option maxRecDepth 100000 in
set_option maxHeartbeats 400000 in
theorem n_X1_init (l : Launch) (G : GG) (ws : va_W) (a : Nat) : KE (S := Nat → Nat) l G yX1_init cX1_init 1 none rm_X1_init [.ref a] (ws ++ [(a, .inr (1, [.int 0, .int 0, .int 0, .int 0, .int 0, .int 0, .int 0, .int 0, .int 0, .int 0, .int 0, .null, .null]))]) (fun _ => none) (fun u => ws ++ [(a, .inr (1, [.int (10 : Int32), .int (4 : Int32), .int (1 : Int32), .int 0, .int 0, .int 0, .int 0, .int 0, .int 0, .int 0, .int 0, .ref (u 0), .ref (u 1)])), ((u 0), .inl (G.2 0, 4, .inl (fun _ => 0))), ((u 1), .inl (G.2 0, 576, .inl (fun _ => 0)))]) (fun _ => True) := by
  refine KE.of (S := Nat → Nat) (by decide) (Nat.le_of_ble_eq_true rfl) ?_
  intro zp ze zs zm za zb zt zc zA C hin
  generalize hQ : MQ zb _ za zs _ _ zA = Q
  show V zp l ze rm_X1_init zs zm za zb zt zc 1 G zA 0 0 Q 0 [(0, .ref a)] [] (ws ++ [(a, .inr (1, [.int 0, .int 0, .int 0, .int 0, .int 0, .int 0, .int 0, .int 0, .int 0, .int 0, .int 0, .null, .null]))])
  refine v_aload_n C 0 rfl dX1_init_0 ?_
  refine v_objI C w_92 (Nat.le_of_ble_eq_true rfl) (Nat.le_of_ble_eq_true rfl) dX1_init_1 ?_
  refine v_aload_n C 0 rfl dX1_init_4 ?_
  refine v_bipush (v := (10 : Int32)) C (by decide) dX1_init_5 ?_
  refine v_put (ws' := ws ++ [(a, .inr (1, [.int (10 : Int32), .int 0, .int 0, .int 0, .int 0, .int 0, .int 0, .int 0, .int 0, .int 0, .int 0, .null, .null]))]) C fp_RX1_9 (ws.length + 0) (gA 0 rfl) rfl rfl (Nat.le_of_ble_eq_true rfl) (pA 0 _) dX1_init_7 ?_
  refine v_aload_n C 0 rfl dX1_init_10 ?_
  refine v_iconst (v := (4 : Int32)) C (by decide) dX1_init_11 ?_
  refine v_put (ws' := ws ++ [(a, .inr (1, [.int (10 : Int32), .int (4 : Int32), .int 0, .int 0, .int 0, .int 0, .int 0, .int 0, .int 0, .int 0, .int 0, .null, .null]))]) C fp_RX1_15 (ws.length + 0) (gA 0 rfl) rfl rfl (Nat.le_of_ble_eq_true rfl) (pA 0 _) dX1_init_12 ?_
  refine v_aload_n C 0 rfl dX1_init_15 ?_
  refine v_iconst (v := (1 : Int32)) C (by decide) dX1_init_16 ?_
  refine v_put (ws' := ws ++ [(a, .inr (1, [.int (10 : Int32), .int (4 : Int32), .int (1 : Int32), .int 0, .int 0, .int 0, .int 0, .int 0, .int 0, .int 0, .int 0, .null, .null]))]) C fp_RX1_18 (ws.length + 0) (gA 0 rfl) rfl rfl (Nat.le_of_ble_eq_true rfl) (pA 0 _) dX1_init_17 ?_
  refine v_aload_n C 0 rfl dX1_init_20 ?_
  refine v_iconst (v := (4 : Int32)) C (by decide) dX1_init_21 ?_
  refine v_newa (atype := .int) (a0 := (4, .inl (fun _ => 0))) (N := 4) C 0 w_150 rfl rfl RAn_int (fun _ => rfl) (by decide) (by decide) (by decide) (Nat.le_of_ble_eq_true rfl) (Nat.le_of_ble_eq_true rfl) dX1_init_22 (fun q1 => ?_)
  refine v_eqw (List.append_assoc _ _ _) ?_
  show V zp l ze _ zs zm za zb zt zc _ G zA _ _ Q _ _ _ (ws ++ [(a, .inr (1, [.int (10 : Int32), .int (4 : Int32), .int (1 : Int32), .int 0, .int 0, .int 0, .int 0, .int 0, .int 0, .int 0, .int 0, .null, .null])), (q1, .inl (G.2 0, 4, .inl (fun _ => 0)))])
  refine v_putF (ws' := ws ++ [(a, .inr (1, [.int (10 : Int32), .int (4 : Int32), .int (1 : Int32), .int 0, .int 0, .int 0, .int 0, .int 0, .int 0, .int 0, .int 0, .ref q1, .null])), (q1, .inl (G.2 0, 4, .inl (fun _ => 0)))]) C hin fp_RX1_21 (ws.length + 0) (gA 0 rfl) rfl rfl (Nat.le_of_ble_eq_true rfl) (pA 0 _) dX1_init_24 ?_
  refine v_aload_n C 0 rfl dX1_init_27 ?_
  refine v_sipush (v := (576 : Int32)) C (by decide) dX1_init_28 ?_
  refine v_newa (atype := .int) (a0 := (576, .inl (fun _ => 0))) (N := 576) C 0 w_150 rfl rfl RAn_int (fun _ => rfl) (by decide) (by decide) (by decide) (Nat.le_of_ble_eq_true rfl) (Nat.le_of_ble_eq_true rfl) dX1_init_31 (fun q2 => ?_)
  refine v_eqw (List.append_assoc _ _ _) ?_
  show V zp l ze _ zs zm za zb zt zc _ G zA _ _ Q _ _ _ (ws ++ [(a, .inr (1, [.int (10 : Int32), .int (4 : Int32), .int (1 : Int32), .int 0, .int 0, .int 0, .int 0, .int 0, .int 0, .int 0, .int 0, .ref q1, .null])), (q1, .inl (G.2 0, 4, .inl (fun _ => 0))), (q2, .inl (G.2 0, 576, .inl (fun _ => 0)))])
  refine v_putF (ws' := ws ++ [(a, .inr (1, [.int (10 : Int32), .int (4 : Int32), .int (1 : Int32), .int 0, .int 0, .int 0, .int 0, .int 0, .int 0, .int 0, .int 0, .ref q1, .ref q2])), (q1, .inl (G.2 0, 4, .inl (fun _ => 0))), (q2, .inl (G.2 0, 576, .inl (fun _ => 0)))]) C hin fp_RX1_25 (ws.length + 0) (gA 0 rfl) rfl rfl (Nat.le_of_ble_eq_true rfl) (pA 0 _) dX1_init_33 ?_
  exact v_Q hQ (v_vret C (uF [q1, q2]) trivial rfl rfl (Nat.le_of_ble_eq_true rfl) (Nat.le_of_ble_eq_true rfl) dX1_init_36)
theorem df_X6 : ∀ j, j < 3 → defaultValue (tyX6 j) = vp_V [.int 0, .int 0, .null] j := by
  intro j hj
  rcases (show j = 0 ∨ j = 1 ∨ j = 2 by omega) with rfl | rfl | rfl <;> rfl
abbrev rm_X6_init : Room := { frames := 1, cells := 1, slots := 80, locals := 30 }
def T_X6_init (G : GG) (a : Nat) (u : Nat → Nat) : va_W := [(a, .inr (5, [.int 0, .int 0, .ref (u 0)])), ((u 0), .inl (G.2 2, 80, .inr (.inr (.inr (.inr (fun _ => none))))))]
set_option maxRecDepth 100000 in
set_option maxHeartbeats 400000 in
theorem n_X6_init (l : Launch) (G : GG) (ws : va_W) (a : Nat) : KE (S := Nat → Nat) l G yX6_init cX6_init 1 none rm_X6_init [.ref a] (ws ++ [(a, .inr (5, [.int 0, .int 0, .null]))]) (fun _ => none) (fun u => ws ++ [(a, .inr (5, [.int 0, .int 0, .ref (u 0)])), ((u 0), .inl (G.2 2, 80, .inr (.inr (.inr (.inr (fun _ => none))))))]) (fun _ => True) := by
  refine KE.of (S := Nat → Nat) (by decide) (Nat.le_of_ble_eq_true rfl) ?_
  intro zp ze zs zm za zb zt zc zA C hin
  generalize hQ : MQ zb _ za zs _ _ zA = Q
  show V zp l ze rm_X6_init zs zm za zb zt zc 1 G zA 0 0 Q 0 [(0, .ref a)] [] (ws ++ [(a, .inr (5, [.int 0, .int 0, .null]))])
  refine v_aload_n C 0 rfl dX6_init_0 ?_
  refine v_objI C w_156 (Nat.le_of_ble_eq_true rfl) (Nat.le_of_ble_eq_true rfl) dX6_init_1 ?_
  refine v_aload_n C 0 rfl dX6_init_4 ?_
  refine v_bipush (v := (80 : Int32)) C (by decide) dX6_init_5 ?_
  refine v_newq (N := 80) C w_157 (by decide) (by decide) (by decide) (Nat.le_of_ble_eq_true rfl) (Nat.le_of_ble_eq_true rfl) dX6_init_7 (fun q1 => ?_)
  refine v_eqw (List.append_assoc _ _ _) ?_
  show V zp l ze _ zs zm za zb zt zc _ G zA _ _ Q _ _ _ (ws ++ [(a, .inr (5, [.int 0, .int 0, .null])), (q1, .inl (G.2 2, 80, .inr (.inr (.inr (.inr (fun _ => none))))))])
  refine v_putF (ws' := ws ++ [(a, .inr (5, [.int 0, .int 0, .ref q1])), (q1, .inl (G.2 2, 80, .inr (.inr (.inr (.inr (fun _ => none))))))]) C hin fp_RX6_11 (ws.length + 0) (gA 0 rfl) rfl rfl (Nat.le_of_ble_eq_true rfl) (pA 0 _) dX6_init_10 ?_
  exact v_Q hQ (v_vret C (uF [q1]) trivial rfl rfl (Nat.le_of_ble_eq_true rfl) (Nat.le_of_ble_eq_true rfl) dX6_init_13)
theorem df_X7 : ∀ j, j < 4 → defaultValue (tyX7 j) = vp_V [.int 0, .int 0, .int 0, .int 0] j := by
  intro j hj
  rcases (show j = 0 ∨ j = 1 ∨ j = 2 ∨ j = 3 by omega) with rfl | rfl | rfl | rfl <;> rfl
abbrev rm_X7_init : Room := { frames := 1, cells := 0, slots := 0, locals := 30 }
def T_X7_init (G : GG) (a : Nat) (u : Nat → Nat) : va_W := [(a, .inr (6, [.int 0, .int (1 : Int32), .int (200 : Int32), .int (1000 : Int32)]))]
set_option maxRecDepth 100000 in
set_option maxHeartbeats 400000 in
theorem n_X7_init (l : Launch) (G : GG) (ws : va_W) (a : Nat) : KE (S := Nat → Nat) l G yX7_init cX7_init 1 none rm_X7_init [.ref a] (ws ++ [(a, .inr (6, [.int 0, .int 0, .int 0, .int 0]))]) (fun _ => none) (fun u => ws ++ [(a, .inr (6, [.int 0, .int (1 : Int32), .int (200 : Int32), .int (1000 : Int32)]))]) (fun _ => True) := by
  refine KE.of (S := Nat → Nat) (by decide) (Nat.le_of_ble_eq_true rfl) ?_
  intro zp ze zs zm za zb zt zc zA C hin
  generalize hQ : MQ zb _ za zs _ _ zA = Q
  show V zp l ze rm_X7_init zs zm za zb zt zc 1 G zA 0 0 Q 0 [(0, .ref a)] [] (ws ++ [(a, .inr (6, [.int 0, .int 0, .int 0, .int 0]))])
  refine v_aload_n C 0 rfl dX7_init_0 ?_
  refine v_objI C w_179 (Nat.le_of_ble_eq_true rfl) (Nat.le_of_ble_eq_true rfl) dX7_init_1 ?_
  refine v_aload_n C 0 rfl dX7_init_4 ?_
  refine v_iconst (v := (1 : Int32)) C (by decide) dX7_init_5 ?_
  refine v_put (ws' := ws ++ [(a, .inr (6, [.int 0, .int (1 : Int32), .int 0, .int 0]))]) C fp_RX7_9 (ws.length + 0) (gA 0 rfl) rfl rfl (Nat.le_of_ble_eq_true rfl) (pA 0 _) dX7_init_6 ?_
  refine v_aload_n C 0 rfl dX7_init_9 ?_
  refine v_sipush (v := (200 : Int32)) C (by decide) dX7_init_10 ?_
  refine v_put (ws' := ws ++ [(a, .inr (6, [.int 0, .int (1 : Int32), .int (200 : Int32), .int 0]))]) C fp_RX7_15 (ws.length + 0) (gA 0 rfl) rfl rfl (Nat.le_of_ble_eq_true rfl) (pA 0 _) dX7_init_13 ?_
  refine v_aload_n C 0 rfl dX7_init_16 ?_
  refine v_sipush (v := (1000 : Int32)) C (by decide) dX7_init_17 ?_
  refine v_put (ws' := ws ++ [(a, .inr (6, [.int 0, .int (1 : Int32), .int (200 : Int32), .int (1000 : Int32)]))]) C fp_RX7_19 (ws.length + 0) (gA 0 rfl) rfl rfl (Nat.le_of_ble_eq_true rfl) (pA 0 _) dX7_init_20 ?_
  exact v_Q hQ (v_vret C (uF []) trivial rfl rfl (Nat.le_of_ble_eq_true rfl) (Nat.le_of_ble_eq_true rfl) dX7_init_23)
theorem df_X0 : ∀ j, j < 3 → defaultValue (tyX0 j) = vp_V [.int 0, .int 0, .null] j := by
  intro j hj
  rcases (show j = 0 ∨ j = 1 ∨ j = 2 by omega) with rfl | rfl | rfl <;> rfl
abbrev rm_X0_init : Room := { frames := 1, cells := 1, slots := 8, locals := 30 }
def T_X0_init (G : GG) (a : Nat) (u : Nat → Nat) : va_W := [(a, .inr (0, [.int 0, .int 0, .ref (u 0)])), ((u 0), .inl (G.2 0, 8, .inl (fun _ => 0)))]
set_option maxRecDepth 100000 in
set_option maxHeartbeats 400000 in
theorem n_X0_init (l : Launch) (G : GG) (ws : va_W) (a : Nat) : KE (S := Nat → Nat) l G yX0_init cX0_init 1 none rm_X0_init [.ref a] (ws ++ [(a, .inr (0, [.int 0, .int 0, .null]))]) (fun _ => none) (fun u => ws ++ [(a, .inr (0, [.int 0, .int 0, .ref (u 0)])), ((u 0), .inl (G.2 0, 8, .inl (fun _ => 0)))]) (fun _ => True) := by
  refine KE.of (S := Nat → Nat) (by decide) (Nat.le_of_ble_eq_true rfl) ?_
  intro zp ze zs zm za zb zt zc zA C hin
  generalize hQ : MQ zb _ za zs _ _ zA = Q
  show V zp l ze rm_X0_init zs zm za zb zt zc 1 G zA 0 0 Q 0 [(0, .ref a)] [] (ws ++ [(a, .inr (0, [.int 0, .int 0, .null]))])
  refine v_aload_n C 0 rfl dX0_init_0 ?_
  refine v_objI C w_202 (Nat.le_of_ble_eq_true rfl) (Nat.le_of_ble_eq_true rfl) dX0_init_1 ?_
  refine v_aload_n C 0 rfl dX0_init_4 ?_
  refine v_bipush (v := (8 : Int32)) C (by decide) dX0_init_5 ?_
  refine v_newa (atype := .int) (a0 := (8, .inl (fun _ => 0))) (N := 8) C 0 w_150 rfl rfl RAn_int (fun _ => rfl) (by decide) (by decide) (by decide) (Nat.le_of_ble_eq_true rfl) (Nat.le_of_ble_eq_true rfl) dX0_init_7 (fun q1 => ?_)
  refine v_eqw (List.append_assoc _ _ _) ?_
  show V zp l ze _ zs zm za zb zt zc _ G zA _ _ Q _ _ _ (ws ++ [(a, .inr (0, [.int 0, .int 0, .null])), (q1, .inl (G.2 0, 8, .inl (fun _ => 0)))])
  refine v_putF (ws' := ws ++ [(a, .inr (0, [.int 0, .int 0, .ref q1])), (q1, .inl (G.2 0, 8, .inl (fun _ => 0)))]) C hin fp_RX0_9 (ws.length + 0) (gA 0 rfl) rfl rfl (Nat.le_of_ble_eq_true rfl) (pA 0 _) dX0_init_9 ?_
  exact v_Q hQ (v_vret C (uF [q1]) trivial rfl rfl (Nat.le_of_ble_eq_true rfl) (Nat.le_of_ble_eq_true rfl) dX0_init_12)
theorem df_X8 : ∀ j, j < 4 → defaultValue (tyX8 j) = vp_V [.null, .null, .null, .null] j := by
  intro j hj
  rcases (show j = 0 ∨ j = 1 ∨ j = 2 ∨ j = 3 by omega) with rfl | rfl | rfl | rfl <;> rfl
abbrev rm_X8_init : Room := { frames := 2, cells := 8, slots := 691, locals := 50 }
def T_X8_init (G : GG) (a : Nat) (u : Nat → Nat) : va_W := [(a, .inr (7, [.ref (u 0), .ref (u 3), .ref (u 5), .ref (u 6)])), ((u 0), .inr (1, [.int (10 : Int32), .int (4 : Int32), .int (1 : Int32), .int 0, .int 0, .int 0, .int 0, .int 0, .int 0, .int 0, .int 0, .ref (u 1), .ref (u 2)])), ((u 1), .inl (G.2 0, 4, .inl (fun _ => 0))), ((u 2), .inl (G.2 0, 576, .inl (fun _ => 0))), ((u 3), .inr (5, [.int 0, .int 0, .ref (u 4)])), ((u 4), .inl (G.2 2, 80, .inr (.inr (.inr (.inr (fun _ => none)))))), ((u 5), .inr (6, [.int 0, .int (1 : Int32), .int (200 : Int32), .int (1000 : Int32)])), ((u 6), .inr (0, [.int 0, .int 0, .ref (u 7)])), ((u 7), .inl (G.2 0, 8, .inl (fun _ => 0)))]
set_option maxRecDepth 100000 in
set_option maxHeartbeats 400000 in
theorem n_X8_init (l : Launch) (G : GG) (ws : va_W) (a : Nat) : KE (S := Nat → Nat) l G yX8_init cX8_init 1 none rm_X8_init [.ref a] (ws ++ [(a, .inr (7, [.null, .null, .null, .null]))]) (fun _ => none) (fun u => ws ++ [(a, .inr (7, [.ref (u 0), .ref (u 3), .ref (u 5), .ref (u 6)])), ((u 0), .inr (1, [.int (10 : Int32), .int (4 : Int32), .int (1 : Int32), .int 0, .int 0, .int 0, .int 0, .int 0, .int 0, .int 0, .int 0, .ref (u 1), .ref (u 2)])), ((u 1), .inl (G.2 0, 4, .inl (fun _ => 0))), ((u 2), .inl (G.2 0, 576, .inl (fun _ => 0))), ((u 3), .inr (5, [.int 0, .int 0, .ref (u 4)])), ((u 4), .inl (G.2 2, 80, .inr (.inr (.inr (.inr (fun _ => none)))))), ((u 5), .inr (6, [.int 0, .int (1 : Int32), .int (200 : Int32), .int (1000 : Int32)])), ((u 6), .inr (0, [.int 0, .int 0, .ref (u 7)])), ((u 7), .inl (G.2 0, 8, .inl (fun _ => 0)))]) (fun _ => True) := by
  refine KE.of (S := Nat → Nat) (by decide) (Nat.le_of_ble_eq_true rfl) ?_
  intro zp ze zs zm za zb zt zc zA C hin
  generalize hQ : MQ zb _ za zs _ _ zA = Q
  show V zp l ze rm_X8_init zs zm za zb zt zc 1 G zA 0 0 Q 0 [(0, .ref a)] [] (ws ++ [(a, .inr (7, [.null, .null, .null, .null]))])
  refine v_aload_n C 0 rfl dX8_init_0 ?_
  refine v_objI C w_86 (Nat.le_of_ble_eq_true rfl) (Nat.le_of_ble_eq_true rfl) dX8_init_1 ?_
  refine v_aload_n C 0 rfl dX8_init_4 ?_
  refine v_new (ci := 1) (fs := [.int 0, .int 0, .int 0, .int 0, .int 0, .int 0, .int 0, .int 0, .int 0, .int 0, .int 0, .null, .null]) C tyX1 rfl lay_X1 tyX1_ok w_87 w_88 w_51 df_X1 (Nat.le_of_ble_eq_true rfl) (Nat.le_of_ble_eq_true rfl) dX8_init_5 (fun q1 => ?_)
  refine v_dup C rfl dX8_init_8 ?_
  refine v_callIN (rest := [.ref q1, .ref a]) C (List.mem_of_getElem? (i := 1) rfl) w_90 w_51 w_91 rfl ⟨by decide +kernel, by decide +kernel, by decide +kernel⟩ (n_X1_init l G (ws ++ [(a, .inr (7, [.null, .null, .null, .null]))]) q1) rfl rfl (Nat.le_of_ble_eq_true rfl) ⟨(Nat.le_of_ble_eq_true rfl), (Nat.le_of_ble_eq_true rfl)⟩ ⟨(Nat.le_of_ble_eq_true rfl), (Nat.le_of_ble_eq_true rfl)⟩ dX8_init_9 (fun u1 _ => ?_)
  refine v_eqw (List.append_assoc _ _ _) ?_
  show V zp l ze _ zs zm za zb zt zc _ G zA _ _ Q _ _ _ (ws ++ [(a, .inr (7, [.null, .null, .null, .null])), (q1, .inr (1, [.int (10 : Int32), .int (4 : Int32), .int (1 : Int32), .int 0, .int 0, .int 0, .int 0, .int 0, .int 0, .int 0, .int 0, .ref (u1 0), .ref (u1 1)])), ((u1 0), .inl (G.2 0, 4, .inl (fun _ => 0))), ((u1 1), .inl (G.2 0, 576, .inl (fun _ => 0)))])
  refine v_putF (ws' := ws ++ [(a, .inr (7, [.ref q1, .null, .null, .null])), (q1, .inr (1, [.int (10 : Int32), .int (4 : Int32), .int (1 : Int32), .int 0, .int 0, .int 0, .int 0, .int 0, .int 0, .int 0, .int 0, .ref (u1 0), .ref (u1 1)])), ((u1 0), .inl (G.2 0, 4, .inl (fun _ => 0))), ((u1 1), .inl (G.2 0, 576, .inl (fun _ => 0)))]) C hin fp_RX8_12 (ws.length + 0) (gA 0 rfl) rfl rfl (Nat.le_of_ble_eq_true rfl) (pA 0 _) dX8_init_12 ?_
  refine v_aload_n C 0 rfl dX8_init_15 ?_
  refine v_new (ci := 5) (fs := [.int 0, .int 0, .null]) C tyX6 rfl lay_X6 tyX6_ok w_151 w_152 w_52 df_X6 (Nat.le_of_ble_eq_true rfl) (Nat.le_of_ble_eq_true rfl) dX8_init_16 (fun q4 => ?_)
  refine v_dup C rfl dX8_init_19 ?_
  refine v_callIN (rest := [.ref q4, .ref a]) C (List.mem_of_getElem? (i := 2) rfl) w_154 w_52 w_155 rfl ⟨by decide +kernel, by decide +kernel, by decide +kernel⟩ (n_X6_init l G (ws ++ [(a, .inr (7, [.ref q1, .null, .null, .null])), (q1, .inr (1, [.int (10 : Int32), .int (4 : Int32), .int (1 : Int32), .int 0, .int 0, .int 0, .int 0, .int 0, .int 0, .int 0, .int 0, .ref (u1 0), .ref (u1 1)])), ((u1 0), .inl (G.2 0, 4, .inl (fun _ => 0))), ((u1 1), .inl (G.2 0, 576, .inl (fun _ => 0)))]) q4) rfl rfl (Nat.le_of_ble_eq_true rfl) ⟨(Nat.le_of_ble_eq_true rfl), (Nat.le_of_ble_eq_true rfl)⟩ ⟨(Nat.le_of_ble_eq_true rfl), (Nat.le_of_ble_eq_true rfl)⟩ dX8_init_20 (fun u4 _ => ?_)
  refine v_eqw (List.append_assoc _ _ _) ?_
  show V zp l ze _ zs zm za zb zt zc _ G zA _ _ Q _ _ _ (ws ++ [(a, .inr (7, [.ref q1, .null, .null, .null])), (q1, .inr (1, [.int (10 : Int32), .int (4 : Int32), .int (1 : Int32), .int 0, .int 0, .int 0, .int 0, .int 0, .int 0, .int 0, .int 0, .ref (u1 0), .ref (u1 1)])), ((u1 0), .inl (G.2 0, 4, .inl (fun _ => 0))), ((u1 1), .inl (G.2 0, 576, .inl (fun _ => 0))), (q4, .inr (5, [.int 0, .int 0, .ref (u4 0)])), ((u4 0), .inl (G.2 2, 80, .inr (.inr (.inr (.inr (fun _ => none))))))])
  refine v_putF (ws' := ws ++ [(a, .inr (7, [.ref q1, .ref q4, .null, .null])), (q1, .inr (1, [.int (10 : Int32), .int (4 : Int32), .int (1 : Int32), .int 0, .int 0, .int 0, .int 0, .int 0, .int 0, .int 0, .int 0, .ref (u1 0), .ref (u1 1)])), ((u1 0), .inl (G.2 0, 4, .inl (fun _ => 0))), ((u1 1), .inl (G.2 0, 576, .inl (fun _ => 0))), (q4, .inr (5, [.int 0, .int 0, .ref (u4 0)])), ((u4 0), .inl (G.2 2, 80, .inr (.inr (.inr (.inr (fun _ => none))))))]) C hin fp_RX8_21 (ws.length + 0) (gA 0 rfl) rfl rfl (Nat.le_of_ble_eq_true rfl) (pA 0 _) dX8_init_23 ?_
  refine v_aload_n C 0 rfl dX8_init_26 ?_
  refine v_new (ci := 6) (fs := [.int 0, .int 0, .int 0, .int 0]) C tyX7 rfl lay_X7 tyX7_ok w_174 w_175 w_53 df_X7 (Nat.le_of_ble_eq_true rfl) (Nat.le_of_ble_eq_true rfl) dX8_init_27 (fun q6 => ?_)
  refine v_dup C rfl dX8_init_30 ?_
  refine v_callIN (rest := [.ref q6, .ref a]) C (List.mem_of_getElem? (i := 3) rfl) w_177 w_53 w_178 rfl ⟨by decide +kernel, by decide +kernel, by decide +kernel⟩ (n_X7_init l G (ws ++ [(a, .inr (7, [.ref q1, .ref q4, .null, .null])), (q1, .inr (1, [.int (10 : Int32), .int (4 : Int32), .int (1 : Int32), .int 0, .int 0, .int 0, .int 0, .int 0, .int 0, .int 0, .int 0, .ref (u1 0), .ref (u1 1)])), ((u1 0), .inl (G.2 0, 4, .inl (fun _ => 0))), ((u1 1), .inl (G.2 0, 576, .inl (fun _ => 0))), (q4, .inr (5, [.int 0, .int 0, .ref (u4 0)])), ((u4 0), .inl (G.2 2, 80, .inr (.inr (.inr (.inr (fun _ => none))))))]) q6) rfl rfl (Nat.le_of_ble_eq_true rfl) ⟨(Nat.le_of_ble_eq_true rfl), (Nat.le_of_ble_eq_true rfl)⟩ ⟨(Nat.le_of_ble_eq_true rfl), (Nat.le_of_ble_eq_true rfl)⟩ dX8_init_31 (fun u6 _ => ?_)
  refine v_eqw (List.append_assoc _ _ _) ?_
  show V zp l ze _ zs zm za zb zt zc _ G zA _ _ Q _ _ _ (ws ++ [(a, .inr (7, [.ref q1, .ref q4, .null, .null])), (q1, .inr (1, [.int (10 : Int32), .int (4 : Int32), .int (1 : Int32), .int 0, .int 0, .int 0, .int 0, .int 0, .int 0, .int 0, .int 0, .ref (u1 0), .ref (u1 1)])), ((u1 0), .inl (G.2 0, 4, .inl (fun _ => 0))), ((u1 1), .inl (G.2 0, 576, .inl (fun _ => 0))), (q4, .inr (5, [.int 0, .int 0, .ref (u4 0)])), ((u4 0), .inl (G.2 2, 80, .inr (.inr (.inr (.inr (fun _ => none)))))), (q6, .inr (6, [.int 0, .int (1 : Int32), .int (200 : Int32), .int (1000 : Int32)]))])
  refine v_putF (ws' := ws ++ [(a, .inr (7, [.ref q1, .ref q4, .ref q6, .null])), (q1, .inr (1, [.int (10 : Int32), .int (4 : Int32), .int (1 : Int32), .int 0, .int 0, .int 0, .int 0, .int 0, .int 0, .int 0, .int 0, .ref (u1 0), .ref (u1 1)])), ((u1 0), .inl (G.2 0, 4, .inl (fun _ => 0))), ((u1 1), .inl (G.2 0, 576, .inl (fun _ => 0))), (q4, .inr (5, [.int 0, .int 0, .ref (u4 0)])), ((u4 0), .inl (G.2 2, 80, .inr (.inr (.inr (.inr (fun _ => none)))))), (q6, .inr (6, [.int 0, .int (1 : Int32), .int (200 : Int32), .int (1000 : Int32)]))]) C hin fp_RX8_28 (ws.length + 0) (gA 0 rfl) rfl rfl (Nat.le_of_ble_eq_true rfl) (pA 0 _) dX8_init_34 ?_
  refine v_aload_n C 0 rfl dX8_init_37 ?_
  refine v_new (ci := 0) (fs := [.int 0, .int 0, .null]) C tyX0 rfl lay_X0 tyX0_ok w_197 w_198 w_54 df_X0 (Nat.le_of_ble_eq_true rfl) (Nat.le_of_ble_eq_true rfl) dX8_init_38 (fun q7 => ?_)
  refine v_dup C rfl dX8_init_41 ?_
  refine v_callIN (rest := [.ref q7, .ref a]) C (List.mem_of_getElem? (i := 4) rfl) w_200 w_54 w_201 rfl ⟨by decide +kernel, by decide +kernel, by decide +kernel⟩ (n_X0_init l G (ws ++ [(a, .inr (7, [.ref q1, .ref q4, .ref q6, .null])), (q1, .inr (1, [.int (10 : Int32), .int (4 : Int32), .int (1 : Int32), .int 0, .int 0, .int 0, .int 0, .int 0, .int 0, .int 0, .int 0, .ref (u1 0), .ref (u1 1)])), ((u1 0), .inl (G.2 0, 4, .inl (fun _ => 0))), ((u1 1), .inl (G.2 0, 576, .inl (fun _ => 0))), (q4, .inr (5, [.int 0, .int 0, .ref (u4 0)])), ((u4 0), .inl (G.2 2, 80, .inr (.inr (.inr (.inr (fun _ => none)))))), (q6, .inr (6, [.int 0, .int (1 : Int32), .int (200 : Int32), .int (1000 : Int32)]))]) q7) rfl rfl (Nat.le_of_ble_eq_true rfl) ⟨(Nat.le_of_ble_eq_true rfl), (Nat.le_of_ble_eq_true rfl)⟩ ⟨(Nat.le_of_ble_eq_true rfl), (Nat.le_of_ble_eq_true rfl)⟩ dX8_init_42 (fun u7 _ => ?_)
  refine v_eqw (List.append_assoc _ _ _) ?_
  show V zp l ze _ zs zm za zb zt zc _ G zA _ _ Q _ _ _ (ws ++ [(a, .inr (7, [.ref q1, .ref q4, .ref q6, .null])), (q1, .inr (1, [.int (10 : Int32), .int (4 : Int32), .int (1 : Int32), .int 0, .int 0, .int 0, .int 0, .int 0, .int 0, .int 0, .int 0, .ref (u1 0), .ref (u1 1)])), ((u1 0), .inl (G.2 0, 4, .inl (fun _ => 0))), ((u1 1), .inl (G.2 0, 576, .inl (fun _ => 0))), (q4, .inr (5, [.int 0, .int 0, .ref (u4 0)])), ((u4 0), .inl (G.2 2, 80, .inr (.inr (.inr (.inr (fun _ => none)))))), (q6, .inr (6, [.int 0, .int (1 : Int32), .int (200 : Int32), .int (1000 : Int32)])), (q7, .inr (0, [.int 0, .int 0, .ref (u7 0)])), ((u7 0), .inl (G.2 0, 8, .inl (fun _ => 0)))])
  refine v_putF (ws' := ws ++ [(a, .inr (7, [.ref q1, .ref q4, .ref q6, .ref q7])), (q1, .inr (1, [.int (10 : Int32), .int (4 : Int32), .int (1 : Int32), .int 0, .int 0, .int 0, .int 0, .int 0, .int 0, .int 0, .int 0, .ref (u1 0), .ref (u1 1)])), ((u1 0), .inl (G.2 0, 4, .inl (fun _ => 0))), ((u1 1), .inl (G.2 0, 576, .inl (fun _ => 0))), (q4, .inr (5, [.int 0, .int 0, .ref (u4 0)])), ((u4 0), .inl (G.2 2, 80, .inr (.inr (.inr (.inr (fun _ => none)))))), (q6, .inr (6, [.int 0, .int (1 : Int32), .int (200 : Int32), .int (1000 : Int32)])), (q7, .inr (0, [.int 0, .int 0, .ref (u7 0)])), ((u7 0), .inl (G.2 0, 8, .inl (fun _ => 0)))]) C hin fp_RX8_35 (ws.length + 0) (gA 0 rfl) rfl rfl (Nat.le_of_ble_eq_true rfl) (pA 0 _) dX8_init_45 ?_
  exact v_Q hQ (v_vret C (uF [q1, (u1 0), (u1 1), q4, (u4 0), q6, q7, (u7 0)]) trivial rfl rfl (Nat.le_of_ble_eq_true rfl) (Nat.le_of_ble_eq_true rfl) dX8_init_48)
theorem df_X3 : ∀ j, j < 10 → defaultValue (tyX3 j) = vp_V [.int 0, .int 0, .null, .null, .null, .null, .null, .null, .null, .null] j := by
  intro j hj
  rcases (show j = 0 ∨ j = 1 ∨ j = 2 ∨ j = 3 ∨ j = 4 ∨ j = 5 ∨ j = 6 ∨ j = 7 ∨ j = 8 ∨ j = 9 by omega) with rfl | rfl | rfl | rfl | rfl | rfl | rfl | rfl | rfl | rfl <;> rfl
abbrev rm_X3_init : Room := { frames := 1, cells := 8, slots := 48, locals := 30 }
def T_X3_init (G : GG) (a : Nat) (u : Nat → Nat) : va_W := [(a, .inr (2, [.int 0, .int 0, .ref (u 0), .ref (u 1), .ref (u 2), .ref (u 3), .ref (u 4), .ref (u 5), .ref (u 6), .ref (u 7)])), ((u 0), .inl (G.2 0, 6, .inl (fun _ => 0))), ((u 1), .inl (G.2 0, 6, .inl (fun _ => 0))), ((u 2), .inl (G.2 0, 6, .inl (fun _ => 0))), ((u 3), .inl (G.2 0, 6, .inl (fun _ => 0))), ((u 4), .inl (G.2 0, 6, .inl (fun _ => 0))), ((u 5), .inl (G.2 1, 6, .inl (fun _ => 0))), ((u 6), .inl (G.2 0, 6, .inl (fun _ => 0))), ((u 7), .inl (G.2 0, 6, .inl (fun _ => 0)))]
set_option maxRecDepth 100000 in
set_option maxHeartbeats 400000 in
theorem n_X3_init (l : Launch) (G : GG) (ws : va_W) (a : Nat) : KE (S := Nat → Nat) l G yX3_init cX3_init 1 none rm_X3_init [.ref a] (ws ++ [(a, .inr (2, [.int 0, .int 0, .null, .null, .null, .null, .null, .null, .null, .null]))]) (fun _ => none) (fun u => ws ++ [(a, .inr (2, [.int 0, .int 0, .ref (u 0), .ref (u 1), .ref (u 2), .ref (u 3), .ref (u 4), .ref (u 5), .ref (u 6), .ref (u 7)])), ((u 0), .inl (G.2 0, 6, .inl (fun _ => 0))), ((u 1), .inl (G.2 0, 6, .inl (fun _ => 0))), ((u 2), .inl (G.2 0, 6, .inl (fun _ => 0))), ((u 3), .inl (G.2 0, 6, .inl (fun _ => 0))), ((u 4), .inl (G.2 0, 6, .inl (fun _ => 0))), ((u 5), .inl (G.2 1, 6, .inl (fun _ => 0))), ((u 6), .inl (G.2 0, 6, .inl (fun _ => 0))), ((u 7), .inl (G.2 0, 6, .inl (fun _ => 0)))]) (fun _ => True) := by
  refine KE.of (S := Nat → Nat) (by decide) (Nat.le_of_ble_eq_true rfl) ?_
  intro zp ze zs zm za zb zt zc zA C hin
  generalize hQ : MQ zb _ za zs _ _ zA = Q
  show V zp l ze rm_X3_init zs zm za zb zt zc 1 G zA 0 0 Q 0 [(0, .ref a)] [] (ws ++ [(a, .inr (2, [.int 0, .int 0, .null, .null, .null, .null, .null, .null, .null, .null]))])
  refine v_aload_n C 0 rfl dX3_init_0 ?_
  refine v_objI C w_239 (Nat.le_of_ble_eq_true rfl) (Nat.le_of_ble_eq_true rfl) dX3_init_1 ?_
  refine v_aload_n C 0 rfl dX3_init_4 ?_
  refine v_bipush (v := (6 : Int32)) C (by decide) dX3_init_5 ?_
  refine v_newa (atype := .int) (a0 := (6, .inl (fun _ => 0))) (N := 6) C 0 w_150 rfl rfl RAn_int (fun _ => rfl) (by decide) (by decide) (by decide) (Nat.le_of_ble_eq_true rfl) (Nat.le_of_ble_eq_true rfl) dX3_init_7 (fun q1 => ?_)
  refine v_eqw (List.append_assoc _ _ _) ?_
  show V zp l ze _ zs zm za zb zt zc _ G zA _ _ Q _ _ _ (ws ++ [(a, .inr (2, [.int 0, .int 0, .null, .null, .null, .null, .null, .null, .null, .null])), (q1, .inl (G.2 0, 6, .inl (fun _ => 0)))])
  refine v_putF (ws' := ws ++ [(a, .inr (2, [.int 0, .int 0, .ref q1, .null, .null, .null, .null, .null, .null, .null])), (q1, .inl (G.2 0, 6, .inl (fun _ => 0)))]) C hin fp_RX3_9 (ws.length + 0) (gA 0 rfl) rfl rfl (Nat.le_of_ble_eq_true rfl) (pA 0 _) dX3_init_9 ?_
  refine v_aload_n C 0 rfl dX3_init_12 ?_
  refine v_bipush (v := (6 : Int32)) C (by decide) dX3_init_13 ?_
  refine v_newa (atype := .int) (a0 := (6, .inl (fun _ => 0))) (N := 6) C 0 w_150 rfl rfl RAn_int (fun _ => rfl) (by decide) (by decide) (by decide) (Nat.le_of_ble_eq_true rfl) (Nat.le_of_ble_eq_true rfl) dX3_init_15 (fun q2 => ?_)
  refine v_eqw (List.append_assoc _ _ _) ?_
  show V zp l ze _ zs zm za zb zt zc _ G zA _ _ Q _ _ _ (ws ++ [(a, .inr (2, [.int 0, .int 0, .ref q1, .null, .null, .null, .null, .null, .null, .null])), (q1, .inl (G.2 0, 6, .inl (fun _ => 0))), (q2, .inl (G.2 0, 6, .inl (fun _ => 0)))])
  refine v_putF (ws' := ws ++ [(a, .inr (2, [.int 0, .int 0, .ref q1, .ref q2, .null, .null, .null, .null, .null, .null])), (q1, .inl (G.2 0, 6, .inl (fun _ => 0))), (q2, .inl (G.2 0, 6, .inl (fun _ => 0)))]) C hin fp_RX3_15 (ws.length + 0) (gA 0 rfl) rfl rfl (Nat.le_of_ble_eq_true rfl) (pA 0 _) dX3_init_17 ?_
  refine v_aload_n C 0 rfl dX3_init_20 ?_
  refine v_bipush (v := (6 : Int32)) C (by decide) dX3_init_21 ?_
  refine v_newa (atype := .int) (a0 := (6, .inl (fun _ => 0))) (N := 6) C 0 w_150 rfl rfl RAn_int (fun _ => rfl) (by decide) (by decide) (by decide) (Nat.le_of_ble_eq_true rfl) (Nat.le_of_ble_eq_true rfl) dX3_init_23 (fun q3 => ?_)
  refine v_eqw (List.append_assoc _ _ _) ?_
  show V zp l ze _ zs zm za zb zt zc _ G zA _ _ Q _ _ _ (ws ++ [(a, .inr (2, [.int 0, .int 0, .ref q1, .ref q2, .null, .null, .null, .null, .null, .null])), (q1, .inl (G.2 0, 6, .inl (fun _ => 0))), (q2, .inl (G.2 0, 6, .inl (fun _ => 0))), (q3, .inl (G.2 0, 6, .inl (fun _ => 0)))])
  refine v_putF (ws' := ws ++ [(a, .inr (2, [.int 0, .int 0, .ref q1, .ref q2, .ref q3, .null, .null, .null, .null, .null])), (q1, .inl (G.2 0, 6, .inl (fun _ => 0))), (q2, .inl (G.2 0, 6, .inl (fun _ => 0))), (q3, .inl (G.2 0, 6, .inl (fun _ => 0)))]) C hin fp_RX3_18 (ws.length + 0) (gA 0 rfl) rfl rfl (Nat.le_of_ble_eq_true rfl) (pA 0 _) dX3_init_25 ?_
  refine v_aload_n C 0 rfl dX3_init_28 ?_
  refine v_bipush (v := (6 : Int32)) C (by decide) dX3_init_29 ?_
  refine v_newa (atype := .int) (a0 := (6, .inl (fun _ => 0))) (N := 6) C 0 w_150 rfl rfl RAn_int (fun _ => rfl) (by decide) (by decide) (by decide) (Nat.le_of_ble_eq_true rfl) (Nat.le_of_ble_eq_true rfl) dX3_init_31 (fun q4 => ?_)
  refine v_eqw (List.append_assoc _ _ _) ?_
  show V zp l ze _ zs zm za zb zt zc _ G zA _ _ Q _ _ _ (ws ++ [(a, .inr (2, [.int 0, .int 0, .ref q1, .ref q2, .ref q3, .null, .null, .null, .null, .null])), (q1, .inl (G.2 0, 6, .inl (fun _ => 0))), (q2, .inl (G.2 0, 6, .inl (fun _ => 0))), (q3, .inl (G.2 0, 6, .inl (fun _ => 0))), (q4, .inl (G.2 0, 6, .inl (fun _ => 0)))])
  refine v_putF (ws' := ws ++ [(a, .inr (2, [.int 0, .int 0, .ref q1, .ref q2, .ref q3, .ref q4, .null, .null, .null, .null])), (q1, .inl (G.2 0, 6, .inl (fun _ => 0))), (q2, .inl (G.2 0, 6, .inl (fun _ => 0))), (q3, .inl (G.2 0, 6, .inl (fun _ => 0))), (q4, .inl (G.2 0, 6, .inl (fun _ => 0)))]) C hin fp_RX3_21 (ws.length + 0) (gA 0 rfl) rfl rfl (Nat.le_of_ble_eq_true rfl) (pA 0 _) dX3_init_33 ?_
  refine v_aload_n C 0 rfl dX3_init_36 ?_
  refine v_bipush (v := (6 : Int32)) C (by decide) dX3_init_37 ?_
  refine v_newa (atype := .int) (a0 := (6, .inl (fun _ => 0))) (N := 6) C 0 w_150 rfl rfl RAn_int (fun _ => rfl) (by decide) (by decide) (by decide) (Nat.le_of_ble_eq_true rfl) (Nat.le_of_ble_eq_true rfl) dX3_init_39 (fun q5 => ?_)
  refine v_eqw (List.append_assoc _ _ _) ?_
  show V zp l ze _ zs zm za zb zt zc _ G zA _ _ Q _ _ _ (ws ++ [(a, .inr (2, [.int 0, .int 0, .ref q1, .ref q2, .ref q3, .ref q4, .null, .null, .null, .null])), (q1, .inl (G.2 0, 6, .inl (fun _ => 0))), (q2, .inl (G.2 0, 6, .inl (fun _ => 0))), (q3, .inl (G.2 0, 6, .inl (fun _ => 0))), (q4, .inl (G.2 0, 6, .inl (fun _ => 0))), (q5, .inl (G.2 0, 6, .inl (fun _ => 0)))])
  refine v_putF (ws' := ws ++ [(a, .inr (2, [.int 0, .int 0, .ref q1, .ref q2, .ref q3, .ref q4, .ref q5, .null, .null, .null])), (q1, .inl (G.2 0, 6, .inl (fun _ => 0))), (q2, .inl (G.2 0, 6, .inl (fun _ => 0))), (q3, .inl (G.2 0, 6, .inl (fun _ => 0))), (q4, .inl (G.2 0, 6, .inl (fun _ => 0))), (q5, .inl (G.2 0, 6, .inl (fun _ => 0)))]) C hin fp_RX3_24 (ws.length + 0) (gA 0 rfl) rfl rfl (Nat.le_of_ble_eq_true rfl) (pA 0 _) dX3_init_41 ?_
  refine v_aload_n C 0 rfl dX3_init_44 ?_
  refine v_bipush (v := (6 : Int32)) C (by decide) dX3_init_45 ?_
  refine v_newa (atype := .boolean) (a0 := (6, .inl (fun _ => 0))) (N := 6) C 1 w_273 rfl rfl RAn_bool (fun _ => rfl) (by decide) (by decide) (by decide) (Nat.le_of_ble_eq_true rfl) (Nat.le_of_ble_eq_true rfl) dX3_init_47 (fun q6 => ?_)
  refine v_eqw (List.append_assoc _ _ _) ?_
  show V zp l ze _ zs zm za zb zt zc _ G zA _ _ Q _ _ _ (ws ++ [(a, .inr (2, [.int 0, .int 0, .ref q1, .ref q2, .ref q3, .ref q4, .ref q5, .null, .null, .null])), (q1, .inl (G.2 0, 6, .inl (fun _ => 0))), (q2, .inl (G.2 0, 6, .inl (fun _ => 0))), (q3, .inl (G.2 0, 6, .inl (fun _ => 0))), (q4, .inl (G.2 0, 6, .inl (fun _ => 0))), (q5, .inl (G.2 0, 6, .inl (fun _ => 0))), (q6, .inl (G.2 1, 6, .inl (fun _ => 0)))])
  refine v_putF (ws' := ws ++ [(a, .inr (2, [.int 0, .int 0, .ref q1, .ref q2, .ref q3, .ref q4, .ref q5, .ref q6, .null, .null])), (q1, .inl (G.2 0, 6, .inl (fun _ => 0))), (q2, .inl (G.2 0, 6, .inl (fun _ => 0))), (q3, .inl (G.2 0, 6, .inl (fun _ => 0))), (q4, .inl (G.2 0, 6, .inl (fun _ => 0))), (q5, .inl (G.2 0, 6, .inl (fun _ => 0))), (q6, .inl (G.2 1, 6, .inl (fun _ => 0)))]) C hin fp_RX3_27 (ws.length + 0) (gA 0 rfl) rfl rfl (Nat.le_of_ble_eq_true rfl) (pA 0 _) dX3_init_49 ?_
  refine v_aload_n C 0 rfl dX3_init_52 ?_
  refine v_bipush (v := (6 : Int32)) C (by decide) dX3_init_53 ?_
  refine v_newa (atype := .int) (a0 := (6, .inl (fun _ => 0))) (N := 6) C 0 w_150 rfl rfl RAn_int (fun _ => rfl) (by decide) (by decide) (by decide) (Nat.le_of_ble_eq_true rfl) (Nat.le_of_ble_eq_true rfl) dX3_init_55 (fun q7 => ?_)
  refine v_eqw (List.append_assoc _ _ _) ?_
  show V zp l ze _ zs zm za zb zt zc _ G zA _ _ Q _ _ _ (ws ++ [(a, .inr (2, [.int 0, .int 0, .ref q1, .ref q2, .ref q3, .ref q4, .ref q5, .ref q6, .null, .null])), (q1, .inl (G.2 0, 6, .inl (fun _ => 0))), (q2, .inl (G.2 0, 6, .inl (fun _ => 0))), (q3, .inl (G.2 0, 6, .inl (fun _ => 0))), (q4, .inl (G.2 0, 6, .inl (fun _ => 0))), (q5, .inl (G.2 0, 6, .inl (fun _ => 0))), (q6, .inl (G.2 1, 6, .inl (fun _ => 0))), (q7, .inl (G.2 0, 6, .inl (fun _ => 0)))])
  refine v_putF (ws' := ws ++ [(a, .inr (2, [.int 0, .int 0, .ref q1, .ref q2, .ref q3, .ref q4, .ref q5, .ref q6, .ref q7, .null])), (q1, .inl (G.2 0, 6, .inl (fun _ => 0))), (q2, .inl (G.2 0, 6, .inl (fun _ => 0))), (q3, .inl (G.2 0, 6, .inl (fun _ => 0))), (q4, .inl (G.2 0, 6, .inl (fun _ => 0))), (q5, .inl (G.2 0, 6, .inl (fun _ => 0))), (q6, .inl (G.2 1, 6, .inl (fun _ => 0))), (q7, .inl (G.2 0, 6, .inl (fun _ => 0)))]) C hin fp_RX3_31 (ws.length + 0) (gA 0 rfl) rfl rfl (Nat.le_of_ble_eq_true rfl) (pA 0 _) dX3_init_57 ?_
  refine v_aload_n C 0 rfl dX3_init_60 ?_
  refine v_bipush (v := (6 : Int32)) C (by decide) dX3_init_61 ?_
  refine v_newa (atype := .int) (a0 := (6, .inl (fun _ => 0))) (N := 6) C 0 w_150 rfl rfl RAn_int (fun _ => rfl) (by decide) (by decide) (by decide) (Nat.le_of_ble_eq_true rfl) (Nat.le_of_ble_eq_true rfl) dX3_init_63 (fun q8 => ?_)
  refine v_eqw (List.append_assoc _ _ _) ?_
  show V zp l ze _ zs zm za zb zt zc _ G zA _ _ Q _ _ _ (ws ++ [(a, .inr (2, [.int 0, .int 0, .ref q1, .ref q2, .ref q3, .ref q4, .ref q5, .ref q6, .ref q7, .null])), (q1, .inl (G.2 0, 6, .inl (fun _ => 0))), (q2, .inl (G.2 0, 6, .inl (fun _ => 0))), (q3, .inl (G.2 0, 6, .inl (fun _ => 0))), (q4, .inl (G.2 0, 6, .inl (fun _ => 0))), (q5, .inl (G.2 0, 6, .inl (fun _ => 0))), (q6, .inl (G.2 1, 6, .inl (fun _ => 0))), (q7, .inl (G.2 0, 6, .inl (fun _ => 0))), (q8, .inl (G.2 0, 6, .inl (fun _ => 0)))])
  refine v_putF (ws' := ws ++ [(a, .inr (2, [.int 0, .int 0, .ref q1, .ref q2, .ref q3, .ref q4, .ref q5, .ref q6, .ref q7, .ref q8])), (q1, .inl (G.2 0, 6, .inl (fun _ => 0))), (q2, .inl (G.2 0, 6, .inl (fun _ => 0))), (q3, .inl (G.2 0, 6, .inl (fun _ => 0))), (q4, .inl (G.2 0, 6, .inl (fun _ => 0))), (q5, .inl (G.2 0, 6, .inl (fun _ => 0))), (q6, .inl (G.2 1, 6, .inl (fun _ => 0))), (q7, .inl (G.2 0, 6, .inl (fun _ => 0))), (q8, .inl (G.2 0, 6, .inl (fun _ => 0)))]) C hin fp_RX3_34 (ws.length + 0) (gA 0 rfl) rfl rfl (Nat.le_of_ble_eq_true rfl) (pA 0 _) dX3_init_65 ?_
  exact v_Q hQ (v_vret C (uF [q1, q2, q3, q4, q5, q6, q7, q8]) trivial rfl rfl (Nat.le_of_ble_eq_true rfl) (Nat.le_of_ble_eq_true rfl) dX3_init_68)
theorem df_X5 : ∀ j, j < 8 → defaultValue (tyX5 j) = vp_V [.int 0, .int 0, .int 0, .null, .null, .null, .int 0, .null] j := by
  intro j hj
  rcases (show j = 0 ∨ j = 1 ∨ j = 2 ∨ j = 3 ∨ j = 4 ∨ j = 5 ∨ j = 6 ∨ j = 7 by omega) with rfl | rfl | rfl | rfl | rfl | rfl | rfl | rfl <;> rfl
abbrev rm_X5_init : Room := { frames := 1, cells := 4, slots := 82, locals := 30 }
def T_X5_init (G : GG) (a : Nat) (u : Nat → Nat) : va_W := [(a, .inr (4, [.int 0, .int (-1 : Int32), .int 0, .ref (u 0), .ref (u 1), .ref (u 2), .int 0, .ref (u 3)])), ((u 0), .inl (G.2 0, 14, .inl (fun _ => 0))), ((u 1), .inl (G.2 0, 14, .inl (fun _ => 0))), ((u 2), .inl (G.2 0, 14, .inl (fun _ => 0))), ((u 3), .inl (G.2 0, 40, .inl (fun _ => 0)))]
set_option maxRecDepth 100000 in
set_option maxHeartbeats 400000 in
theorem n_X5_init (l : Launch) (G : GG) (ws : va_W) (a : Nat) : KE (S := Nat → Nat) l G yX5_init cX5_init 1 none rm_X5_init [.ref a] (ws ++ [(a, .inr (4, [.int 0, .int 0, .int 0, .null, .null, .null, .int 0, .null]))]) (fun _ => none) (fun u => ws ++ [(a, .inr (4, [.int 0, .int (-1 : Int32), .int 0, .ref (u 0), .ref (u 1), .ref (u 2), .int 0, .ref (u 3)])), ((u 0), .inl (G.2 0, 14, .inl (fun _ => 0))), ((u 1), .inl (G.2 0, 14, .inl (fun _ => 0))), ((u 2), .inl (G.2 0, 14, .inl (fun _ => 0))), ((u 3), .inl (G.2 0, 40, .inl (fun _ => 0)))]) (fun _ => True) := by
  refine KE.of (S := Nat → Nat) (by decide) (Nat.le_of_ble_eq_true rfl) ?_
  intro zp ze zs zm za zb zt zc zA C hin
  generalize hQ : MQ zb _ za zs _ _ zA = Q
  show V zp l ze rm_X5_init zs zm za zb zt zc 1 G zA 0 0 Q 0 [(0, .ref a)] [] (ws ++ [(a, .inr (4, [.int 0, .int 0, .int 0, .null, .null, .null, .int 0, .null]))])
  refine v_aload_n C 0 rfl dX5_init_0 ?_
  refine v_objI C w_279 (Nat.le_of_ble_eq_true rfl) (Nat.le_of_ble_eq_true rfl) dX5_init_1 ?_
  refine v_aload_n C 0 rfl dX5_init_4 ?_
  refine v_iconst (v := (-1 : Int32)) C (by decide) dX5_init_5 ?_
  refine v_put (ws' := ws ++ [(a, .inr (4, [.int 0, .int (-1 : Int32), .int 0, .null, .null, .null, .int 0, .null]))]) C fp_RX5_9 (ws.length + 0) (gA 0 rfl) rfl rfl (Nat.le_of_ble_eq_true rfl) (pA 0 _) dX5_init_6 ?_
  refine v_aload_n C 0 rfl dX5_init_9 ?_
  refine v_bipush (v := (14 : Int32)) C (by decide) dX5_init_10 ?_
  refine v_newa (atype := .int) (a0 := (14, .inl (fun _ => 0))) (N := 14) C 0 w_150 rfl rfl RAn_int (fun _ => rfl) (by decide) (by decide) (by decide) (Nat.le_of_ble_eq_true rfl) (Nat.le_of_ble_eq_true rfl) dX5_init_12 (fun q1 => ?_)
  refine v_eqw (List.append_assoc _ _ _) ?_
  show V zp l ze _ zs zm za zb zt zc _ G zA _ _ Q _ _ _ (ws ++ [(a, .inr (4, [.int 0, .int (-1 : Int32), .int 0, .null, .null, .null, .int 0, .null])), (q1, .inl (G.2 0, 14, .inl (fun _ => 0)))])
  refine v_putF (ws' := ws ++ [(a, .inr (4, [.int 0, .int (-1 : Int32), .int 0, .ref q1, .null, .null, .int 0, .null])), (q1, .inl (G.2 0, 14, .inl (fun _ => 0)))]) C hin fp_RX5_15 (ws.length + 0) (gA 0 rfl) rfl rfl (Nat.le_of_ble_eq_true rfl) (pA 0 _) dX5_init_14 ?_
  refine v_aload_n C 0 rfl dX5_init_17 ?_
  refine v_bipush (v := (14 : Int32)) C (by decide) dX5_init_18 ?_
  refine v_newa (atype := .int) (a0 := (14, .inl (fun _ => 0))) (N := 14) C 0 w_150 rfl rfl RAn_int (fun _ => rfl) (by decide) (by decide) (by decide) (Nat.le_of_ble_eq_true rfl) (Nat.le_of_ble_eq_true rfl) dX5_init_20 (fun q2 => ?_)
  refine v_eqw (List.append_assoc _ _ _) ?_
  show V zp l ze _ zs zm za zb zt zc _ G zA _ _ Q _ _ _ (ws ++ [(a, .inr (4, [.int 0, .int (-1 : Int32), .int 0, .ref q1, .null, .null, .int 0, .null])), (q1, .inl (G.2 0, 14, .inl (fun _ => 0))), (q2, .inl (G.2 0, 14, .inl (fun _ => 0)))])
  refine v_putF (ws' := ws ++ [(a, .inr (4, [.int 0, .int (-1 : Int32), .int 0, .ref q1, .ref q2, .null, .int 0, .null])), (q1, .inl (G.2 0, 14, .inl (fun _ => 0))), (q2, .inl (G.2 0, 14, .inl (fun _ => 0)))]) C hin fp_RX5_19 (ws.length + 0) (gA 0 rfl) rfl rfl (Nat.le_of_ble_eq_true rfl) (pA 0 _) dX5_init_22 ?_
  refine v_aload_n C 0 rfl dX5_init_25 ?_
  refine v_bipush (v := (14 : Int32)) C (by decide) dX5_init_26 ?_
  refine v_newa (atype := .int) (a0 := (14, .inl (fun _ => 0))) (N := 14) C 0 w_150 rfl rfl RAn_int (fun _ => rfl) (by decide) (by decide) (by decide) (Nat.le_of_ble_eq_true rfl) (Nat.le_of_ble_eq_true rfl) dX5_init_28 (fun q3 => ?_)
  refine v_eqw (List.append_assoc _ _ _) ?_
  show V zp l ze _ zs zm za zb zt zc _ G zA _ _ Q _ _ _ (ws ++ [(a, .inr (4, [.int 0, .int (-1 : Int32), .int 0, .ref q1, .ref q2, .null, .int 0, .null])), (q1, .inl (G.2 0, 14, .inl (fun _ => 0))), (q2, .inl (G.2 0, 14, .inl (fun _ => 0))), (q3, .inl (G.2 0, 14, .inl (fun _ => 0)))])
  refine v_putF (ws' := ws ++ [(a, .inr (4, [.int 0, .int (-1 : Int32), .int 0, .ref q1, .ref q2, .ref q3, .int 0, .null])), (q1, .inl (G.2 0, 14, .inl (fun _ => 0))), (q2, .inl (G.2 0, 14, .inl (fun _ => 0))), (q3, .inl (G.2 0, 14, .inl (fun _ => 0)))]) C hin fp_RX5_22 (ws.length + 0) (gA 0 rfl) rfl rfl (Nat.le_of_ble_eq_true rfl) (pA 0 _) dX5_init_30 ?_
  refine v_aload_n C 0 rfl dX5_init_33 ?_
  refine v_bipush (v := (40 : Int32)) C (by decide) dX5_init_34 ?_
  refine v_newa (atype := .int) (a0 := (40, .inl (fun _ => 0))) (N := 40) C 0 w_150 rfl rfl RAn_int (fun _ => rfl) (by decide) (by decide) (by decide) (Nat.le_of_ble_eq_true rfl) (Nat.le_of_ble_eq_true rfl) dX5_init_36 (fun q4 => ?_)
  refine v_eqw (List.append_assoc _ _ _) ?_
  show V zp l ze _ zs zm za zb zt zc _ G zA _ _ Q _ _ _ (ws ++ [(a, .inr (4, [.int 0, .int (-1 : Int32), .int 0, .ref q1, .ref q2, .ref q3, .int 0, .null])), (q1, .inl (G.2 0, 14, .inl (fun _ => 0))), (q2, .inl (G.2 0, 14, .inl (fun _ => 0))), (q3, .inl (G.2 0, 14, .inl (fun _ => 0))), (q4, .inl (G.2 0, 40, .inl (fun _ => 0)))])
  refine v_putF (ws' := ws ++ [(a, .inr (4, [.int 0, .int (-1 : Int32), .int 0, .ref q1, .ref q2, .ref q3, .int 0, .ref q4])), (q1, .inl (G.2 0, 14, .inl (fun _ => 0))), (q2, .inl (G.2 0, 14, .inl (fun _ => 0))), (q3, .inl (G.2 0, 14, .inl (fun _ => 0))), (q4, .inl (G.2 0, 40, .inl (fun _ => 0)))]) C hin fp_RX5_25 (ws.length + 0) (gA 0 rfl) rfl rfl (Nat.le_of_ble_eq_true rfl) (pA 0 _) dX5_init_38 ?_
  exact v_Q hQ (v_vret C (uF [q1, q2, q3, q4]) trivial rfl rfl (Nat.le_of_ble_eq_true rfl) (Nat.le_of_ble_eq_true rfl) dX5_init_41)
theorem df_X9 : ∀ j, j < 4 → defaultValue (tyX9 j) = vp_V [.null, .null, .null, .null] j := by
  intro j hj
  rcases (show j = 0 ∨ j = 1 ∨ j = 2 ∨ j = 3 by omega) with rfl | rfl | rfl | rfl <;> rfl
abbrev rm_X9_init : Room := { frames := 3, cells := 23, slots := 843, locals := 70 }
def T_X9_init (G : GG) (a : Nat) (u : Nat → Nat) : va_W := [(a, .inr (8, [.ref (u 0), .ref (u 9), .ref (u 18), .null])), ((u 0), .inr (7, [.ref (u 1), .ref (u 4), .ref (u 6), .ref (u 7)])), ((u 1), .inr (1, [.int (10 : Int32), .int (4 : Int32), .int (1 : Int32), .int 0, .int 0, .int 0, .int 0, .int 0, .int 0, .int 0, .int 0, .ref (u 2), .ref (u 3)])), ((u 2), .inl (G.2 0, 4, .inl (fun _ => 0))), ((u 3), .inl (G.2 0, 576, .inl (fun _ => 0))), ((u 4), .inr (5, [.int 0, .int 0, .ref (u 5)])), ((u 5), .inl (G.2 2, 80, .inr (.inr (.inr (.inr (fun _ => none)))))), ((u 6), .inr (6, [.int 0, .int (1 : Int32), .int (200 : Int32), .int (1000 : Int32)])), ((u 7), .inr (0, [.int 0, .int 0, .ref (u 8)])), ((u 8), .inl (G.2 0, 8, .inl (fun _ => 0))), ((u 9), .inr (2, [.int 0, .int 0, .ref (u 10), .ref (u 11), .ref (u 12), .ref (u 13), .ref (u 14), .ref (u 15), .ref (u 16), .ref (u 17)])), ((u 10), .inl (G.2 0, 6, .inl (fun _ => 0))), ((u 11), .inl (G.2 0, 6, .inl (fun _ => 0))), ((u 12), .inl (G.2 0, 6, .inl (fun _ => 0))), ((u 13), .inl (G.2 0, 6, .inl (fun _ => 0))), ((u 14), .inl (G.2 0, 6, .inl (fun _ => 0))), ((u 15), .inl (G.2 1, 6, .inl (fun _ => 0))), ((u 16), .inl (G.2 0, 6, .inl (fun _ => 0))), ((u 17), .inl (G.2 0, 6, .inl (fun _ => 0))), ((u 18), .inr (4, [.int 0, .int (-1 : Int32), .int 0, .ref (u 19), .ref (u 20), .ref (u 21), .int 0, .ref (u 22)])), ((u 19), .inl (G.2 0, 14, .inl (fun _ => 0))), ((u 20), .inl (G.2 0, 14, .inl (fun _ => 0))), ((u 21), .inl (G.2 0, 14, .inl (fun _ => 0))), ((u 22), .inl (G.2 0, 40, .inl (fun _ => 0)))]
set_option maxRecDepth 100000 in
set_option maxHeartbeats 400000 in
theorem n_X9_init (l : Launch) (G : GG) (ws : va_W) (a : Nat) : KE (S := Nat → Nat) l G yX9_init cX9_init 1 none rm_X9_init [.ref a] (ws ++ [(a, .inr (8, [.null, .null, .null, .null]))]) (fun _ => none) (fun u => ws ++ [(a, .inr (8, [.ref (u 0), .ref (u 9), .ref (u 18), .null])), ((u 0), .inr (7, [.ref (u 1), .ref (u 4), .ref (u 6), .ref (u 7)])), ((u 1), .inr (1, [.int (10 : Int32), .int (4 : Int32), .int (1 : Int32), .int 0, .int 0, .int 0, .int 0, .int 0, .int 0, .int 0, .int 0, .ref (u 2), .ref (u 3)])), ((u 2), .inl (G.2 0, 4, .inl (fun _ => 0))), ((u 3), .inl (G.2 0, 576, .inl (fun _ => 0))), ((u 4), .inr (5, [.int 0, .int 0, .ref (u 5)])), ((u 5), .inl (G.2 2, 80, .inr (.inr (.inr (.inr (fun _ => none)))))), ((u 6), .inr (6, [.int 0, .int (1 : Int32), .int (200 : Int32), .int (1000 : Int32)])), ((u 7), .inr (0, [.int 0, .int 0, .ref (u 8)])), ((u 8), .inl (G.2 0, 8, .inl (fun _ => 0))), ((u 9), .inr (2, [.int 0, .int 0, .ref (u 10), .ref (u 11), .ref (u 12), .ref (u 13), .ref (u 14), .ref (u 15), .ref (u 16), .ref (u 17)])), ((u 10), .inl (G.2 0, 6, .inl (fun _ => 0))), ((u 11), .inl (G.2 0, 6, .inl (fun _ => 0))), ((u 12), .inl (G.2 0, 6, .inl (fun _ => 0))), ((u 13), .inl (G.2 0, 6, .inl (fun _ => 0))), ((u 14), .inl (G.2 0, 6, .inl (fun _ => 0))), ((u 15), .inl (G.2 1, 6, .inl (fun _ => 0))), ((u 16), .inl (G.2 0, 6, .inl (fun _ => 0))), ((u 17), .inl (G.2 0, 6, .inl (fun _ => 0))), ((u 18), .inr (4, [.int 0, .int (-1 : Int32), .int 0, .ref (u 19), .ref (u 20), .ref (u 21), .int 0, .ref (u 22)])), ((u 19), .inl (G.2 0, 14, .inl (fun _ => 0))), ((u 20), .inl (G.2 0, 14, .inl (fun _ => 0))), ((u 21), .inl (G.2 0, 14, .inl (fun _ => 0))), ((u 22), .inl (G.2 0, 40, .inl (fun _ => 0)))]) (fun _ => True) := by
  refine KE.of (S := Nat → Nat) (by decide) (Nat.le_of_ble_eq_true rfl) ?_
  intro zp ze zs zm za zb zt zc zA C hin
  generalize hQ : MQ zb _ za zs _ _ zA = Q
  show V zp l ze rm_X9_init zs zm za zb zt zc 1 G zA 0 0 Q 0 [(0, .ref a)] [] (ws ++ [(a, .inr (8, [.null, .null, .null, .null]))])
  refine v_aload_n C 0 rfl dX9_init_0 ?_
  refine v_objI C w_78 (Nat.le_of_ble_eq_true rfl) (Nat.le_of_ble_eq_true rfl) dX9_init_1 ?_
  refine v_aload_n C 0 rfl dX9_init_4 ?_
  refine v_new (ci := 7) (fs := [.null, .null, .null, .null]) C tyX8 rfl lay_X8 tyX8_ok w_81 w_82 w_50 df_X8 (Nat.le_of_ble_eq_true rfl) (Nat.le_of_ble_eq_true rfl) dX9_init_5 (fun q1 => ?_)
  refine v_dup C rfl dX9_init_8 ?_
  refine v_callIN (rest := [.ref q1, .ref a]) C (List.mem_of_getElem? (i := 0) rfl) w_84 w_50 w_85 rfl ⟨by decide +kernel, by decide +kernel, by decide +kernel⟩ (n_X8_init l G (ws ++ [(a, .inr (8, [.null, .null, .null, .null]))]) q1) rfl rfl (Nat.le_of_ble_eq_true rfl) ⟨(Nat.le_of_ble_eq_true rfl), (Nat.le_of_ble_eq_true rfl)⟩ ⟨(Nat.le_of_ble_eq_true rfl), (Nat.le_of_ble_eq_true rfl)⟩ dX9_init_9 (fun u1 _ => ?_)
  refine v_eqw (List.append_assoc _ _ _) ?_
  show V zp l ze _ zs zm za zb zt zc _ G zA _ _ Q _ _ _ (ws ++ [(a, .inr (8, [.null, .null, .null, .null])), (q1, .inr (7, [.ref (u1 0), .ref (u1 3), .ref (u1 5), .ref (u1 6)])), ((u1 0), .inr (1, [.int (10 : Int32), .int (4 : Int32), .int (1 : Int32), .int 0, .int 0, .int 0, .int 0, .int 0, .int 0, .int 0, .int 0, .ref (u1 1), .ref (u1 2)])), ((u1 1), .inl (G.2 0, 4, .inl (fun _ => 0))), ((u1 2), .inl (G.2 0, 576, .inl (fun _ => 0))), ((u1 3), .inr (5, [.int 0, .int 0, .ref (u1 4)])), ((u1 4), .inl (G.2 2, 80, .inr (.inr (.inr (.inr (fun _ => none)))))), ((u1 5), .inr (6, [.int 0, .int (1 : Int32), .int (200 : Int32), .int (1000 : Int32)])), ((u1 6), .inr (0, [.int 0, .int 0, .ref (u1 7)])), ((u1 7), .inl (G.2 0, 8, .inl (fun _ => 0)))])
  refine v_putF (ws' := ws ++ [(a, .inr (8, [.ref q1, .null, .null, .null])), (q1, .inr (7, [.ref (u1 0), .ref (u1 3), .ref (u1 5), .ref (u1 6)])), ((u1 0), .inr (1, [.int (10 : Int32), .int (4 : Int32), .int (1 : Int32), .int 0, .int 0, .int 0, .int 0, .int 0, .int 0, .int 0, .int 0, .ref (u1 1), .ref (u1 2)])), ((u1 1), .inl (G.2 0, 4, .inl (fun _ => 0))), ((u1 2), .inl (G.2 0, 576, .inl (fun _ => 0))), ((u1 3), .inr (5, [.int 0, .int 0, .ref (u1 4)])), ((u1 4), .inl (G.2 2, 80, .inr (.inr (.inr (.inr (fun _ => none)))))), ((u1 5), .inr (6, [.int 0, .int (1 : Int32), .int (200 : Int32), .int (1000 : Int32)])), ((u1 6), .inr (0, [.int 0, .int 0, .ref (u1 7)])), ((u1 7), .inl (G.2 0, 8, .inl (fun _ => 0)))]) C hin fp_RX9_10 (ws.length + 0) (gA 0 rfl) rfl rfl (Nat.le_of_ble_eq_true rfl) (pA 0 _) dX9_init_12 ?_
  refine v_aload_n C 0 rfl dX9_init_15 ?_
  refine v_new (ci := 2) (fs := [.int 0, .int 0, .null, .null, .null, .null, .null, .null, .null, .null]) C tyX3 rfl lay_X3 tyX3_ok w_234 w_235 w_55 df_X3 (Nat.le_of_ble_eq_true rfl) (Nat.le_of_ble_eq_true rfl) dX9_init_16 (fun q10 => ?_)
  refine v_dup C rfl dX9_init_19 ?_
  refine v_callIN (rest := [.ref q10, .ref a]) C (List.mem_of_getElem? (i := 5) rfl) w_237 w_55 w_238 rfl ⟨by decide +kernel, by decide +kernel, by decide +kernel⟩ (n_X3_init l G (ws ++ [(a, .inr (8, [.ref q1, .null, .null, .null])), (q1, .inr (7, [.ref (u1 0), .ref (u1 3), .ref (u1 5), .ref (u1 6)])), ((u1 0), .inr (1, [.int (10 : Int32), .int (4 : Int32), .int (1 : Int32), .int 0, .int 0, .int 0, .int 0, .int 0, .int 0, .int 0, .int 0, .ref (u1 1), .ref (u1 2)])), ((u1 1), .inl (G.2 0, 4, .inl (fun _ => 0))), ((u1 2), .inl (G.2 0, 576, .inl (fun _ => 0))), ((u1 3), .inr (5, [.int 0, .int 0, .ref (u1 4)])), ((u1 4), .inl (G.2 2, 80, .inr (.inr (.inr (.inr (fun _ => none)))))), ((u1 5), .inr (6, [.int 0, .int (1 : Int32), .int (200 : Int32), .int (1000 : Int32)])), ((u1 6), .inr (0, [.int 0, .int 0, .ref (u1 7)])), ((u1 7), .inl (G.2 0, 8, .inl (fun _ => 0)))]) q10) rfl rfl (Nat.le_of_ble_eq_true rfl) ⟨(Nat.le_of_ble_eq_true rfl), (Nat.le_of_ble_eq_true rfl)⟩ ⟨(Nat.le_of_ble_eq_true rfl), (Nat.le_of_ble_eq_true rfl)⟩ dX9_init_20 (fun u10 _ => ?_)
  refine v_eqw (List.append_assoc _ _ _) ?_
  show V zp l ze _ zs zm za zb zt zc _ G zA _ _ Q _ _ _ (ws ++ [(a, .inr (8, [.ref q1, .null, .null, .null])), (q1, .inr (7, [.ref (u1 0), .ref (u1 3), .ref (u1 5), .ref (u1 6)])), ((u1 0), .inr (1, [.int (10 : Int32), .int (4 : Int32), .int (1 : Int32), .int 0, .int 0, .int 0, .int 0, .int 0, .int 0, .int 0, .int 0, .ref (u1 1), .ref (u1 2)])), ((u1 1), .inl (G.2 0, 4, .inl (fun _ => 0))), ((u1 2), .inl (G.2 0, 576, .inl (fun _ => 0))), ((u1 3), .inr (5, [.int 0, .int 0, .ref (u1 4)])), ((u1 4), .inl (G.2 2, 80, .inr (.inr (.inr (.inr (fun _ => none)))))), ((u1 5), .inr (6, [.int 0, .int (1 : Int32), .int (200 : Int32), .int (1000 : Int32)])), ((u1 6), .inr (0, [.int 0, .int 0, .ref (u1 7)])), ((u1 7), .inl (G.2 0, 8, .inl (fun _ => 0))), (q10, .inr (2, [.int 0, .int 0, .ref (u10 0), .ref (u10 1), .ref (u10 2), .ref (u10 3), .ref (u10 4), .ref (u10 5), .ref (u10 6), .ref (u10 7)])), ((u10 0), .inl (G.2 0, 6, .inl (fun _ => 0))), ((u10 1), .inl (G.2 0, 6, .inl (fun _ => 0))), ((u10 2), .inl (G.2 0, 6, .inl (fun _ => 0))), ((u10 3), .inl (G.2 0, 6, .inl (fun _ => 0))), ((u10 4), .inl (G.2 0, 6, .inl (fun _ => 0))), ((u10 5), .inl (G.2 1, 6, .inl (fun _ => 0))), ((u10 6), .inl (G.2 0, 6, .inl (fun _ => 0))), ((u10 7), .inl (G.2 0, 6, .inl (fun _ => 0)))])
  refine v_putF (ws' := ws ++ [(a, .inr (8, [.ref q1, .ref q10, .null, .null])), (q1, .inr (7, [.ref (u1 0), .ref (u1 3), .ref (u1 5), .ref (u1 6)])), ((u1 0), .inr (1, [.int (10 : Int32), .int (4 : Int32), .int (1 : Int32), .int 0, .int 0, .int 0, .int 0, .int 0, .int 0, .int 0, .int 0, .ref (u1 1), .ref (u1 2)])), ((u1 1), .inl (G.2 0, 4, .inl (fun _ => 0))), ((u1 2), .inl (G.2 0, 576, .inl (fun _ => 0))), ((u1 3), .inr (5, [.int 0, .int 0, .ref (u1 4)])), ((u1 4), .inl (G.2 2, 80, .inr (.inr (.inr (.inr (fun _ => none)))))), ((u1 5), .inr (6, [.int 0, .int (1 : Int32), .int (200 : Int32), .int (1000 : Int32)])), ((u1 6), .inr (0, [.int 0, .int 0, .ref (u1 7)])), ((u1 7), .inl (G.2 0, 8, .inl (fun _ => 0))), (q10, .inr (2, [.int 0, .int 0, .ref (u10 0), .ref (u10 1), .ref (u10 2), .ref (u10 3), .ref (u10 4), .ref (u10 5), .ref (u10 6), .ref (u10 7)])), ((u10 0), .inl (G.2 0, 6, .inl (fun _ => 0))), ((u10 1), .inl (G.2 0, 6, .inl (fun _ => 0))), ((u10 2), .inl (G.2 0, 6, .inl (fun _ => 0))), ((u10 3), .inl (G.2 0, 6, .inl (fun _ => 0))), ((u10 4), .inl (G.2 0, 6, .inl (fun _ => 0))), ((u10 5), .inl (G.2 1, 6, .inl (fun _ => 0))), ((u10 6), .inl (G.2 0, 6, .inl (fun _ => 0))), ((u10 7), .inl (G.2 0, 6, .inl (fun _ => 0)))]) C hin fp_RX9_19 (ws.length + 0) (gA 0 rfl) rfl rfl (Nat.le_of_ble_eq_true rfl) (pA 0 _) dX9_init_23 ?_
  refine v_aload_n C 0 rfl dX9_init_26 ?_
  refine v_new (ci := 4) (fs := [.int 0, .int 0, .int 0, .null, .null, .null, .int 0, .null]) C tyX5 rfl lay_X5 tyX5_ok w_274 w_275 w_56 df_X5 (Nat.le_of_ble_eq_true rfl) (Nat.le_of_ble_eq_true rfl) dX9_init_27 (fun q19 => ?_)
  refine v_dup C rfl dX9_init_30 ?_
  refine v_callIN (rest := [.ref q19, .ref a]) C (List.mem_of_getElem? (i := 6) rfl) w_277 w_56 w_278 rfl ⟨by decide +kernel, by decide +kernel, by decide +kernel⟩ (n_X5_init l G (ws ++ [(a, .inr (8, [.ref q1, .ref q10, .null, .null])), (q1, .inr (7, [.ref (u1 0), .ref (u1 3), .ref (u1 5), .ref (u1 6)])), ((u1 0), .inr (1, [.int (10 : Int32), .int (4 : Int32), .int (1 : Int32), .int 0, .int 0, .int 0, .int 0, .int 0, .int 0, .int 0, .int 0, .ref (u1 1), .ref (u1 2)])), ((u1 1), .inl (G.2 0, 4, .inl (fun _ => 0))), ((u1 2), .inl (G.2 0, 576, .inl (fun _ => 0))), ((u1 3), .inr (5, [.int 0, .int 0, .ref (u1 4)])), ((u1 4), .inl (G.2 2, 80, .inr (.inr (.inr (.inr (fun _ => none)))))), ((u1 5), .inr (6, [.int 0, .int (1 : Int32), .int (200 : Int32), .int (1000 : Int32)])), ((u1 6), .inr (0, [.int 0, .int 0, .ref (u1 7)])), ((u1 7), .inl (G.2 0, 8, .inl (fun _ => 0))), (q10, .inr (2, [.int 0, .int 0, .ref (u10 0), .ref (u10 1), .ref (u10 2), .ref (u10 3), .ref (u10 4), .ref (u10 5), .ref (u10 6), .ref (u10 7)])), ((u10 0), .inl (G.2 0, 6, .inl (fun _ => 0))), ((u10 1), .inl (G.2 0, 6, .inl (fun _ => 0))), ((u10 2), .inl (G.2 0, 6, .inl (fun _ => 0))), ((u10 3), .inl (G.2 0, 6, .inl (fun _ => 0))), ((u10 4), .inl (G.2 0, 6, .inl (fun _ => 0))), ((u10 5), .inl (G.2 1, 6, .inl (fun _ => 0))), ((u10 6), .inl (G.2 0, 6, .inl (fun _ => 0))), ((u10 7), .inl (G.2 0, 6, .inl (fun _ => 0)))]) q19) rfl rfl (Nat.le_of_ble_eq_true rfl) ⟨(Nat.le_of_ble_eq_true rfl), (Nat.le_of_ble_eq_true rfl)⟩ ⟨(Nat.le_of_ble_eq_true rfl), (Nat.le_of_ble_eq_true rfl)⟩ dX9_init_31 (fun u19 _ => ?_)
  refine v_eqw (List.append_assoc _ _ _) ?_
  show V zp l ze _ zs zm za zb zt zc _ G zA _ _ Q _ _ _ (ws ++ [(a, .inr (8, [.ref q1, .ref q10, .null, .null])), (q1, .inr (7, [.ref (u1 0), .ref (u1 3), .ref (u1 5), .ref (u1 6)])), ((u1 0), .inr (1, [.int (10 : Int32), .int (4 : Int32), .int (1 : Int32), .int 0, .int 0, .int 0, .int 0, .int 0, .int 0, .int 0, .int 0, .ref (u1 1), .ref (u1 2)])), ((u1 1), .inl (G.2 0, 4, .inl (fun _ => 0))), ((u1 2), .inl (G.2 0, 576, .inl (fun _ => 0))), ((u1 3), .inr (5, [.int 0, .int 0, .ref (u1 4)])), ((u1 4), .inl (G.2 2, 80, .inr (.inr (.inr (.inr (fun _ => none)))))), ((u1 5), .inr (6, [.int 0, .int (1 : Int32), .int (200 : Int32), .int (1000 : Int32)])), ((u1 6), .inr (0, [.int 0, .int 0, .ref (u1 7)])), ((u1 7), .inl (G.2 0, 8, .inl (fun _ => 0))), (q10, .inr (2, [.int 0, .int 0, .ref (u10 0), .ref (u10 1), .ref (u10 2), .ref (u10 3), .ref (u10 4), .ref (u10 5), .ref (u10 6), .ref (u10 7)])), ((u10 0), .inl (G.2 0, 6, .inl (fun _ => 0))), ((u10 1), .inl (G.2 0, 6, .inl (fun _ => 0))), ((u10 2), .inl (G.2 0, 6, .inl (fun _ => 0))), ((u10 3), .inl (G.2 0, 6, .inl (fun _ => 0))), ((u10 4), .inl (G.2 0, 6, .inl (fun _ => 0))), ((u10 5), .inl (G.2 1, 6, .inl (fun _ => 0))), ((u10 6), .inl (G.2 0, 6, .inl (fun _ => 0))), ((u10 7), .inl (G.2 0, 6, .inl (fun _ => 0))), (q19, .inr (4, [.int 0, .int (-1 : Int32), .int 0, .ref (u19 0), .ref (u19 1), .ref (u19 2), .int 0, .ref (u19 3)])), ((u19 0), .inl (G.2 0, 14, .inl (fun _ => 0))), ((u19 1), .inl (G.2 0, 14, .inl (fun _ => 0))), ((u19 2), .inl (G.2 0, 14, .inl (fun _ => 0))), ((u19 3), .inl (G.2 0, 40, .inl (fun _ => 0)))])
  refine v_putF (ws' := ws ++ [(a, .inr (8, [.ref q1, .ref q10, .ref q19, .null])), (q1, .inr (7, [.ref (u1 0), .ref (u1 3), .ref (u1 5), .ref (u1 6)])), ((u1 0), .inr (1, [.int (10 : Int32), .int (4 : Int32), .int (1 : Int32), .int 0, .int 0, .int 0, .int 0, .int 0, .int 0, .int 0, .int 0, .ref (u1 1), .ref (u1 2)])), ((u1 1), .inl (G.2 0, 4, .inl (fun _ => 0))), ((u1 2), .inl (G.2 0, 576, .inl (fun _ => 0))), ((u1 3), .inr (5, [.int 0, .int 0, .ref (u1 4)])), ((u1 4), .inl (G.2 2, 80, .inr (.inr (.inr (.inr (fun _ => none)))))), ((u1 5), .inr (6, [.int 0, .int (1 : Int32), .int (200 : Int32), .int (1000 : Int32)])), ((u1 6), .inr (0, [.int 0, .int 0, .ref (u1 7)])), ((u1 7), .inl (G.2 0, 8, .inl (fun _ => 0))), (q10, .inr (2, [.int 0, .int 0, .ref (u10 0), .ref (u10 1), .ref (u10 2), .ref (u10 3), .ref (u10 4), .ref (u10 5), .ref (u10 6), .ref (u10 7)])), ((u10 0), .inl (G.2 0, 6, .inl (fun _ => 0))), ((u10 1), .inl (G.2 0, 6, .inl (fun _ => 0))), ((u10 2), .inl (G.2 0, 6, .inl (fun _ => 0))), ((u10 3), .inl (G.2 0, 6, .inl (fun _ => 0))), ((u10 4), .inl (G.2 0, 6, .inl (fun _ => 0))), ((u10 5), .inl (G.2 1, 6, .inl (fun _ => 0))), ((u10 6), .inl (G.2 0, 6, .inl (fun _ => 0))), ((u10 7), .inl (G.2 0, 6, .inl (fun _ => 0))), (q19, .inr (4, [.int 0, .int (-1 : Int32), .int 0, .ref (u19 0), .ref (u19 1), .ref (u19 2), .int 0, .ref (u19 3)])), ((u19 0), .inl (G.2 0, 14, .inl (fun _ => 0))), ((u19 1), .inl (G.2 0, 14, .inl (fun _ => 0))), ((u19 2), .inl (G.2 0, 14, .inl (fun _ => 0))), ((u19 3), .inl (G.2 0, 40, .inl (fun _ => 0)))]) C hin fp_RX9_26 (ws.length + 0) (gA 0 rfl) rfl rfl (Nat.le_of_ble_eq_true rfl) (pA 0 _) dX9_init_34 ?_
  exact v_Q hQ (v_vret C (uF [q1, (u1 0), (u1 1), (u1 2), (u1 3), (u1 4), (u1 5), (u1 6), (u1 7), q10, (u10 0), (u10 1), (u10 2), (u10 3), (u10 4), (u10 5), (u10 6), (u10 7), q19, (u19 0), (u19 1), (u19 2), (u19 3)]) trivial rfl rfl (Nat.le_of_ble_eq_true rfl) (Nat.le_of_ble_eq_true rfl) dX9_init_37)
theorem df_X10 : ∀ j, j < 18 → defaultValue (tyX10 j) = vp_V [.null, .null, .int 0, .int 0, .null, .int 0, .int 0, .int 0, .int 0, .null, .int 0, .null, .null, .null, .null, .int 0, .int 0, .int 0] j := by
  intro j hj
  rcases (show j = 0 ∨ j = 1 ∨ j = 2 ∨ j = 3 ∨ j = 4 ∨ j = 5 ∨ j = 6 ∨ j = 7 ∨ j = 8 ∨ j = 9 ∨ j = 10 ∨ j = 11 ∨ j = 12 ∨ j = 13 ∨ j = 14 ∨ j = 15 ∨ j = 16 ∨ j = 17 by omega) with rfl | rfl | rfl | rfl | rfl | rfl | rfl | rfl | rfl | rfl | rfl | rfl | rfl | rfl | rfl | rfl | rfl | rfl <;> rfl
abbrev rm_X10_init : Room := { frames := 1, cells := 8, slots := 3548, locals := 30 }
def T_X10_init (G : GG) (a : Nat) (u : Nat → Nat) : va_W := [(a, .inr (9, [.ref (u 0), .ref (u 1), .int 0, .int 0, .ref (u 2), .int 0, .int 0, .int 0, .int (-1 : Int32), .ref (u 3), .int 0, .ref (u 4), .ref (u 5), .ref (u 6), .ref (u 7), .int 0, .int 0, .int 0])), ((u 0), .inl (G.2 0, 1700, .inl (upd ((upd ((upd ((upd ((upd ((upd ((fun _ => 0)) (0 : Int32).toNatClampNeg (10 : Int32))) (1 : Int32).toNatClampNeg (4 : Int32))) (2 : Int32).toNatClampNeg (1 : Int32))) (5 : Int32).toNatClampNeg (200 : Int32))) (6 : Int32).toNatClampNeg (1000 : Int32))) (10 : Int32).toNatClampNeg (1 : Int32)))), ((u 1), .inl (G.2 0, 1700, .inl (fun _ => 0))), ((u 2), .inl (G.2 0, 40, .inl (fun _ => 0))), ((u 3), .inl (G.2 0, 60, .inl (fun _ => 0))), ((u 4), .inl (G.2 0, 12, .inl (fun _ => 0))), ((u 5), .inl (G.2 0, 12, .inl (fun _ => 0))), ((u 6), .inl (G.2 0, 12, .inl (fun _ => 0))), ((u 7), .inl (G.2 1, 12, .inl (fun _ => 0)))]
set_option maxRecDepth 100000 in
set_option maxHeartbeats 400000 in
theorem n_X10_init (l : Launch) (G : GG) (ws : va_W) (a : Nat) : KE (S := Nat → Nat) l G yX10_init cX10_init 1 none rm_X10_init [.ref a] (ws ++ [(a, .inr (9, [.null, .null, .int 0, .int 0, .null, .int 0, .int 0, .int 0, .int 0, .null, .int 0, .null, .null, .null, .null, .int 0, .int 0, .int 0]))]) (fun _ => none) (fun u => ws ++ [(a, .inr (9, [.ref (u 0), .ref (u 1), .int 0, .int 0, .ref (u 2), .int 0, .int 0, .int 0, .int (-1 : Int32), .ref (u 3), .int 0, .ref (u 4), .ref (u 5), .ref (u 6), .ref (u 7), .int 0, .int 0, .int 0])), ((u 0), .inl (G.2 0, 1700, .inl (upd ((upd ((upd ((upd ((upd ((upd ((fun _ => 0)) (0 : Int32).toNatClampNeg (10 : Int32))) (1 : Int32).toNatClampNeg (4 : Int32))) (2 : Int32).toNatClampNeg (1 : Int32))) (5 : Int32).toNatClampNeg (200 : Int32))) (6 : Int32).toNatClampNeg (1000 : Int32))) (10 : Int32).toNatClampNeg (1 : Int32)))), ((u 1), .inl (G.2 0, 1700, .inl (fun _ => 0))), ((u 2), .inl (G.2 0, 40, .inl (fun _ => 0))), ((u 3), .inl (G.2 0, 60, .inl (fun _ => 0))), ((u 4), .inl (G.2 0, 12, .inl (fun _ => 0))), ((u 5), .inl (G.2 0, 12, .inl (fun _ => 0))), ((u 6), .inl (G.2 0, 12, .inl (fun _ => 0))), ((u 7), .inl (G.2 1, 12, .inl (fun _ => 0)))]) (fun _ => True) := by
  refine KE.of (S := Nat → Nat) (by decide) (Nat.le_of_ble_eq_true rfl) ?_
  intro zp ze zs zm za zb zt zc zA C hin
  generalize hQ : MQ zb _ za zs _ _ zA = Q
  show V zp l ze rm_X10_init zs zm za zb zt zc 1 G zA 0 0 Q 0 [(0, .ref a)] [] (ws ++ [(a, .inr (9, [.null, .null, .int 0, .int 0, .null, .int 0, .int 0, .int 0, .int 0, .null, .int 0, .null, .null, .null, .null, .int 0, .int 0, .int 0]))])
  refine v_aload_n C 0 rfl dX10_init_0 ?_
  refine v_objI C w_1163 (Nat.le_of_ble_eq_true rfl) (Nat.le_of_ble_eq_true rfl) dX10_init_1 ?_
  refine v_aload_n C 0 rfl dX10_init_4 ?_
  refine v_sipush (v := (1700 : Int32)) C (by decide) dX10_init_5 ?_
  refine v_newa (atype := .int) (a0 := (1700, .inl (fun _ => 0))) (N := 1700) C 0 w_150 rfl rfl RAn_int (fun _ => rfl) (by decide) (by decide) (by decide) (Nat.le_of_ble_eq_true rfl) (Nat.le_of_ble_eq_true rfl) dX10_init_8 (fun q1 => ?_)
  refine v_eqw (List.append_assoc _ _ _) ?_
  show V zp l ze _ zs zm za zb zt zc _ G zA _ _ Q _ _ _ (ws ++ [(a, .inr (9, [.null, .null, .int 0, .int 0, .null, .int 0, .int 0, .int 0, .int 0, .null, .int 0, .null, .null, .null, .null, .int 0, .int 0, .int 0])), (q1, .inl (G.2 0, 1700, .inl (fun _ => 0)))])
  refine v_putF (ws' := ws ++ [(a, .inr (9, [.ref q1, .null, .int 0, .int 0, .null, .int 0, .int 0, .int 0, .int 0, .null, .int 0, .null, .null, .null, .null, .int 0, .int 0, .int 0])), (q1, .inl (G.2 0, 1700, .inl (fun _ => 0)))]) C hin fp_RX10_7 (ws.length + 0) (gA 0 rfl) rfl rfl (Nat.le_of_ble_eq_true rfl) (pA 0 _) dX10_init_10 ?_
  refine v_aload_n C 0 rfl dX10_init_13 ?_
  refine v_sipush (v := (1700 : Int32)) C (by decide) dX10_init_14 ?_
  refine v_newa (atype := .int) (a0 := (1700, .inl (fun _ => 0))) (N := 1700) C 0 w_150 rfl rfl RAn_int (fun _ => rfl) (by decide) (by decide) (by decide) (Nat.le_of_ble_eq_true rfl) (Nat.le_of_ble_eq_true rfl) dX10_init_17 (fun q2 => ?_)
  refine v_eqw (List.append_assoc _ _ _) ?_
  show V zp l ze _ zs zm za zb zt zc _ G zA _ _ Q _ _ _ (ws ++ [(a, .inr (9, [.ref q1, .null, .int 0, .int 0, .null, .int 0, .int 0, .int 0, .int 0, .null, .int 0, .null, .null, .null, .null, .int 0, .int 0, .int 0])), (q1, .inl (G.2 0, 1700, .inl (fun _ => 0))), (q2, .inl (G.2 0, 1700, .inl (fun _ => 0)))])
  refine v_putF (ws' := ws ++ [(a, .inr (9, [.ref q1, .ref q2, .int 0, .int 0, .null, .int 0, .int 0, .int 0, .int 0, .null, .int 0, .null, .null, .null, .null, .int 0, .int 0, .int 0])), (q1, .inl (G.2 0, 1700, .inl (fun _ => 0))), (q2, .inl (G.2 0, 1700, .inl (fun _ => 0)))]) C hin fp_RX10_13 (ws.length + 0) (gA 0 rfl) rfl rfl (Nat.le_of_ble_eq_true rfl) (pA 0 _) dX10_init_19 ?_
  refine v_aload_n C 0 rfl dX10_init_22 ?_
  refine v_bipush (v := (40 : Int32)) C (by decide) dX10_init_23 ?_
  refine v_newa (atype := .int) (a0 := (40, .inl (fun _ => 0))) (N := 40) C 0 w_150 rfl rfl RAn_int (fun _ => rfl) (by decide) (by decide) (by decide) (Nat.le_of_ble_eq_true rfl) (Nat.le_of_ble_eq_true rfl) dX10_init_25 (fun q3 => ?_)
  refine v_eqw (List.append_assoc _ _ _) ?_
  show V zp l ze _ zs zm za zb zt zc _ G zA _ _ Q _ _ _ (ws ++ [(a, .inr (9, [.ref q1, .ref q2, .int 0, .int 0, .null, .int 0, .int 0, .int 0, .int 0, .null, .int 0, .null, .null, .null, .null, .int 0, .int 0, .int 0])), (q1, .inl (G.2 0, 1700, .inl (fun _ => 0))), (q2, .inl (G.2 0, 1700, .inl (fun _ => 0))), (q3, .inl (G.2 0, 40, .inl (fun _ => 0)))])
  refine v_putF (ws' := ws ++ [(a, .inr (9, [.ref q1, .ref q2, .int 0, .int 0, .ref q3, .int 0, .int 0, .int 0, .int 0, .null, .int 0, .null, .null, .null, .null, .int 0, .int 0, .int 0])), (q1, .inl (G.2 0, 1700, .inl (fun _ => 0))), (q2, .inl (G.2 0, 1700, .inl (fun _ => 0))), (q3, .inl (G.2 0, 40, .inl (fun _ => 0)))]) C hin fp_RX10_16 (ws.length + 0) (gA 0 rfl) rfl rfl (Nat.le_of_ble_eq_true rfl) (pA 0 _) dX10_init_27 ?_
  refine v_aload_n C 0 rfl dX10_init_30 ?_
  refine v_iconst (v := (-1 : Int32)) C (by decide) dX10_init_31 ?_
  refine v_put (ws' := ws ++ [(a, .inr (9, [.ref q1, .ref q2, .int 0, .int 0, .ref q3, .int 0, .int 0, .int 0, .int (-1 : Int32), .null, .int 0, .null, .null, .null, .null, .int 0, .int 0, .int 0])), (q1, .inl (G.2 0, 1700, .inl (fun _ => 0))), (q2, .inl (G.2 0, 1700, .inl (fun _ => 0))), (q3, .inl (G.2 0, 40, .inl (fun _ => 0)))]) C fp_RX10_19 (ws.length + 0) (gA 0 rfl) rfl rfl (Nat.le_of_ble_eq_true rfl) (pA 0 _) dX10_init_32 ?_
  refine v_aload_n C 0 rfl dX10_init_35 ?_
  refine v_bipush (v := (60 : Int32)) C (by decide) dX10_init_36 ?_
  refine v_newa (atype := .int) (a0 := (60, .inl (fun _ => 0))) (N := 60) C 0 w_150 rfl rfl RAn_int (fun _ => rfl) (by decide) (by decide) (by decide) (Nat.le_of_ble_eq_true rfl) (Nat.le_of_ble_eq_true rfl) dX10_init_38 (fun q4 => ?_)
  refine v_eqw (List.append_assoc _ _ _) ?_
  show V zp l ze _ zs zm za zb zt zc _ G zA _ _ Q _ _ _ (ws ++ [(a, .inr (9, [.ref q1, .ref q2, .int 0, .int 0, .ref q3, .int 0, .int 0, .int 0, .int (-1 : Int32), .null, .int 0, .null, .null, .null, .null, .int 0, .int 0, .int 0])), (q1, .inl (G.2 0, 1700, .inl (fun _ => 0))), (q2, .inl (G.2 0, 1700, .inl (fun _ => 0))), (q3, .inl (G.2 0, 40, .inl (fun _ => 0))), (q4, .inl (G.2 0, 60, .inl (fun _ => 0)))])
  refine v_putF (ws' := ws ++ [(a, .inr (9, [.ref q1, .ref q2, .int 0, .int 0, .ref q3, .int 0, .int 0, .int 0, .int (-1 : Int32), .ref q4, .int 0, .null, .null, .null, .null, .int 0, .int 0, .int 0])), (q1, .inl (G.2 0, 1700, .inl (fun _ => 0))), (q2, .inl (G.2 0, 1700, .inl (fun _ => 0))), (q3, .inl (G.2 0, 40, .inl (fun _ => 0))), (q4, .inl (G.2 0, 60, .inl (fun _ => 0)))]) C hin fp_RX10_23 (ws.length + 0) (gA 0 rfl) rfl rfl (Nat.le_of_ble_eq_true rfl) (pA 0 _) dX10_init_40 ?_
  refine v_aload_n C 0 rfl dX10_init_43 ?_
  refine v_bipush (v := (12 : Int32)) C (by decide) dX10_init_44 ?_
  refine v_newa (atype := .int) (a0 := (12, .inl (fun _ => 0))) (N := 12) C 0 w_150 rfl rfl RAn_int (fun _ => rfl) (by decide) (by decide) (by decide) (Nat.le_of_ble_eq_true rfl) (Nat.le_of_ble_eq_true rfl) dX10_init_46 (fun q5 => ?_)
  refine v_eqw (List.append_assoc _ _ _) ?_
  show V zp l ze _ zs zm za zb zt zc _ G zA _ _ Q _ _ _ (ws ++ [(a, .inr (9, [.ref q1, .ref q2, .int 0, .int 0, .ref q3, .int 0, .int 0, .int 0, .int (-1 : Int32), .ref q4, .int 0, .null, .null, .null, .null, .int 0, .int 0, .int 0])), (q1, .inl (G.2 0, 1700, .inl (fun _ => 0))), (q2, .inl (G.2 0, 1700, .inl (fun _ => 0))), (q3, .inl (G.2 0, 40, .inl (fun _ => 0))), (q4, .inl (G.2 0, 60, .inl (fun _ => 0))), (q5, .inl (G.2 0, 12, .inl (fun _ => 0)))])
  refine v_putF (ws' := ws ++ [(a, .inr (9, [.ref q1, .ref q2, .int 0, .int 0, .ref q3, .int 0, .int 0, .int 0, .int (-1 : Int32), .ref q4, .int 0, .ref q5, .null, .null, .null, .int 0, .int 0, .int 0])), (q1, .inl (G.2 0, 1700, .inl (fun _ => 0))), (q2, .inl (G.2 0, 1700, .inl (fun _ => 0))), (q3, .inl (G.2 0, 40, .inl (fun _ => 0))), (q4, .inl (G.2 0, 60, .inl (fun _ => 0))), (q5, .inl (G.2 0, 12, .inl (fun _ => 0)))]) C hin fp_RX10_26 (ws.length + 0) (gA 0 rfl) rfl rfl (Nat.le_of_ble_eq_true rfl) (pA 0 _) dX10_init_48 ?_
  refine v_aload_n C 0 rfl dX10_init_51 ?_
  refine v_bipush (v := (12 : Int32)) C (by decide) dX10_init_52 ?_
  refine v_newa (atype := .int) (a0 := (12, .inl (fun _ => 0))) (N := 12) C 0 w_150 rfl rfl RAn_int (fun _ => rfl) (by decide) (by decide) (by decide) (Nat.le_of_ble_eq_true rfl) (Nat.le_of_ble_eq_true rfl) dX10_init_54 (fun q6 => ?_)
  refine v_eqw (List.append_assoc _ _ _) ?_
  show V zp l ze _ zs zm za zb zt zc _ G zA _ _ Q _ _ _ (ws ++ [(a, .inr (9, [.ref q1, .ref q2, .int 0, .int 0, .ref q3, .int 0, .int 0, .int 0, .int (-1 : Int32), .ref q4, .int 0, .ref q5, .null, .null, .null, .int 0, .int 0, .int 0])), (q1, .inl (G.2 0, 1700, .inl (fun _ => 0))), (q2, .inl (G.2 0, 1700, .inl (fun _ => 0))), (q3, .inl (G.2 0, 40, .inl (fun _ => 0))), (q4, .inl (G.2 0, 60, .inl (fun _ => 0))), (q5, .inl (G.2 0, 12, .inl (fun _ => 0))), (q6, .inl (G.2 0, 12, .inl (fun _ => 0)))])
  refine v_putF (ws' := ws ++ [(a, .inr (9, [.ref q1, .ref q2, .int 0, .int 0, .ref q3, .int 0, .int 0, .int 0, .int (-1 : Int32), .ref q4, .int 0, .ref q5, .ref q6, .null, .null, .int 0, .int 0, .int 0])), (q1, .inl (G.2 0, 1700, .inl (fun _ => 0))), (q2, .inl (G.2 0, 1700, .inl (fun _ => 0))), (q3, .inl (G.2 0, 40, .inl (fun _ => 0))), (q4, .inl (G.2 0, 60, .inl (fun _ => 0))), (q5, .inl (G.2 0, 12, .inl (fun _ => 0))), (q6, .inl (G.2 0, 12, .inl (fun _ => 0)))]) C hin fp_RX10_29 (ws.length + 0) (gA 0 rfl) rfl rfl (Nat.le_of_ble_eq_true rfl) (pA 0 _) dX10_init_56 ?_
  refine v_aload_n C 0 rfl dX10_init_59 ?_
  refine v_bipush (v := (12 : Int32)) C (by decide) dX10_init_60 ?_
  refine v_newa (atype := .int) (a0 := (12, .inl (fun _ => 0))) (N := 12) C 0 w_150 rfl rfl RAn_int (fun _ => rfl) (by decide) (by decide) (by decide) (Nat.le_of_ble_eq_true rfl) (Nat.le_of_ble_eq_true rfl) dX10_init_62 (fun q7 => ?_)
  refine v_eqw (List.append_assoc _ _ _) ?_
  show V zp l ze _ zs zm za zb zt zc _ G zA _ _ Q _ _ _ (ws ++ [(a, .inr (9, [.ref q1, .ref q2, .int 0, .int 0, .ref q3, .int 0, .int 0, .int 0, .int (-1 : Int32), .ref q4, .int 0, .ref q5, .ref q6, .null, .null, .int 0, .int 0, .int 0])), (q1, .inl (G.2 0, 1700, .inl (fun _ => 0))), (q2, .inl (G.2 0, 1700, .inl (fun _ => 0))), (q3, .inl (G.2 0, 40, .inl (fun _ => 0))), (q4, .inl (G.2 0, 60, .inl (fun _ => 0))), (q5, .inl (G.2 0, 12, .inl (fun _ => 0))), (q6, .inl (G.2 0, 12, .inl (fun _ => 0))), (q7, .inl (G.2 0, 12, .inl (fun _ => 0)))])
  refine v_putF (ws' := ws ++ [(a, .inr (9, [.ref q1, .ref q2, .int 0, .int 0, .ref q3, .int 0, .int 0, .int 0, .int (-1 : Int32), .ref q4, .int 0, .ref q5, .ref q6, .ref q7, .null, .int 0, .int 0, .int 0])), (q1, .inl (G.2 0, 1700, .inl (fun _ => 0))), (q2, .inl (G.2 0, 1700, .inl (fun _ => 0))), (q3, .inl (G.2 0, 40, .inl (fun _ => 0))), (q4, .inl (G.2 0, 60, .inl (fun _ => 0))), (q5, .inl (G.2 0, 12, .inl (fun _ => 0))), (q6, .inl (G.2 0, 12, .inl (fun _ => 0))), (q7, .inl (G.2 0, 12, .inl (fun _ => 0)))]) C hin fp_RX10_32 (ws.length + 0) (gA 0 rfl) rfl rfl (Nat.le_of_ble_eq_true rfl) (pA 0 _) dX10_init_64 ?_
  refine v_aload_n C 0 rfl dX10_init_67 ?_
  refine v_bipush (v := (12 : Int32)) C (by decide) dX10_init_68 ?_
  refine v_newa (atype := .boolean) (a0 := (12, .inl (fun _ => 0))) (N := 12) C 1 w_273 rfl rfl RAn_bool (fun _ => rfl) (by decide) (by decide) (by decide) (Nat.le_of_ble_eq_true rfl) (Nat.le_of_ble_eq_true rfl) dX10_init_70 (fun q8 => ?_)
  refine v_eqw (List.append_assoc _ _ _) ?_
  show V zp l ze _ zs zm za zb zt zc _ G zA _ _ Q _ _ _ (ws ++ [(a, .inr (9, [.ref q1, .ref q2, .int 0, .int 0, .ref q3, .int 0, .int 0, .int 0, .int (-1 : Int32), .ref q4, .int 0, .ref q5, .ref q6, .ref q7, .null, .int 0, .int 0, .int 0])), (q1, .inl (G.2 0, 1700, .inl (fun _ => 0))), (q2, .inl (G.2 0, 1700, .inl (fun _ => 0))), (q3, .inl (G.2 0, 40, .inl (fun _ => 0))), (q4, .inl (G.2 0, 60, .inl (fun _ => 0))), (q5, .inl (G.2 0, 12, .inl (fun _ => 0))), (q6, .inl (G.2 0, 12, .inl (fun _ => 0))), (q7, .inl (G.2 0, 12, .inl (fun _ => 0))), (q8, .inl (G.2 1, 12, .inl (fun _ => 0)))])
  refine v_putF (ws' := ws ++ [(a, .inr (9, [.ref q1, .ref q2, .int 0, .int 0, .ref q3, .int 0, .int 0, .int 0, .int (-1 : Int32), .ref q4, .int 0, .ref q5, .ref q6, .ref q7, .ref q8, .int 0, .int 0, .int 0])), (q1, .inl (G.2 0, 1700, .inl (fun _ => 0))), (q2, .inl (G.2 0, 1700, .inl (fun _ => 0))), (q3, .inl (G.2 0, 40, .inl (fun _ => 0))), (q4, .inl (G.2 0, 60, .inl (fun _ => 0))), (q5, .inl (G.2 0, 12, .inl (fun _ => 0))), (q6, .inl (G.2 0, 12, .inl (fun _ => 0))), (q7, .inl (G.2 0, 12, .inl (fun _ => 0))), (q8, .inl (G.2 1, 12, .inl (fun _ => 0)))]) C hin fp_RX10_35 (ws.length + 0) (gA 0 rfl) rfl rfl (Nat.le_of_ble_eq_true rfl) (pA 0 _) dX10_init_72 ?_
  refine v_aload_n C 0 rfl dX10_init_75 ?_
  refine v_get C fl_RX10_7 (ws.length + 0) (gA 0 rfl) rfl dX10_init_76 ?_
  refine v_iconst (v := (0 : Int32)) C (by decide) dX10_init_79 ?_
  refine v_bipush (v := (10 : Int32)) C (by decide) dX10_init_80 ?_
  refine v_iast (ws' := ws ++ [(a, .inr (9, [.ref q1, .ref q2, .int 0, .int 0, .ref q3, .int 0, .int 0, .int 0, .int (-1 : Int32), .ref q4, .int 0, .ref q5, .ref q6, .ref q7, .ref q8, .int 0, .int 0, .int 0])), (q1, .inl (G.2 0, 1700, .inl (upd ((fun _ => 0)) (0 : Int32).toNatClampNeg (10 : Int32)))), (q2, .inl (G.2 0, 1700, .inl (fun _ => 0))), (q3, .inl (G.2 0, 40, .inl (fun _ => 0))), (q4, .inl (G.2 0, 60, .inl (fun _ => 0))), (q5, .inl (G.2 0, 12, .inl (fun _ => 0))), (q6, .inl (G.2 0, 12, .inl (fun _ => 0))), (q7, .inl (G.2 0, 12, .inl (fun _ => 0))), (q8, .inl (G.2 1, 12, .inl (fun _ => 0)))]) C (ws.length + 1) (gA 1 rfl) (vp_lit (k := 0) (by decide) (by decide) (by decide)) (pA 1 _) dX10_init_82 ?_
  refine v_aload_n C 0 rfl dX10_init_83 ?_
  refine v_get C fl_RX10_7 (ws.length + 0) (gA 0 rfl) rfl dX10_init_84 ?_
  refine v_iconst (v := (1 : Int32)) C (by decide) dX10_init_87 ?_
  refine v_iconst (v := (4 : Int32)) C (by decide) dX10_init_88 ?_
  refine v_iast (ws' := ws ++ [(a, .inr (9, [.ref q1, .ref q2, .int 0, .int 0, .ref q3, .int 0, .int 0, .int 0, .int (-1 : Int32), .ref q4, .int 0, .ref q5, .ref q6, .ref q7, .ref q8, .int 0, .int 0, .int 0])), (q1, .inl (G.2 0, 1700, .inl (upd ((upd ((fun _ => 0)) (0 : Int32).toNatClampNeg (10 : Int32))) (1 : Int32).toNatClampNeg (4 : Int32)))), (q2, .inl (G.2 0, 1700, .inl (fun _ => 0))), (q3, .inl (G.2 0, 40, .inl (fun _ => 0))), (q4, .inl (G.2 0, 60, .inl (fun _ => 0))), (q5, .inl (G.2 0, 12, .inl (fun _ => 0))), (q6, .inl (G.2 0, 12, .inl (fun _ => 0))), (q7, .inl (G.2 0, 12, .inl (fun _ => 0))), (q8, .inl (G.2 1, 12, .inl (fun _ => 0)))]) C (ws.length + 1) (gA 1 rfl) (vp_lit (k := 1) (by decide) (by decide) (by decide)) (pA 1 _) dX10_init_89 ?_
  refine v_aload_n C 0 rfl dX10_init_90 ?_
  refine v_get C fl_RX10_7 (ws.length + 0) (gA 0 rfl) rfl dX10_init_91 ?_
  refine v_iconst (v := (2 : Int32)) C (by decide) dX10_init_94 ?_
  refine v_iconst (v := (1 : Int32)) C (by decide) dX10_init_95 ?_
  refine v_iast (ws' := ws ++ [(a, .inr (9, [.ref q1, .ref q2, .int 0, .int 0, .ref q3, .int 0, .int 0, .int 0, .int (-1 : Int32), .ref q4, .int 0, .ref q5, .ref q6, .ref q7, .ref q8, .int 0, .int 0, .int 0])), (q1, .inl (G.2 0, 1700, .inl (upd ((upd ((upd ((fun _ => 0)) (0 : Int32).toNatClampNeg (10 : Int32))) (1 : Int32).toNatClampNeg (4 : Int32))) (2 : Int32).toNatClampNeg (1 : Int32)))), (q2, .inl (G.2 0, 1700, .inl (fun _ => 0))), (q3, .inl (G.2 0, 40, .inl (fun _ => 0))), (q4, .inl (G.2 0, 60, .inl (fun _ => 0))), (q5, .inl (G.2 0, 12, .inl (fun _ => 0))), (q6, .inl (G.2 0, 12, .inl (fun _ => 0))), (q7, .inl (G.2 0, 12, .inl (fun _ => 0))), (q8, .inl (G.2 1, 12, .inl (fun _ => 0)))]) C (ws.length + 1) (gA 1 rfl) (vp_lit (k := 2) (by decide) (by decide) (by decide)) (pA 1 _) dX10_init_96 ?_
  refine v_aload_n C 0 rfl dX10_init_97 ?_
  refine v_get C fl_RX10_7 (ws.length + 0) (gA 0 rfl) rfl dX10_init_98 ?_
  refine v_iconst (v := (5 : Int32)) C (by decide) dX10_init_101 ?_
  refine v_sipush (v := (200 : Int32)) C (by decide) dX10_init_102 ?_
  refine v_iast (ws' := ws ++ [(a, .inr (9, [.ref q1, .ref q2, .int 0, .int 0, .ref q3, .int 0, .int 0, .int 0, .int (-1 : Int32), .ref q4, .int 0, .ref q5, .ref q6, .ref q7, .ref q8, .int 0, .int 0, .int 0])), (q1, .inl (G.2 0, 1700, .inl (upd ((upd ((upd ((upd ((fun _ => 0)) (0 : Int32).toNatClampNeg (10 : Int32))) (1 : Int32).toNatClampNeg (4 : Int32))) (2 : Int32).toNatClampNeg (1 : Int32))) (5 : Int32).toNatClampNeg (200 : Int32)))), (q2, .inl (G.2 0, 1700, .inl (fun _ => 0))), (q3, .inl (G.2 0, 40, .inl (fun _ => 0))), (q4, .inl (G.2 0, 60, .inl (fun _ => 0))), (q5, .inl (G.2 0, 12, .inl (fun _ => 0))), (q6, .inl (G.2 0, 12, .inl (fun _ => 0))), (q7, .inl (G.2 0, 12, .inl (fun _ => 0))), (q8, .inl (G.2 1, 12, .inl (fun _ => 0)))]) C (ws.length + 1) (gA 1 rfl) (vp_lit (k := 5) (by decide) (by decide) (by decide)) (pA 1 _) dX10_init_105 ?_
  refine v_aload_n C 0 rfl dX10_init_106 ?_
  refine v_get C fl_RX10_7 (ws.length + 0) (gA 0 rfl) rfl dX10_init_107 ?_
  refine v_bipush (v := (6 : Int32)) C (by decide) dX10_init_110 ?_
  refine v_sipush (v := (1000 : Int32)) C (by decide) dX10_init_112 ?_
  refine v_iast (ws' := ws ++ [(a, .inr (9, [.ref q1, .ref q2, .int 0, .int 0, .ref q3, .int 0, .int 0, .int 0, .int (-1 : Int32), .ref q4, .int 0, .ref q5, .ref q6, .ref q7, .ref q8, .int 0, .int 0, .int 0])), (q1, .inl (G.2 0, 1700, .inl (upd ((upd ((upd ((upd ((upd ((fun _ => 0)) (0 : Int32).toNatClampNeg (10 : Int32))) (1 : Int32).toNatClampNeg (4 : Int32))) (2 : Int32).toNatClampNeg (1 : Int32))) (5 : Int32).toNatClampNeg (200 : Int32))) (6 : Int32).toNatClampNeg (1000 : Int32)))), (q2, .inl (G.2 0, 1700, .inl (fun _ => 0))), (q3, .inl (G.2 0, 40, .inl (fun _ => 0))), (q4, .inl (G.2 0, 60, .inl (fun _ => 0))), (q5, .inl (G.2 0, 12, .inl (fun _ => 0))), (q6, .inl (G.2 0, 12, .inl (fun _ => 0))), (q7, .inl (G.2 0, 12, .inl (fun _ => 0))), (q8, .inl (G.2 1, 12, .inl (fun _ => 0)))]) C (ws.length + 1) (gA 1 rfl) (vp_lit (k := 6) (by decide) (by decide) (by decide)) (pA 1 _) dX10_init_115 ?_
  refine v_aload_n C 0 rfl dX10_init_116 ?_
  refine v_get C fl_RX10_7 (ws.length + 0) (gA 0 rfl) rfl dX10_init_117 ?_
  refine v_bipush (v := (10 : Int32)) C (by decide) dX10_init_120 ?_
  refine v_iconst (v := (1 : Int32)) C (by decide) dX10_init_122 ?_
  refine v_iast (ws' := ws ++ [(a, .inr (9, [.ref q1, .ref q2, .int 0, .int 0, .ref q3, .int 0, .int 0, .int 0, .int (-1 : Int32), .ref q4, .int 0, .ref q5, .ref q6, .ref q7, .ref q8, .int 0, .int 0, .int 0])), (q1, .inl (G.2 0, 1700, .inl (upd ((upd ((upd ((upd ((upd ((upd ((fun _ => 0)) (0 : Int32).toNatClampNeg (10 : Int32))) (1 : Int32).toNatClampNeg (4 : Int32))) (2 : Int32).toNatClampNeg (1 : Int32))) (5 : Int32).toNatClampNeg (200 : Int32))) (6 : Int32).toNatClampNeg (1000 : Int32))) (10 : Int32).toNatClampNeg (1 : Int32)))), (q2, .inl (G.2 0, 1700, .inl (fun _ => 0))), (q3, .inl (G.2 0, 40, .inl (fun _ => 0))), (q4, .inl (G.2 0, 60, .inl (fun _ => 0))), (q5, .inl (G.2 0, 12, .inl (fun _ => 0))), (q6, .inl (G.2 0, 12, .inl (fun _ => 0))), (q7, .inl (G.2 0, 12, .inl (fun _ => 0))), (q8, .inl (G.2 1, 12, .inl (fun _ => 0)))]) C (ws.length + 1) (gA 1 rfl) (vp_lit (k := 10) (by decide) (by decide) (by decide)) (pA 1 _) dX10_init_123 ?_
  exact v_Q hQ (v_vret C (uF [q1, q2, q3, q4, q5, q6, q7, q8]) trivial rfl rfl (Nat.le_of_ble_eq_true rfl) (Nat.le_of_ble_eq_true rfl) dX10_init_124)
