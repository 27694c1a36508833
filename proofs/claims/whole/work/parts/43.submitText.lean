theorem makeDirty_5 (σ : Sg) (b : Int32) : F_X0_makeDirty σ b 5 = σ 5 := by unfold F_X0_makeDirty; (repeat' split) <;> rfl
theorem accept_5 (σ : Sg) (cn : Nat) (k b a : Int32) : (F_X8_accept σ cn k b a).2 5 0 = σ 5 0 + 1 := by
  unfold F_X8_accept
  (repeat' split) <;> first | rfl | (simp only []; rw [makeDirty_5]; rfl)
theorem CNT.acc {E : EE} {u u2 : Nat → Nat} {K : Nat} {σ : Sg} {k b a : Int32} (h : CNT (EK E u K) σ) (hr : ¬ F_X8_hasRoomFor σ k b = 0) : CNT (EK E u2 (max K ((σ 5 0).toNatClampNeg + 1))) (F_X8_accept σ (σ 5 0).toNatClampNeg k b a).2 := by
  obtain ⟨n, h80, hn, en⟩ := h
  have hlt := room_80 en h80 hr
  have hc : (σ 5 0).toNatClampNeg = n := by rw [en]; exact nIc hlt
  rw [hc]
  exact ⟨n + 1, by omega, Nat.le_max_right _ _, by rw [accept_5, en]; exact nI_1 n⟩
theorem CNT.cl {E : EE} {σ : Sg} (h : CNT E σ) : σ 5 0 = nI (σ 5 0).toNatClampNeg ∧ (σ 5 0).toNatClampNeg ≤ 80 ∧ (σ 5 0).toNatClampNeg ≤ E.2.2.1 := by
  obtain ⟨n, h80, hn, en⟩ := h
  have hc : (σ 5 0).toNatClampNeg = n := by rw [en]; exact nI_clamp (by omega)
  rw [hc]; exact ⟨en, h80, hn⟩
def L_X9_submitText : Nat → Int32 → Int32 → Sg → Int32 × Sg
  | 0, su, x, σ1 => (su, σ1)
  | n + 1, su, x, σ1 => (if (σ1 19 2) ≤ x then (su, σ1) else (if (14 : Int32) ≤ x then (su, σ1) else (if (F_X9_isBlock (σ1 21 (x).toNatClampNeg)) = 0 then L_X9_submitText n su (x + (1 : Int32)) σ1 else (if (F_X8_hasRoomFor σ1 (σ1 20 (x).toNatClampNeg) (σ1 21 (x).toNatClampNeg)) = 0 then L_X9_submitText n su (x + (1 : Int32)) σ1 else L_X9_submitText n (su + (1 : Int32)) (x + (1 : Int32)) (F_X8_accept σ1 ((σ1 5 0).toNatClampNeg) (σ1 20 (x).toNatClampNeg) (σ1 21 (x).toNatClampNeg) (σ1 22 (x).toNatClampNeg)).2))))
def F_X9_submitText (σ : Sg) : Int32 × Sg := (let r1 := F_X5_read σ; (if r1.1 = 0 then (0, r1.2) else L_X9_submitText 15 (0 : Int32) (0 : Int32) r1.2))
def X_X9_submitText (σ : Sg) : Nat := (let r1 := F_X5_read σ; (if r1.1 = 0 then 1 else 0))
abbrev rm_X9_submitText : Room := { frames := 6, cells := 16, slots := 96, locals := 179 }
theorem skip_5 (σ : Sg) (ch : Int32) : (F_X5_skip σ ch).2 5 = σ 5 := by unfold F_X5_skip; (repeat' split) <;> rfl
theorem keep_5 (σ : Sg) (a b d : Int32) : (F_X5_keepItem σ a b d).2 5 = σ 5 := by unfold F_X5_keepItem; (repeat' split) <;> rfl
theorem L_rn_5 {σ : Sg} {md : Int32} : ∀ (n : Nat) (nu x : Int32) (σ1 : Sg), σ1 5 = σ 5 → (L_X5_readNumber_4 σ md n nu x σ1).2 5 = σ 5 := by
  intro n
  induction n with
  | zero => intro nu x σ1 h; rfl
  | succ n ih =>
    intro nu x σ1 h
    rw [L_X5_readNumber_4]
    (repeat' split) <;> first | exact h | exact ih _ _ _ h
theorem rn_5 (σ : Sg) (md : Int32) : (F_X5_readNumber σ md).2 5 = σ 5 := by unfold F_X5_readNumber; exact L_rn_5 _ _ _ _ rfl
theorem ri_5 (σ : Sg) : (F_X5_readItem σ).2 5 = σ 5 := by
  unfold F_X5_readItem
  simp only []
  (repeat' split) <;> simp only [keep_5, rn_5, skip_5]
theorem L_ris_5 {σ : Sg} : ∀ (n : Nat) (x : Int32) (σ1 : Sg), σ1 5 = σ 5 → (L_X5_readItems_2 σ n x σ1).2 5 = σ 5 := by
  intro n
  induction n with
  | zero => intro x σ1 h; rfl
  | succ n ih =>
    intro x σ1 h
    rw [L_X5_readItems_2]
    simp only []
    (repeat' split) <;> first | with_reducible exact h | (simp only [ri_5, skip_5]; with_reducible exact h) | with_reducible exact ih _ _ (by simp only [ri_5, skip_5]; exact h)
theorem ris_5 (σ : Sg) : (F_X5_readItems σ).2 5 = σ 5 := by unfold F_X5_readItems; exact L_ris_5 _ _ _ rfl
theorem read_5' (σ : Sg) : (F_X5_read σ).2 5 = σ 5 := by
  have h := ris_5 (s2 (s2 σ 19 3 (0 : Int32)) 19 2 (0 : Int32))
  unfold F_X5_read
  generalize F_X5_readItems _ = r at h ⊢
  simp only []
  split <;> exact h
theorem read_5 {σ : Sg} {r : Int32 × Sg} (h : F_X5_read σ = r) : r.2 5 0 = σ 5 0 := by rw [← h, read_5']
set_option maxRecDepth 100000 in
set_option maxHeartbeats 2000000 in
theorem m_X9_submitText (l : Launch) (G : GG) (E : EE) (σ μ : Sg) (Y : va_W) (htr : l.stackTraces = false) (hK : CNT E σ) : KX (S := (Nat → Nat) × Nat) l G yX9_submitText cX9_submitText 3 (some .int) rm_X9_submitText [.ref (E.1 0)] (Wd G E σ μ Y) (fun _ => some (.int (F_X9_submitText σ).1)) (fun p => Wd G (EK E p.1 p.2) (F_X9_submitText σ).2 μ Y) (fun p => ((∃ n : Nat, n ≤ 80 ∧ n ≤ p.2 ∧ (F_X9_submitText σ).2 5 0 = nI n) ∧ E.2.2.1 ≤ p.2) ∧ X_X9_submitText σ = 0) (Wd G E (F_X9_submitText σ).2 μ Y) (fun Ex => Ex = exn (X_X9_submitText σ) ∧ ¬ X_X9_submitText σ = 0) := by
  refine KX.of (by decide) (Nat.le_of_ble_eq_true rfl) ?_
  intro zp ze zs zm za zb zt zc zA C htab
  let Q := vx_MQ zb (QcW (S := (Nat → Nat) × Nat) G zA (fun _ => some (.int (F_X9_submitText σ).1)) (fun p => Wd G (EK E p.1 p.2) (F_X9_submitText σ).2 μ Y) (fun p => ((∃ n : Nat, n ≤ 80 ∧ n ≤ p.2 ∧ (F_X9_submitText σ).2 5 0 = nI n) ∧ E.2.2.1 ≤ p.2) ∧ X_X9_submitText σ = 0)) (XcW G zA (Wd G E (F_X9_submitText σ).2 μ Y) (fun Ex => Ex = exn (X_X9_submitText σ) ∧ ¬ X_X9_submitText σ = 0)) za zs rm_X9_submitText.cells rm_X9_submitText.slots zA
  have loop_24 : ∀ (n : Nat) (su x : Int32) (σ1 : Sg) (u : Nat → Nat) (K c s : Nat), (CNT (EK E u K) σ1 ∧ E.2.2.1 ≤ K) → (∃ j : Nat, x = nI j ∧ j ≤ 14 ∧ j + n = 15) → c + n ≤ 16 → s + 6 * n ≤ 96 → F_X9_submitText σ = L_X9_submitText n su x σ1 → X_X9_submitText σ = 0 → V zp l ze rm_X9_submitText zs zm za zb zt zc 3 G zA c s Q 24 [(0, .ref (E.1 0)), (1, .int su), (2, .int x)] [] (Wd G (EK E u K) σ1 μ Y) := by
    intro n
    induction n with
    | zero =>
      intro su x σ1 u K c s hI hJ _ _ hL hX
      exact False.elim (by obtain ⟨j, _, h8, h⟩ := hJ; omega)
    | succ n ih =>
      intro su x σ1 u K c s hI hJ hcc hss hL hX
      obtain ⟨hK1, hKK⟩ := hI
      refine v_iload_n C 2 rfl dX9_submitText_24 ?_
      refine v_aload_n C 0 rfl dX9_submitText_25 ?_
      refine v_get (v := .ref (E.1 19)) C fl_RX9_26 0 g_0 rfl dX9_submitText_26 ?_
      refine v_get (v := .int (σ1 19 2)) C fl_RX9_189 19 g_19 rfl dX9_submitText_29 ?_
      refine v_icmp_ge (tgt := 128) C (by decide) dX9_submitText_32 (fun h1 => ?_) (fun h1 => ?_)
      · refine v_iload_n C 1 rfl dX9_submitText_128 ?_
        have e1 : F_X9_submitText σ = (su, σ1) := by rw [hL, L_X9_submitText, if_pos h1]
        exact v_X (v_iret C (u, K) ⟨⟨(by rw [e1]; exact hK1), hKK⟩, hX⟩ (by rw [e1]) (by rw [e1]) (by show c ≤ 16; omega) (by show s ≤ 96; omega) dX9_submitText_129)
      · refine v_iload_n C 2 rfl dX9_submitText_35 ?_
        refine v_bipush (v := (14 : Int32)) C (by decide) dX9_submitText_36 ?_
        refine v_icmp_ge (tgt := 128) C (by decide) dX9_submitText_38 (fun h2 => ?_) (fun h2 => ?_)
        · refine v_iload_n C 1 rfl dX9_submitText_128 ?_
          have e1 : F_X9_submitText σ = (su, σ1) := by rw [hL, L_X9_submitText, if_neg h1, if_pos h2]
          exact v_X (v_iret C (u, K) ⟨⟨(by rw [e1]; exact hK1), hKK⟩, hX⟩ (by rw [e1]) (by rw [e1]) (by show c ≤ 16; omega) (by show s ≤ 96; omega) dX9_submitText_129)
        · refine v_aload_n C 0 rfl dX9_submitText_41 ?_
          refine v_get (v := .ref (E.1 19)) C fl_RX9_26 0 g_0 rfl dX9_submitText_42 ?_
          refine v_get (v := .ref (E.1 21)) C fl_RX9_192 19 g_19 rfl dX9_submitText_45 ?_
          refine v_iload_n C 2 rfl dX9_submitText_48 ?_
          refine v_iald (v := σ1 21 (x).toNatClampNeg) C 21 g_21 (up_in (B := 14) rfl (by decide) hJ h2) rfl dX9_submitText_49 ?_
          refine v_cS1 (rest := []) C ms_RX9_196 (m_X9_isBlock l G (EK E u K) σ1 μ Y (σ1 21 (x).toNatClampNeg)) rfl rfl (Nat.le_of_ble_eq_true rfl) ⟨Nat.le_of_ble_eq_true rfl, Nat.le_of_ble_eq_true rfl⟩ ⟨rfl, rfl⟩ ⟨by show c ≤ 16; omega, by show s ≤ 96; omega⟩ dX9_submitText_50 ?_
          refine v_if_eq (tgt := 122) C (by decide) dX9_submitText_53 (fun h3 => ?_) (fun h3 => ?_)
          · refine v_iinc (v := x + (1 : Int32)) (lv' := [(2, .int (x + (1 : Int32))), (0, .ref (E.1 0)), (1, .int su)]) C 2 rfl rfl (Nat.le_of_ble_eq_true rfl) rfl dX9_submitText_122 ?_
            refine v_goto (tgt := 24) C (by decide) dX9_submitText_125 ?_
            refine v_lv [1, 2, 0] rfl ?_
            exact ih su (x + (1 : Int32)) σ1 u K c s ⟨hK1, hKK⟩ (up_step (B := 14) rfl (by decide) hJ h2) (by omega) (by omega) (by rw [hL, L_X9_submitText, if_neg h1, if_neg h2, if_pos h3]) hX
          · refine v_aload_n C 0 rfl dX9_submitText_56 ?_
            refine v_get (v := .ref (E.1 1)) C fl_RX9_10 0 g_0 rfl dX9_submitText_57 ?_
            refine v_aload_n C 0 rfl dX9_submitText_60 ?_
            refine v_get (v := .ref (E.1 19)) C fl_RX9_26 0 g_0 rfl dX9_submitText_61 ?_
            refine v_get (v := .ref (E.1 20)) C fl_RX9_199 19 g_19 rfl dX9_submitText_64 ?_
            refine v_iload_n C 2 rfl dX9_submitText_67 ?_
            refine v_iald (v := σ1 20 (x).toNatClampNeg) C 20 g_20 (up_in (B := 14) rfl (by decide) hJ h2) rfl dX9_submitText_68 ?_
            refine v_aload_n C 0 rfl dX9_submitText_69 ?_
            refine v_get (v := .ref (E.1 19)) C fl_RX9_26 0 g_0 rfl dX9_submitText_70 ?_
            refine v_get (v := .ref (E.1 21)) C fl_RX9_192 19 g_19 rfl dX9_submitText_73 ?_
            refine v_iload_n C 2 rfl dX9_submitText_76 ?_
            refine v_iald (v := σ1 21 (x).toNatClampNeg) C 21 g_21 (up_in (B := 14) rfl (by decide) hJ h2) rfl dX9_submitText_77 ?_
            refine v_cV1 (rest := []) C mv_RX9_162 (m_X8_hasRoomFor l G (EK E u K) σ1 μ Y (σ1 20 (x).toNatClampNeg) (σ1 21 (x).toNatClampNeg)) 1 g_1 rfl rfl rfl rfl (Nat.le_of_ble_eq_true rfl) ⟨Nat.le_of_ble_eq_true rfl, Nat.le_of_ble_eq_true rfl⟩ ⟨rfl, rfl⟩ ⟨by show c ≤ 16; omega, by show s ≤ 96; omega⟩ dX9_submitText_78 ?_
            refine v_if_eq (tgt := 122) C (by decide) dX9_submitText_81 (fun h4 => ?_) (fun h4 => ?_)
            · refine v_iinc (v := x + (1 : Int32)) (lv' := [(2, .int (x + (1 : Int32))), (0, .ref (E.1 0)), (1, .int su)]) C 2 rfl rfl (Nat.le_of_ble_eq_true rfl) rfl dX9_submitText_122 ?_
              refine v_goto (tgt := 24) C (by decide) dX9_submitText_125 ?_
              refine v_lv [1, 2, 0] rfl ?_
              exact ih su (x + (1 : Int32)) σ1 u K c s ⟨hK1, hKK⟩ (up_step (B := 14) rfl (by decide) hJ h2) (by omega) (by omega) (by rw [hL, L_X9_submitText, if_neg h1, if_neg h2, if_neg h3, if_pos h4]) hX
            · refine v_aload_n C 0 rfl dX9_submitText_84 ?_
              refine v_get (v := .ref (E.1 1)) C fl_RX9_10 0 g_0 rfl dX9_submitText_85 ?_
              refine v_aload_n C 0 rfl dX9_submitText_88 ?_
              refine v_get (v := .ref (E.1 19)) C fl_RX9_26 0 g_0 rfl dX9_submitText_89 ?_
              refine v_get (v := .ref (E.1 20)) C fl_RX9_199 19 g_19 rfl dX9_submitText_92 ?_
              refine v_iload_n C 2 rfl dX9_submitText_95 ?_
              refine v_iald (v := σ1 20 (x).toNatClampNeg) C 20 g_20 (up_in (B := 14) rfl (by decide) hJ h2) rfl dX9_submitText_96 ?_
              refine v_aload_n C 0 rfl dX9_submitText_97 ?_
              refine v_get (v := .ref (E.1 19)) C fl_RX9_26 0 g_0 rfl dX9_submitText_98 ?_
              refine v_get (v := .ref (E.1 21)) C fl_RX9_192 19 g_19 rfl dX9_submitText_101 ?_
              refine v_iload_n C 2 rfl dX9_submitText_104 ?_
              refine v_iald (v := σ1 21 (x).toNatClampNeg) C 21 g_21 (up_in (B := 14) rfl (by decide) hJ h2) rfl dX9_submitText_105 ?_
              refine v_aload_n C 0 rfl dX9_submitText_106 ?_
              refine v_get (v := .ref (E.1 19)) C fl_RX9_26 0 g_0 rfl dX9_submitText_107 ?_
              refine v_get (v := .ref (E.1 22)) C fl_RX9_202 19 g_19 rfl dX9_submitText_110 ?_
              refine v_iload_n C 2 rfl dX9_submitText_113 ?_
              refine v_iald (v := σ1 22 (x).toNatClampNeg) C 22 g_22 (up_in (B := 14) rfl (by decide) hJ h2) rfl dX9_submitText_114 ?_
              refine v_callV (rest := []) C mv_RX9_168 (m_X8_accept l G (EK E u K) σ1 μ Y ((σ1 5 0).toNatClampNeg) (σ1 20 (x).toNatClampNeg) (σ1 21 (x).toNatClampNeg) (σ1 22 (x).toNatClampNeg) hK1.cl.1 (room_80 hK1.cl.1 hK1.cl.2.1 h4) hK1.cl.2.2) 1 g_1 rfl rfl rfl rfl (Nat.le_of_ble_eq_true rfl) ⟨Nat.le_of_ble_eq_true rfl, Nat.le_of_ble_eq_true rfl⟩ ⟨by show c + 1 ≤ 16; omega, by show s + 6 ≤ 96; omega⟩ dX9_submitText_115 (fun u2 hu2 => ?_)
              have hlt : ((σ1 5 0).toNatClampNeg) < (max (EK E u K).2.2.1 (((σ1 5 0).toNatClampNeg) + 1)) := Nat.lt_of_lt_of_le (Nat.lt_succ_self _) (Nat.le_max_right _ _)
              refine v_pop C rfl dX9_submitText_118 ?_
              refine v_iinc (v := su + (1 : Int32)) (lv' := [(1, .int (su + (1 : Int32))), (0, .ref (E.1 0)), (2, .int x)]) C 1 rfl rfl (Nat.le_of_ble_eq_true rfl) rfl dX9_submitText_119 ?_
              refine v_iinc (v := x + (1 : Int32)) (lv' := [(2, .int (x + (1 : Int32))), (1, .int (su + (1 : Int32))), (0, .ref (E.1 0))]) C 2 rfl rfl (Nat.le_of_ble_eq_true rfl) rfl dX9_submitText_122 ?_
              refine v_goto (tgt := 24) C (by decide) dX9_submitText_125 ?_
              refine v_lv [2, 1, 0] rfl ?_
              exact ih (su + (1 : Int32)) (x + (1 : Int32)) (F_X8_accept σ1 ((σ1 5 0).toNatClampNeg) (σ1 20 (x).toNatClampNeg) (σ1 21 (x).toNatClampNeg) (σ1 22 (x).toNatClampNeg)).2 u2 (max K ((σ1 5 0).toNatClampNeg + 1)) (c + 1) (s + 6) ⟨hK1.acc h4, Nat.le_trans hKK (Nat.le_max_left _ _)⟩ (up_step (B := 14) rfl (by decide) hJ h2) (by omega) (by omega) (by rw [hL, L_X9_submitText, if_neg h1, if_neg h2, if_neg h3, if_neg h4]) hX
  show V zp l ze rm_X9_submitText zs zm za zb zt zc 3 G zA 0 0 Q 0 [(0, .ref (E.1 0))] [] (Wd G E σ μ Y)
  refine v_aload_n C 0 rfl dX9_submitText_0 ?_
  refine v_get (v := .ref (E.1 19)) C fl_RX9_26 0 g_0 rfl dX9_submitText_1 ?_
  refine v_cV1 (rest := []) C mv_RX9_183 (m_X5_read l G E σ μ Y) 19 g_19 rfl rfl rfl rfl (Nat.le_of_ble_eq_true rfl) ⟨Nat.le_of_ble_eq_true rfl, Nat.le_of_ble_eq_true rfl⟩ ⟨rfl, rfl⟩ ⟨Nat.le_of_ble_eq_true rfl, Nat.le_of_ble_eq_true rfl⟩ dX9_submitText_4 ?_
  generalize hr1 : F_X5_read σ = r1
  refine v_if_ne (tgt := 20) C (by decide) dX9_submitText_7 (fun h5 => ?_) (fun h5 => ?_)
  · refine v_iconst (v := (0 : Int32)) C (by decide) dX9_submitText_20 ?_
    refine v_istore_n (lv' := [(1, .int (0 : Int32)), (0, .ref (E.1 0))]) C (Nat.le_of_ble_eq_true rfl) rfl dX9_submitText_21 ?_
    refine v_iconst (v := (0 : Int32)) C (by decide) dX9_submitText_22 ?_
    refine v_istore_n (lv' := [(2, .int (0 : Int32)), (1, .int (0 : Int32)), (0, .ref (E.1 0))]) C (Nat.le_of_ble_eq_true rfl) rfl dX9_submitText_23 ?_
    refine v_lv [2, 1, 0] rfl ?_
    exact loop_24 15 (0 : Int32) (0 : Int32) r1.2 E.2.1 E.2.2.1 0 0 ⟨hK.same (read_5 hr1), Nat.le_refl _⟩ ⟨0, rfl, by omega, by omega⟩ (by omega) (by omega) (by rw [F_X9_submitText]; simp only [hr1, if_neg h5]) (by rw [X_X9_submitText]; simp only [hr1, if_neg h5])
  · have e1 : F_X9_submitText σ = (0, r1.2) := by rw [F_X9_submitText]; simp only [hr1, if_pos h5]
    have e2 : X_X9_submitText σ = 1 := by rw [X_X9_submitText]; simp only [hr1, if_pos h5]
    exact v_throwS C htab htr tx_1 (List.mem_of_getElem? (i := 15) rfl) (by show _ = _ ∧ _; rw [e2]; exact ⟨rfl, by decide⟩) (by first | with_reducible rfl | rw [e1]) dX9_submitText_10 dX9_submitText_13 dX9_submitText_14 dX9_submitText_16 dX9_submitText_19 ⟨Nat.le_of_ble_eq_true rfl, Nat.le_of_ble_eq_true rfl, Nat.le_of_ble_eq_true rfl, Nat.le_of_ble_eq_true rfl⟩ ⟨Nat.le_of_ble_eq_true rfl, Nat.le_of_ble_eq_true rfl⟩
