/-! THE LAW'S LOOP AND END -/
section LL
variable {p : Program} {l : Launch} {e : Env} {s : State} {m : MethodId} {below : List Frame} {meth : Method} {c : Code} {G : GG} {b L : Nat} {xs : Nat → Int32}
theorem law_end (D : LC p l s m #[Value.ref b] meth c G (fun q => s.heap.size ≤ q) b L xs) {cells slots : Nat} (hc : cells ≤ 603072) (hs : slots ≤ 7174250) {lv : List (Nat × Value)} {ws : va_W} : V p l e room_1 s m #[Value.ref b] below meth c 9 G (fun q => s.heap.size ≤ q) cells slots (lw_Z below #[Value.ref b] s) 2216 lv [] ws := by
  obtain ⟨C, -⟩ := D
  refine v_iconst (v := (1 : Int32)) C (by decide) dL_law_2216 ?_
  intro H locs ls hP hD hS hl
  refine va_forget (fun q hq => hS.2.2 q hq) (W.widen hc hs ?_)
  exact lw_ret (d0 := s.drawn) (Drawn.sameBut.refl s.drawn lw_cs) C.1 C.2.1 C.2.2.2.2.2.2.2.2 C.2.2.2.2.2.2.2.1 dL_law_2217
theorem and63 (x : Int32) : ∃ j : Nat, j ≤ 63 ∧ (x &&& 63) = nI j := by
  have h2 : (x &&& 63).toInt = ((x &&& 63).toBitVec.toNat : Int) := by
    have : (x &&& 63).toBitVec.msb = false := by
      rw [Int32.toBitVec_and, BitVec.msb_and, show (63 : Int32).toBitVec.msb = false by decide, Bool.and_false]
    show (x &&& 63).toBitVec.toInt = _
    exact BitVec.toInt_eq_toNat_of_msb this
  have h3 : (x &&& 63).toBitVec.toNat ≤ 63 := by
    rw [Int32.toBitVec_and, BitVec.toNat_and]
    exact Nat.and_le_right
  exact nI_bd (B := 63) (by omega) (by omega) (by omega)
/-- from the switch on -/
theorem law_switch {Q : State → Prop} {args : Array Value} {A : Nat → Prop} (D : LC p l s m args meth c G A b L xs) {i : Nat} (hi : i + 4 ≤ L) {cells slots : Nat} (hc : cells + 100 ≤ room_1.cells) (hs : slots + 1200 ≤ room_1.slots) {E : EE} {σ μ : Sg} {Y : va_W} (h : LI G E σ μ Y) (kk : ∀ (E' : EE) (σ' μ' : Sg) (Y' : va_W), E'.1 = E.1 → LI G E' σ' μ' Y' → V p l e room_1 s m args below meth c 9 G A (cells + 100) (slots + 1200) Q 2210 [(0, .ref b), (1, .ref (E.1 0)), (2, .ref (E.1 24)), (3, .ref (E.1 33)), (4, .ref (E.1 34)), (5, .int (nI i))] [] (Wd G E' σ' μ' Y')) {x : Int32} {j : Nat} (hj : j ≤ 63) (ej : x = nI j) : V p l e room_1 s m args below meth c 9 G A cells slots Q 44 [(0, .ref b), (1, .ref (E.1 0)), (2, .ref (E.1 24)), (3, .ref (E.1 33)), (4, .ref (E.1 34)), (5, .int (nI i))] [.int x] (Wd G E σ μ Y) := by
  have C := D.1
  have ex : x.toInt = (j : Int) := by rw [ej, nI_toInt (by omega)]
  by_cases hout : 40 < j
  · refine v_tabOut (tgt := 2210) C (Or.inr (by rw [ex]; omega)) (by decide) dL_law_44 ?_
    exact v_wid (Nat.le_add_right _ _) (Nat.le_add_right _ _) (kk E σ μ Y rfl h)
  · have hn : ¬ x.toInt < 0 := by rw [ex]; omega
    have hm : ¬ 40 < x.toInt := by rw [ex]; omega
    have hz : (x.toInt - 0).toNat = j := by rw [ex]; omega
    have hj41 : j = 0 ∨ j = 1 ∨ j = 2 ∨ j = 3 ∨ j = 4 ∨ j = 5 ∨ j = 6 ∨ j = 7 ∨ j = 8 ∨ j = 9 ∨ j = 10 ∨ j = 11 ∨ j = 12 ∨ j = 13 ∨ j = 14 ∨ j = 15 ∨ j = 16 ∨ j = 17 ∨ j = 18 ∨ j = 19 ∨ j = 20 ∨ j = 21 ∨ j = 22 ∨ j = 23 ∨ j = 24 ∨ j = 25 ∨ j = 26 ∨ j = 27 ∨ j = 28 ∨ j = 29 ∨ j = 30 ∨ j = 31 ∨ j = 32 ∨ j = 33 ∨ j = 34 ∨ j = 35 ∨ j = 36 ∨ j = 37 ∨ j = 38 ∨ j = 39 ∨ j = 40 := by omega
    rcases hj41 with hq | hq | hq | hq | hq | hq | hq | hq | hq | hq | hq | hq | hq | hq | hq | hq | hq | hq | hq | hq | hq | hq | hq | hq | hq | hq | hq | hq | hq | hq | hq | hq | hq | hq | hq | hq | hq | hq | hq | hq | hq
    · exact v_tabIn (tgt := 224) (off := 180) C hn hm (by rw [hz, hq]; rfl) (by decide) dL_law_44 (st_0 D hi hc hs h kk)
    · exact v_tabIn (tgt := 284) (off := 240) C hn hm (by rw [hz, hq]; rfl) (by decide) dL_law_44 (st_1 D hi hc hs h kk)
    · exact v_tabIn (tgt := 340) (off := 296) C hn hm (by rw [hz, hq]; rfl) (by decide) dL_law_44 (st_2 D hi hc hs h kk)
    · exact v_tabIn (tgt := 396) (off := 352) C hn hm (by rw [hz, hq]; rfl) (by decide) dL_law_44 (st_3 D hi hc hs h kk)
    · exact v_tabIn (tgt := 444) (off := 400) C hn hm (by rw [hz, hq]; rfl) (by decide) dL_law_44 (st_4 D hi hc hs h kk)
    · exact v_tabIn (tgt := 523) (off := 479) C hn hm (by rw [hz, hq]; rfl) (by decide) dL_law_44 (st_5 D hi hc hs h kk)
    · exact v_tabIn (tgt := 591) (off := 547) C hn hm (by rw [hz, hq]; rfl) (by decide) dL_law_44 (st_6 D hi hc hs h kk)
    · exact v_tabIn (tgt := 647) (off := 603) C hn hm (by rw [hz, hq]; rfl) (by decide) dL_law_44 (st_7 D hi hc hs h kk)
    · exact v_tabIn (tgt := 703) (off := 659) C hn hm (by rw [hz, hq]; rfl) (by decide) dL_law_44 (st_8 D hi hc hs h kk)
    · exact v_tabIn (tgt := 759) (off := 715) C hn hm (by rw [hz, hq]; rfl) (by decide) dL_law_44 (st_9 D hi hc hs h kk)
    · exact v_tabIn (tgt := 815) (off := 771) C hn hm (by rw [hz, hq]; rfl) (by decide) dL_law_44 (st_10 D hi hc hs h kk)
    · exact v_tabIn (tgt := 871) (off := 827) C hn hm (by rw [hz, hq]; rfl) (by decide) dL_law_44 (st_11 D hi hc hs h kk)
    · exact v_tabIn (tgt := 927) (off := 883) C hn hm (by rw [hz, hq]; rfl) (by decide) dL_law_44 (st_12 D hi hc hs h kk)
    · exact v_tabIn (tgt := 983) (off := 939) C hn hm (by rw [hz, hq]; rfl) (by decide) dL_law_44 (st_13 D hi hc hs h kk)
    · exact v_tabIn (tgt := 996) (off := 952) C hn hm (by rw [hz, hq]; rfl) (by decide) dL_law_44 (st_14 D hi hc hs h kk)
    · exact v_tabIn (tgt := 1009) (off := 965) C hn hm (by rw [hz, hq]; rfl) (by decide) dL_law_44 (st_15 D hi hc hs h kk)
    · exact v_tabIn (tgt := 1022) (off := 978) C hn hm (by rw [hz, hq]; rfl) (by decide) dL_law_44 (st_16 D hi hc hs h kk)
    · exact v_tabIn (tgt := 1078) (off := 1034) C hn hm (by rw [hz, hq]; rfl) (by decide) dL_law_44 (st_17 D hi hc hs h kk)
    · exact v_tabIn (tgt := 1158) (off := 1114) C hn hm (by rw [hz, hq]; rfl) (by decide) dL_law_44 (st_18 D hi hc hs h kk)
    · exact v_tabIn (tgt := 1214) (off := 1170) C hn hm (by rw [hz, hq]; rfl) (by decide) dL_law_44 (st_19 D hi hc hs h kk)
    · exact v_tabIn (tgt := 1258) (off := 1214) C hn hm (by rw [hz, hq]; rfl) (by decide) dL_law_44 (st_20 D hi hc hs h kk)
    · exact v_tabIn (tgt := 1271) (off := 1227) C hn hm (by rw [hz, hq]; rfl) (by decide) dL_law_44 (st_21 D hi hc hs h kk)
    · exact v_tabIn (tgt := 1307) (off := 1263) C hn hm (by rw [hz, hq]; rfl) (by decide) dL_law_44 (st_22 D hi hc hs h kk)
    · exact v_tabIn (tgt := 1351) (off := 1307) C hn hm (by rw [hz, hq]; rfl) (by decide) dL_law_44 (st_23 D hi hc hs h kk)
    · exact v_tabIn (tgt := 1395) (off := 1351) C hn hm (by rw [hz, hq]; rfl) (by decide) dL_law_44 (st_24 D hi hc hs h kk)
    · exact v_tabIn (tgt := 1451) (off := 1407) C hn hm (by rw [hz, hq]; rfl) (by decide) dL_law_44 (st_25 D hi hc hs h kk)
    · exact v_tabIn (tgt := 1495) (off := 1451) C hn hm (by rw [hz, hq]; rfl) (by decide) dL_law_44 (st_26 D hi hc hs h kk)
    · exact v_tabIn (tgt := 1508) (off := 1464) C hn hm (by rw [hz, hq]; rfl) (by decide) dL_law_44 (st_27 D hi hc hs h kk)
    · exact v_tabIn (tgt := 1521) (off := 1477) C hn hm (by rw [hz, hq]; rfl) (by decide) dL_law_44 (st_28 D hi hc hs h kk)
    · exact v_tabIn (tgt := 1577) (off := 1533) C hn hm (by rw [hz, hq]; rfl) (by decide) dL_law_44 (st_29 D hi hc hs h kk)
    · exact v_tabIn (tgt := 1633) (off := 1589) C hn hm (by rw [hz, hq]; rfl) (by decide) dL_law_44 (st_30 D hi hc hs h kk)
    · exact v_tabIn (tgt := 1689) (off := 1645) C hn hm (by rw [hz, hq]; rfl) (by decide) dL_law_44 (st_31 D hi hc hs h kk)
    · exact v_tabIn (tgt := 1752) (off := 1708) C hn hm (by rw [hz, hq]; rfl) (by decide) dL_law_44 (st_32 D hi hc hs h kk)
    · exact v_tabIn (tgt := 1796) (off := 1752) C hn hm (by rw [hz, hq]; rfl) (by decide) dL_law_44 (st_33 D hi hc hs h kk)
    · exact v_tabIn (tgt := 1852) (off := 1808) C hn hm (by rw [hz, hq]; rfl) (by decide) dL_law_44 (st_34 D hi hc hs h kk)
    · exact v_tabIn (tgt := 1903) (off := 1859) C hn hm (by rw [hz, hq]; rfl) (by decide) dL_law_44 (st_35 D hi hc hs h kk)
    · exact v_tabIn (tgt := 1959) (off := 1915) C hn hm (by rw [hz, hq]; rfl) (by decide) dL_law_44 (st_36 D hi hc hs h kk)
    · exact v_tabIn (tgt := 2024) (off := 1980) C hn hm (by rw [hz, hq]; rfl) (by decide) dL_law_44 (st_37 D hi hc hs h kk)
    · exact v_tabIn (tgt := 2089) (off := 2045) C hn hm (by rw [hz, hq]; rfl) (by decide) dL_law_44 (st_38 D hi hc hs h kk)
    · exact v_tabIn (tgt := 2155) (off := 2111) C hn hm (by rw [hz, hq]; rfl) (by decide) dL_law_44 (st_39 D hi hc hs h kk)
    · exact v_tabIn (tgt := 2166) (off := 2122) C hn hm (by rw [hz, hq]; rfl) (by decide) dL_law_44 (st_40 D hi hc hs h kk)
set_option maxRecDepth 100000 in
theorem law_loop (D : LC p l s m #[Value.ref b] meth c G (fun q => s.heap.size ≤ q) b L xs) : ∀ (n i cells slots : Nat) (E : EE) (σ μ : Sg) (Y : va_W), L < i + 4 * n + 4 → i ≤ 4096 → cells + 100 * n ≤ 603072 → slots + 1200 * n ≤ 7174250 → LI G E σ μ Y → V p l e room_1 s m #[Value.ref b] below meth c 9 G (fun q => s.heap.size ≤ q) cells slots (lw_Z below #[Value.ref b] s) 28 [(0, .ref b), (1, .ref (E.1 0)), (2, .ref (E.1 24)), (3, .ref (E.1 33)), (4, .ref (E.1 34)), (5, .int (nI i))] [] (Wd G E σ μ Y) := by
  intro n
  have C := D.1
  have D' := D
  obtain ⟨-, -, -, hX, hbl, hbA, hL⟩ := D'
  have hsub : (nI L - 4).toInt = (L : Int) - 4 := by rw [Int32.toInt_sub, nI_toInt (by omega), show (4 : Int32).toInt = 4 by decide, bm32 (by omega) (by omega)]
  induction n with
  | zero =>
    intro i cells slots E σ μ Y h1 h2 h3 h4 h
    refine v_iload C 5 rfl dL_law_28 ?_
    refine v_aload_n C 0 rfl dL_law_30 ?_
    refine v_slen C hX hbl hbA dL_law_31 ?_
    refine v_iconst (v := (4 : Int32)) C (by decide) dL_law_32 ?_
    refine v_isub C dL_law_33 ?_
    refine v_icmp_gt (tgt := 2216) C (by decide) dL_law_34 (fun hg => ?_) (fun hg => absurd (show nI L - 4 < nI i by rw [i32lt, hsub, nI_toInt (by omega)]; omega) hg)
    exact law_end D (by omega) (by omega)
  | succ n ih =>
    intro i cells slots E σ μ Y h1 h2 h3 h4 h
    refine v_iload C 5 rfl dL_law_28 ?_
    refine v_aload_n C 0 rfl dL_law_30 ?_
    refine v_slen C hX hbl hbA dL_law_31 ?_
    refine v_iconst (v := (4 : Int32)) C (by decide) dL_law_32 ?_
    refine v_isub C dL_law_33 ?_
    refine v_icmp_gt (tgt := 2216) C (by decide) dL_law_34 (fun hg => ?_) (fun hg => ?_)
    · exact law_end D (by omega) (by omega)
    · have hi : i + 4 ≤ L := by
        rw [i32lt, hsub, nI_toInt (by omega)] at hg
        omega
      refine v_aload_n C 0 rfl dL_law_37 ?_
      refine v_iload C 5 rfl dL_law_38 ?_
      refine v_sld C hX hbl hbA rfl (show i < L by omega) hL dL_law_40 ?_
      refine v_bipush (v := (63 : Int32)) C (by decide) dL_law_41 ?_
      refine v_iand C dL_law_43 ?_
      obtain ⟨j, hj, ej⟩ := and63 (xs i)
      have hc1 : cells + 100 ≤ 603072 := by omega
      have hs1 : slots + 1200 ≤ 7174250 := by omega
      refine law_switch D hi hc1 hs1 h (fun E' σ' μ' Y' hE hI => ?_) hj ej
      refine v_iinc (v := nI i + 4) (lv' := [(5, .int (nI i + 4)), (0, .ref b), (1, .ref (E.1 0)), (2, .ref (E.1 24)), (3, .ref (E.1 33)), (4, .ref (E.1 34))]) C 5 rfl rfl (Nat.le_of_ble_eq_true rfl) rfl dL_law_2210 ?_
      refine v_goto (tgt := 28) C (by decide) dL_law_2213 ?_
      refine v_lv [1, 2, 3, 4, 5, 0] rfl ?_
      rw [show nI i + (4 : Int32) = nI (i + 4) from nI_add i 4, ← hE]
      exact ih (i + 4) _ _ E' σ' μ' Y' (by omega) (by omega) (by omega) (by omega) hI
end LL
