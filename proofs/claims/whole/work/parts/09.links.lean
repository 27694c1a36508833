section VD
variable {p : Program} {l : Launch} {e : Env} {R : Room} {s : State} {m : MethodId} {args : Array Value} {below : List Frame} {meth : Method} {c : Code} {cc : ByteArray} {nL : Nat} {own : String} {rt : Option FieldType} {G : GG} {A : Nat → Prop} {cells slots : Nat} {Q : State → Prop} {pc : Nat} {lv lv' : List (Nat × Value)} {st rest As : List Value} {ws ws' : va_W}
variable {y : MethodName} {c' : ByteArray} {nL' n idx : Nat} {rt' : Option FieldType} {rm : Room}
theorem v_cV1 (C : CX p l R s m args meth c cc nL own rt G A) {b ci : Nat} {fs : List Value} {q : vw_C} {v : Value} (hm : MV own idx y c' nL' rt' n) (K : KK l G y c' nL' rt' rm (.ref b :: As) ws (some v) ws') (q0 : Nat) (hrec : ws[q0]? = some (b, .inr (ci, fs))) (hci : cls[ci]? = some q) (hqy : q.1 = y.cls) (hn : As.length = n) (hst : st = As.reverse ++ .ref b :: rest) (hcat : (rest.map fun v => v.category).sum ≤ 8) (hR : rm.frames + 1 ≤ R.frames ∧ 8 + (nL' + 11) + rm.locals ≤ R.locals) (hz : rm.cells = 0 ∧ rm.slots = 0) (hf : cells ≤ R.cells ∧ slots ≤ R.slots) (d : decode cc pc = .ok (.invokevirtual idx, 3)) (kk : V p l e R s m args below meth c nL G A cells slots Q (pc + 3) lv (v :: rest) ws') : V p l e R s m args below meth c nL G A cells slots Q pc lv st ws :=
  v_callV C hm K q0 hrec hci hqy hn hst hcat hR (by rw [hz.1, hz.2]; exact hf) d (fun _ _ => by rw [hz.1, hz.2]; exact kk)
theorem v_cS1 (C : CX p l R s m args meth c cc nL own rt G A) {v : Value} (hm : MS own idx y c' nL' rt' n) (K : KK l G y c' nL' rt' rm As ws (some v) ws') (hn : As.length = n) (hst : st = As.reverse ++ rest) (hcat : (rest.map fun v => v.category).sum ≤ 8) (hR : rm.frames + 1 ≤ R.frames ∧ 8 + (nL' + 11) + rm.locals ≤ R.locals) (hz : rm.cells = 0 ∧ rm.slots = 0) (hf : cells ≤ R.cells ∧ slots ≤ R.slots) (d : decode cc pc = .ok (.invokestatic idx, 3)) (kk : V p l e R s m args below meth c nL G A cells slots Q (pc + 3) lv (v :: rest) ws') : V p l e R s m args below meth c nL G A cells slots Q pc lv st ws :=
  v_callS C hm K hn hst hcat hR (by rw [hz.1, hz.2]; exact hf) d (fun _ _ => by rw [hz.1, hz.2]; exact kk)
theorem v_cN1 (C : CX p l R s m args meth c cc nL own rt G A) {v : Value} (hm : MN own idx y c' nL' rt' n) (hs : Cond.static y ∈ lw_all) (K : KK l G y c' nL' rt' rm As ws (some v) ws') (hn : As.length = n) (hst : st = As.reverse ++ rest) (hcat : (rest.map fun v => v.category).sum ≤ 8) (hR : rm.frames + 1 ≤ R.frames ∧ 8 + (nL' + 11) + rm.locals ≤ R.locals) (hz : rm.cells = 0 ∧ rm.slots = 0) (hf : cells ≤ R.cells ∧ slots ≤ R.slots) (d : decode cc pc = .ok (.invokestatic idx, 3)) (kk : V p l e R s m args below meth c nL G A cells slots Q (pc + 3) lv (v :: rest) ws') : V p l e R s m args below meth c nL G A cells slots Q pc lv st ws :=
  v_callN C hm hs K hn hst hcat hR (by rw [hz.1, hz.2]; exact hf) d (fun _ _ => by rw [hz.1, hz.2]; exact kk)
theorem v_cV0 (C : CX p l R s m args meth c cc nL own rt G A) {b ci : Nat} {fs : List Value} {q : vw_C} (hm : MV own idx y c' nL' rt' n) (K : KK l G y c' nL' rt' rm (.ref b :: As) ws none ws') (q0 : Nat) (hrec : ws[q0]? = some (b, .inr (ci, fs))) (hci : cls[ci]? = some q) (hqy : q.1 = y.cls) (hn : As.length = n) (hst : st = As.reverse ++ .ref b :: rest) (hcat : (rest.map fun v => v.category).sum ≤ 8) (hR : rm.frames + 1 ≤ R.frames ∧ 8 + (nL' + 11) + rm.locals ≤ R.locals) (hz : rm.cells = 0 ∧ rm.slots = 0) (hf : cells ≤ R.cells ∧ slots ≤ R.slots) (d : decode cc pc = .ok (.invokevirtual idx, 3)) (kk : V p l e R s m args below meth c nL G A cells slots Q (pc + 3) lv (rest) ws') : V p l e R s m args below meth c nL G A cells slots Q pc lv st ws :=
  v_callV C hm K q0 hrec hci hqy hn hst hcat hR (by rw [hz.1, hz.2]; exact hf) d (fun _ _ => by rw [hz.1, hz.2]; exact kk)
theorem v_cS0 (C : CX p l R s m args meth c cc nL own rt G A) (hm : MS own idx y c' nL' rt' n) (K : KK l G y c' nL' rt' rm As ws none ws') (hn : As.length = n) (hst : st = As.reverse ++ rest) (hcat : (rest.map fun v => v.category).sum ≤ 8) (hR : rm.frames + 1 ≤ R.frames ∧ 8 + (nL' + 11) + rm.locals ≤ R.locals) (hz : rm.cells = 0 ∧ rm.slots = 0) (hf : cells ≤ R.cells ∧ slots ≤ R.slots) (d : decode cc pc = .ok (.invokestatic idx, 3)) (kk : V p l e R s m args below meth c nL G A cells slots Q (pc + 3) lv (rest) ws') : V p l e R s m args below meth c nL G A cells slots Q pc lv st ws :=
  v_callS C hm K hn hst hcat hR (by rw [hz.1, hz.2]; exact hf) d (fun _ _ => by rw [hz.1, hz.2]; exact kk)
theorem v_cN0 (C : CX p l R s m args meth c cc nL own rt G A) (hm : MN own idx y c' nL' rt' n) (hs : Cond.static y ∈ lw_all) (K : KK l G y c' nL' rt' rm As ws none ws') (hn : As.length = n) (hst : st = As.reverse ++ rest) (hcat : (rest.map fun v => v.category).sum ≤ 8) (hR : rm.frames + 1 ≤ R.frames ∧ 8 + (nL' + 11) + rm.locals ≤ R.locals) (hz : rm.cells = 0 ∧ rm.slots = 0) (hf : cells ≤ R.cells ∧ slots ≤ R.slots) (d : decode cc pc = .ok (.invokestatic idx, 3)) (kk : V p l e R s m args below meth c nL G A cells slots Q (pc + 3) lv (rest) ws') : V p l e R s m args below meth c nL G A cells slots Q pc lv st ws :=
  v_callN C hm hs K hn hst hcat hR (by rw [hz.1, hz.2]; exact hf) d (fun _ _ => by rw [hz.1, hz.2]; exact kk)
theorem vp_lit {i : Int32} {N k : Nat} (h : i.toNatClampNeg = k) (hn : ¬ i < 0) (hk : k < N) : vp_in i N := fun q => q.elim hn (fun h2 => by omega)
end VD
theorem fl_RX0_9 : FL RX0 9 0 2 := ⟨RX0, TX0, 3, rfl, Nat.le_of_ble_eq_true rfl, lay_X0, w_209⟩
theorem fp_RX0_9 : FP RX0 9 0 2 (.array .int) true := ⟨RX0, TX0, 3, tyX0, rfl, Nat.le_of_ble_eq_true rfl, lay_X0, w_209, tyX0_ok, nmX0, rfl, by decide +kernel, fun h => rfl⟩
theorem fl_RX0_15 : FL RX0 15 0 0 := ⟨RX0, TX0, 3, rfl, Nat.le_of_ble_eq_true rfl, lay_X0, w_203⟩
theorem fp_RX0_15 : FP RX0 15 0 0 .boolean false := ⟨RX0, TX0, 3, tyX0, rfl, Nat.le_of_ble_eq_true rfl, lay_X0, w_203, tyX0_ok, nmX0, rfl, by decide +kernel, fun h => Bool.noConfusion h⟩
theorem fl_RX0_19 : FL RX0 19 0 1 := ⟨RX0, TX0, 3, rfl, Nat.le_of_ble_eq_true rfl, lay_X0, w_206⟩
theorem fp_RX0_19 : FP RX0 19 0 1 .int false := ⟨RX0, TX0, 3, tyX0, rfl, Nat.le_of_ble_eq_true rfl, lay_X0, w_206, tyX0_ok, nmX0, rfl, by decide +kernel, fun h => Bool.noConfusion h⟩
theorem fl_RX0_35 : FL RX0 35 1 5 := ⟨RX1, TX1, 13, rfl, Nat.le_of_ble_eq_true rfl, lay_X1, w_110⟩
theorem fp_RX0_35 : FP RX0 35 1 5 .int false := ⟨RX1, TX1, 13, tyX1, rfl, Nat.le_of_ble_eq_true rfl, lay_X1, w_110, tyX1_ok, nmX1, rfl, by decide +kernel, fun h => Bool.noConfusion h⟩
theorem fl_RX1_9 : FL RX1 9 1 0 := ⟨RX1, TX1, 13, rfl, Nat.le_of_ble_eq_true rfl, lay_X1, w_93⟩
theorem fp_RX1_9 : FP RX1 9 1 0 .int false := ⟨RX1, TX1, 13, tyX1, rfl, Nat.le_of_ble_eq_true rfl, lay_X1, w_93, tyX1_ok, nmX1, rfl, by decide +kernel, fun h => Bool.noConfusion h⟩
theorem fl_RX1_15 : FL RX1 15 1 1 := ⟨RX1, TX1, 13, rfl, Nat.le_of_ble_eq_true rfl, lay_X1, w_95⟩
theorem fp_RX1_15 : FP RX1 15 1 1 .int false := ⟨RX1, TX1, 13, tyX1, rfl, Nat.le_of_ble_eq_true rfl, lay_X1, w_95, tyX1_ok, nmX1, rfl, by decide +kernel, fun h => Bool.noConfusion h⟩
theorem fl_RX1_18 : FL RX1 18 1 2 := ⟨RX1, TX1, 13, rfl, Nat.le_of_ble_eq_true rfl, lay_X1, w_97⟩
theorem fp_RX1_18 : FP RX1 18 1 2 .int false := ⟨RX1, TX1, 13, tyX1, rfl, Nat.le_of_ble_eq_true rfl, lay_X1, w_97, tyX1_ok, nmX1, rfl, by decide +kernel, fun h => Bool.noConfusion h⟩
theorem fl_RX1_21 : FL RX1 21 1 11 := ⟨RX1, TX1, 13, rfl, Nat.le_of_ble_eq_true rfl, lay_X1, w_121⟩
theorem fp_RX1_21 : FP RX1 21 1 11 (.array .int) true := ⟨RX1, TX1, 13, tyX1, rfl, Nat.le_of_ble_eq_true rfl, lay_X1, w_121, tyX1_ok, nmX1, rfl, by decide +kernel, fun h => rfl⟩
theorem fl_RX1_25 : FL RX1 25 1 12 := ⟨RX1, TX1, 13, rfl, Nat.le_of_ble_eq_true rfl, lay_X1, w_122⟩
theorem fp_RX1_25 : FP RX1 25 1 12 (.array .int) true := ⟨RX1, TX1, 13, tyX1, rfl, Nat.le_of_ble_eq_true rfl, lay_X1, w_122, tyX1_ok, nmX1, rfl, by decide +kernel, fun h => rfl⟩
theorem fl_RX1_28 : FL RX1 28 1 3 := ⟨RX1, TX1, 13, rfl, Nat.le_of_ble_eq_true rfl, lay_X1, w_99⟩
theorem fp_RX1_28 : FP RX1 28 1 3 .int false := ⟨RX1, TX1, 13, tyX1, rfl, Nat.le_of_ble_eq_true rfl, lay_X1, w_99, tyX1_ok, nmX1, rfl, by decide +kernel, fun h => Bool.noConfusion h⟩
theorem fl_RX1_31 : FL RX1 31 1 4 := ⟨RX1, TX1, 13, rfl, Nat.le_of_ble_eq_true rfl, lay_X1, w_101⟩
theorem fp_RX1_31 : FP RX1 31 1 4 .int false := ⟨RX1, TX1, 13, tyX1, rfl, Nat.le_of_ble_eq_true rfl, lay_X1, w_101, tyX1_ok, nmX1, rfl, by decide +kernel, fun h => Bool.noConfusion h⟩
theorem fl_RX1_34 : FL RX1 34 1 5 := ⟨RX1, TX1, 13, rfl, Nat.le_of_ble_eq_true rfl, lay_X1, w_106⟩
theorem fp_RX1_34 : FP RX1 34 1 5 .int false := ⟨RX1, TX1, 13, tyX1, rfl, Nat.le_of_ble_eq_true rfl, lay_X1, w_106, tyX1_ok, nmX1, rfl, by decide +kernel, fun h => Bool.noConfusion h⟩
theorem fl_RX1_37 : FL RX1 37 1 6 := ⟨RX1, TX1, 13, rfl, Nat.le_of_ble_eq_true rfl, lay_X1, w_112⟩
theorem fp_RX1_37 : FP RX1 37 1 6 .int false := ⟨RX1, TX1, 13, tyX1, rfl, Nat.le_of_ble_eq_true rfl, lay_X1, w_112, tyX1_ok, nmX1, rfl, by decide +kernel, fun h => Bool.noConfusion h⟩
theorem fl_RX1_40 : FL RX1 40 1 7 := ⟨RX1, TX1, 13, rfl, Nat.le_of_ble_eq_true rfl, lay_X1, w_114⟩
theorem fp_RX1_40 : FP RX1 40 1 7 .int false := ⟨RX1, TX1, 13, tyX1, rfl, Nat.le_of_ble_eq_true rfl, lay_X1, w_114, tyX1_ok, nmX1, rfl, by decide +kernel, fun h => Bool.noConfusion h⟩
theorem fl_RX1_43 : FL RX1 43 1 8 := ⟨RX1, TX1, 13, rfl, Nat.le_of_ble_eq_true rfl, lay_X1, w_116⟩
theorem fp_RX1_43 : FP RX1 43 1 8 .int false := ⟨RX1, TX1, 13, tyX1, rfl, Nat.le_of_ble_eq_true rfl, lay_X1, w_116, tyX1_ok, nmX1, rfl, by decide +kernel, fun h => Bool.noConfusion h⟩
theorem fl_RX1_46 : FL RX1 46 1 9 := ⟨RX1, TX1, 13, rfl, Nat.le_of_ble_eq_true rfl, lay_X1, w_118⟩
theorem fp_RX1_46 : FP RX1 46 1 9 .int false := ⟨RX1, TX1, 13, tyX1, rfl, Nat.le_of_ble_eq_true rfl, lay_X1, w_118, tyX1_ok, nmX1, rfl, by decide +kernel, fun h => Bool.noConfusion h⟩
theorem fl_RX1_49 : FL RX1 49 1 10 := ⟨RX1, TX1, 13, rfl, Nat.le_of_ble_eq_true rfl, lay_X1, w_120⟩
theorem fp_RX1_49 : FP RX1 49 1 10 .int false := ⟨RX1, TX1, 13, tyX1, rfl, Nat.le_of_ble_eq_true rfl, lay_X1, w_120, tyX1_ok, nmX1, rfl, by decide +kernel, fun h => Bool.noConfusion h⟩
theorem fl_RX10_7 : FL RX10 7 9 0 := ⟨RX10, TX10, 18, rfl, Nat.le_of_ble_eq_true rfl, lay_X10, w_1164⟩
theorem fp_RX10_7 : FP RX10 7 9 0 (.array .int) true := ⟨RX10, TX10, 18, tyX10, rfl, Nat.le_of_ble_eq_true rfl, lay_X10, w_1164, tyX10_ok, nmX10, rfl, by decide +kernel, fun h => rfl⟩
theorem fl_RX10_13 : FL RX10 13 9 1 := ⟨RX10, TX10, 18, rfl, Nat.le_of_ble_eq_true rfl, lay_X10, w_1165⟩
theorem fp_RX10_13 : FP RX10 13 9 1 (.array .int) true := ⟨RX10, TX10, 18, tyX10, rfl, Nat.le_of_ble_eq_true rfl, lay_X10, w_1165, tyX10_ok, nmX10, rfl, by decide +kernel, fun h => rfl⟩
theorem fl_RX10_16 : FL RX10 16 9 4 := ⟨RX10, TX10, 18, rfl, Nat.le_of_ble_eq_true rfl, lay_X10, w_1168⟩
theorem fp_RX10_16 : FP RX10 16 9 4 (.array .int) true := ⟨RX10, TX10, 18, tyX10, rfl, Nat.le_of_ble_eq_true rfl, lay_X10, w_1168, tyX10_ok, nmX10, rfl, by decide +kernel, fun h => rfl⟩
theorem fl_RX10_19 : FL RX10 19 9 8 := ⟨RX10, TX10, 18, rfl, Nat.le_of_ble_eq_true rfl, lay_X10, w_1172⟩
theorem fp_RX10_19 : FP RX10 19 9 8 .int false := ⟨RX10, TX10, 18, tyX10, rfl, Nat.le_of_ble_eq_true rfl, lay_X10, w_1172, tyX10_ok, nmX10, rfl, by decide +kernel, fun h => Bool.noConfusion h⟩
theorem fl_RX10_23 : FL RX10 23 9 9 := ⟨RX10, TX10, 18, rfl, Nat.le_of_ble_eq_true rfl, lay_X10, w_1173⟩
theorem fp_RX10_23 : FP RX10 23 9 9 (.array .int) true := ⟨RX10, TX10, 18, tyX10, rfl, Nat.le_of_ble_eq_true rfl, lay_X10, w_1173, tyX10_ok, nmX10, rfl, by decide +kernel, fun h => rfl⟩
theorem fl_RX10_26 : FL RX10 26 9 11 := ⟨RX10, TX10, 18, rfl, Nat.le_of_ble_eq_true rfl, lay_X10, w_1175⟩
theorem fp_RX10_26 : FP RX10 26 9 11 (.array .int) true := ⟨RX10, TX10, 18, tyX10, rfl, Nat.le_of_ble_eq_true rfl, lay_X10, w_1175, tyX10_ok, nmX10, rfl, by decide +kernel, fun h => rfl⟩
theorem fl_RX10_29 : FL RX10 29 9 12 := ⟨RX10, TX10, 18, rfl, Nat.le_of_ble_eq_true rfl, lay_X10, w_1176⟩
theorem fp_RX10_29 : FP RX10 29 9 12 (.array .int) true := ⟨RX10, TX10, 18, tyX10, rfl, Nat.le_of_ble_eq_true rfl, lay_X10, w_1176, tyX10_ok, nmX10, rfl, by decide +kernel, fun h => rfl⟩
theorem fl_RX10_32 : FL RX10 32 9 13 := ⟨RX10, TX10, 18, rfl, Nat.le_of_ble_eq_true rfl, lay_X10, w_1177⟩
theorem fp_RX10_32 : FP RX10 32 9 13 (.array .int) true := ⟨RX10, TX10, 18, tyX10, rfl, Nat.le_of_ble_eq_true rfl, lay_X10, w_1177, tyX10_ok, nmX10, rfl, by decide +kernel, fun h => rfl⟩
theorem fl_RX10_35 : FL RX10 35 9 14 := ⟨RX10, TX10, 18, rfl, Nat.le_of_ble_eq_true rfl, lay_X10, w_1178⟩
theorem fp_RX10_35 : FP RX10 35 9 14 (.array .boolean) true := ⟨RX10, TX10, 18, tyX10, rfl, Nat.le_of_ble_eq_true rfl, lay_X10, w_1178, tyX10_ok, nmX10, rfl, by decide +kernel, fun h => rfl⟩
theorem fl_RX10_39 : FL RX10 39 9 3 := ⟨RX10, TX10, 18, rfl, Nat.le_of_ble_eq_true rfl, lay_X10, w_1167⟩
theorem fp_RX10_39 : FP RX10 39 9 3 .int false := ⟨RX10, TX10, 18, tyX10, rfl, Nat.le_of_ble_eq_true rfl, lay_X10, w_1167, tyX10_ok, nmX10, rfl, by decide +kernel, fun h => Bool.noConfusion h⟩
theorem fl_RX10_112 : FL RX10 112 9 5 := ⟨RX10, TX10, 18, rfl, Nat.le_of_ble_eq_true rfl, lay_X10, w_1169⟩
theorem fp_RX10_112 : FP RX10 112 9 5 .int false := ⟨RX10, TX10, 18, tyX10, rfl, Nat.le_of_ble_eq_true rfl, lay_X10, w_1169, tyX10_ok, nmX10, rfl, by decide +kernel, fun h => Bool.noConfusion h⟩
theorem fl_RX10_115 : FL RX10 115 9 6 := ⟨RX10, TX10, 18, rfl, Nat.le_of_ble_eq_true rfl, lay_X10, w_1170⟩
theorem fp_RX10_115 : FP RX10 115 9 6 .int false := ⟨RX10, TX10, 18, tyX10, rfl, Nat.le_of_ble_eq_true rfl, lay_X10, w_1170, tyX10_ok, nmX10, rfl, by decide +kernel, fun h => Bool.noConfusion h⟩
theorem fl_RX10_121 : FL RX10 121 9 7 := ⟨RX10, TX10, 18, rfl, Nat.le_of_ble_eq_true rfl, lay_X10, w_1171⟩
theorem fp_RX10_121 : FP RX10 121 9 7 .int false := ⟨RX10, TX10, 18, tyX10, rfl, Nat.le_of_ble_eq_true rfl, lay_X10, w_1171, tyX10_ok, nmX10, rfl, by decide +kernel, fun h => Bool.noConfusion h⟩
theorem fl_RX10_130 : FL RX10 130 9 10 := ⟨RX10, TX10, 18, rfl, Nat.le_of_ble_eq_true rfl, lay_X10, w_1174⟩
theorem fp_RX10_130 : FP RX10 130 9 10 .int false := ⟨RX10, TX10, 18, tyX10, rfl, Nat.le_of_ble_eq_true rfl, lay_X10, w_1174, tyX10_ok, nmX10, rfl, by decide +kernel, fun h => Bool.noConfusion h⟩
theorem fl_RX10_158 : FL RX10 158 9 15 := ⟨RX10, TX10, 18, rfl, Nat.le_of_ble_eq_true rfl, lay_X10, w_1179⟩
theorem fp_RX10_158 : FP RX10 158 9 15 .int false := ⟨RX10, TX10, 18, tyX10, rfl, Nat.le_of_ble_eq_true rfl, lay_X10, w_1179, tyX10_ok, nmX10, rfl, by decide +kernel, fun h => Bool.noConfusion h⟩
theorem fl_RX10_161 : FL RX10 161 9 16 := ⟨RX10, TX10, 18, rfl, Nat.le_of_ble_eq_true rfl, lay_X10, w_1180⟩
theorem fp_RX10_161 : FP RX10 161 9 16 .int false := ⟨RX10, TX10, 18, tyX10, rfl, Nat.le_of_ble_eq_true rfl, lay_X10, w_1180, tyX10_ok, nmX10, rfl, by decide +kernel, fun h => Bool.noConfusion h⟩
theorem fl_RX10_164 : FL RX10 164 9 17 := ⟨RX10, TX10, 18, rfl, Nat.le_of_ble_eq_true rfl, lay_X10, w_1181⟩
theorem fp_RX10_164 : FP RX10 164 9 17 .boolean false := ⟨RX10, TX10, 18, tyX10, rfl, Nat.le_of_ble_eq_true rfl, lay_X10, w_1181, tyX10_ok, nmX10, rfl, by decide +kernel, fun h => Bool.noConfusion h⟩
theorem fl_RX10_195 : FL RX10 195 9 2 := ⟨RX10, TX10, 18, rfl, Nat.le_of_ble_eq_true rfl, lay_X10, w_1166⟩
theorem fp_RX10_195 : FP RX10 195 9 2 .boolean false := ⟨RX10, TX10, 18, tyX10, rfl, Nat.le_of_ble_eq_true rfl, lay_X10, w_1166, tyX10_ok, nmX10, rfl, by decide +kernel, fun h => Bool.noConfusion h⟩
theorem fl_RX3_9 : FL RX3 9 2 2 := ⟨RX3, TX3, 10, rfl, Nat.le_of_ble_eq_true rfl, lay_X3, w_244⟩
theorem fp_RX3_9 : FP RX3 9 2 2 (.array .int) true := ⟨RX3, TX3, 10, tyX3, rfl, Nat.le_of_ble_eq_true rfl, lay_X3, w_244, tyX3_ok, nmX3, rfl, by decide +kernel, fun h => rfl⟩
theorem fl_RX3_15 : FL RX3 15 2 3 := ⟨RX3, TX3, 10, rfl, Nat.le_of_ble_eq_true rfl, lay_X3, w_245⟩
theorem fp_RX3_15 : FP RX3 15 2 3 (.array .int) true := ⟨RX3, TX3, 10, tyX3, rfl, Nat.le_of_ble_eq_true rfl, lay_X3, w_245, tyX3_ok, nmX3, rfl, by decide +kernel, fun h => rfl⟩
theorem fl_RX3_18 : FL RX3 18 2 4 := ⟨RX3, TX3, 10, rfl, Nat.le_of_ble_eq_true rfl, lay_X3, w_246⟩
theorem fp_RX3_18 : FP RX3 18 2 4 (.array .int) true := ⟨RX3, TX3, 10, tyX3, rfl, Nat.le_of_ble_eq_true rfl, lay_X3, w_246, tyX3_ok, nmX3, rfl, by decide +kernel, fun h => rfl⟩
theorem fl_RX3_21 : FL RX3 21 2 5 := ⟨RX3, TX3, 10, rfl, Nat.le_of_ble_eq_true rfl, lay_X3, w_247⟩
theorem fp_RX3_21 : FP RX3 21 2 5 (.array .int) true := ⟨RX3, TX3, 10, tyX3, rfl, Nat.le_of_ble_eq_true rfl, lay_X3, w_247, tyX3_ok, nmX3, rfl, by decide +kernel, fun h => rfl⟩
theorem fl_RX3_24 : FL RX3 24 2 6 := ⟨RX3, TX3, 10, rfl, Nat.le_of_ble_eq_true rfl, lay_X3, w_248⟩
theorem fp_RX3_24 : FP RX3 24 2 6 (.array .int) true := ⟨RX3, TX3, 10, tyX3, rfl, Nat.le_of_ble_eq_true rfl, lay_X3, w_248, tyX3_ok, nmX3, rfl, by decide +kernel, fun h => rfl⟩
theorem fl_RX3_27 : FL RX3 27 2 7 := ⟨RX3, TX3, 10, rfl, Nat.le_of_ble_eq_true rfl, lay_X3, w_249⟩
theorem fp_RX3_27 : FP RX3 27 2 7 (.array .boolean) true := ⟨RX3, TX3, 10, tyX3, rfl, Nat.le_of_ble_eq_true rfl, lay_X3, w_249, tyX3_ok, nmX3, rfl, by decide +kernel, fun h => rfl⟩
theorem fl_RX3_31 : FL RX3 31 2 8 := ⟨RX3, TX3, 10, rfl, Nat.le_of_ble_eq_true rfl, lay_X3, w_250⟩
theorem fp_RX3_31 : FP RX3 31 2 8 (.array .int) true := ⟨RX3, TX3, 10, tyX3, rfl, Nat.le_of_ble_eq_true rfl, lay_X3, w_250, tyX3_ok, nmX3, rfl, by decide +kernel, fun h => rfl⟩
theorem fl_RX3_34 : FL RX3 34 2 9 := ⟨RX3, TX3, 10, rfl, Nat.le_of_ble_eq_true rfl, lay_X3, w_251⟩
theorem fp_RX3_34 : FP RX3 34 2 9 (.array .int) true := ⟨RX3, TX3, 10, tyX3, rfl, Nat.le_of_ble_eq_true rfl, lay_X3, w_251, tyX3_ok, nmX3, rfl, by decide +kernel, fun h => rfl⟩
theorem fl_RX3_37 : FL RX3 37 2 0 := ⟨RX3, TX3, 10, rfl, Nat.le_of_ble_eq_true rfl, lay_X3, w_240⟩
theorem fp_RX3_37 : FP RX3 37 2 0 .int false := ⟨RX3, TX3, 10, tyX3, rfl, Nat.le_of_ble_eq_true rfl, lay_X3, w_240, tyX3_ok, nmX3, rfl, by decide +kernel, fun h => Bool.noConfusion h⟩
theorem fl_RX3_41 : FL RX3 41 5 0 := ⟨RX6, TX6, 3, rfl, Nat.le_of_ble_eq_true rfl, lay_X6, w_160⟩
theorem fp_RX3_41 : FP RX3 41 5 0 .int false := ⟨RX6, TX6, 3, tyX6, rfl, Nat.le_of_ble_eq_true rfl, lay_X6, w_160, tyX6_ok, nmX6, rfl, by decide +kernel, fun h => Bool.noConfusion h⟩
theorem fl_RX3_56 : FL RX3 56 3 1 := ⟨RX4, TX4, 6, rfl, Nat.le_of_ble_eq_true rfl, lay_X4, w_389⟩
theorem fp_RX3_56 : FP RX3 56 3 1 .int false := ⟨RX4, TX4, 6, tyX4, rfl, Nat.le_of_ble_eq_true rfl, lay_X4, w_389, tyX4_ok, nmX4, rfl, by decide +kernel, fun h => Bool.noConfusion h⟩
theorem fl_RX3_76 : FL RX3 76 3 3 := ⟨RX4, TX4, 6, rfl, Nat.le_of_ble_eq_true rfl, lay_X4, w_396⟩
theorem fp_RX3_76 : FP RX3 76 3 3 .int false := ⟨RX4, TX4, 6, tyX4, rfl, Nat.le_of_ble_eq_true rfl, lay_X4, w_396, tyX4_ok, nmX4, rfl, by decide +kernel, fun h => Bool.noConfusion h⟩
theorem fl_RX3_80 : FL RX3 80 2 1 := ⟨RX3, TX3, 10, rfl, Nat.le_of_ble_eq_true rfl, lay_X3, w_242⟩
theorem fp_RX3_80 : FP RX3 80 2 1 .int false := ⟨RX3, TX3, 10, tyX3, rfl, Nat.le_of_ble_eq_true rfl, lay_X3, w_242, tyX3_ok, nmX3, rfl, by decide +kernel, fun h => Bool.noConfusion h⟩
theorem fl_RX3_83 : FL RX3 83 1 5 := ⟨RX1, TX1, 13, rfl, Nat.le_of_ble_eq_true rfl, lay_X1, w_107⟩
theorem fp_RX3_83 : FP RX3 83 1 5 .int false := ⟨RX1, TX1, 13, tyX1, rfl, Nat.le_of_ble_eq_true rfl, lay_X1, w_107, tyX1_ok, nmX1, rfl, by decide +kernel, fun h => Bool.noConfusion h⟩
theorem fl_RX3_86 : FL RX3 86 1 4 := ⟨RX1, TX1, 13, rfl, Nat.le_of_ble_eq_true rfl, lay_X1, w_102⟩
theorem fp_RX3_86 : FP RX3 86 1 4 .int false := ⟨RX1, TX1, 13, tyX1, rfl, Nat.le_of_ble_eq_true rfl, lay_X1, w_102, tyX1_ok, nmX1, rfl, by decide +kernel, fun h => Bool.noConfusion h⟩
theorem fl_RX4_9 : FL RX4 9 3 0 := ⟨RX4, TX4, 6, rfl, Nat.le_of_ble_eq_true rfl, lay_X4, w_385⟩
theorem fp_RX4_9 : FP RX4 9 3 0 .int true := ⟨RX4, TX4, 6, tyX4, rfl, Nat.le_of_ble_eq_true rfl, lay_X4, w_385, tyX4_ok, nmX4, rfl, by decide +kernel, fun h => rfl⟩
theorem fl_RX4_15 : FL RX4 15 3 1 := ⟨RX4, TX4, 6, rfl, Nat.le_of_ble_eq_true rfl, lay_X4, w_388⟩
theorem fp_RX4_15 : FP RX4 15 3 1 .int false := ⟨RX4, TX4, 6, tyX4, rfl, Nat.le_of_ble_eq_true rfl, lay_X4, w_388, tyX4_ok, nmX4, rfl, by decide +kernel, fun h => Bool.noConfusion h⟩
theorem fl_RX4_18 : FL RX4 18 3 2 := ⟨RX4, TX4, 6, rfl, Nat.le_of_ble_eq_true rfl, lay_X4, w_392⟩
theorem fp_RX4_18 : FP RX4 18 3 2 .int false := ⟨RX4, TX4, 6, tyX4, rfl, Nat.le_of_ble_eq_true rfl, lay_X4, w_392, tyX4_ok, nmX4, rfl, by decide +kernel, fun h => Bool.noConfusion h⟩
theorem fl_RX4_21 : FL RX4 21 3 3 := ⟨RX4, TX4, 6, rfl, Nat.le_of_ble_eq_true rfl, lay_X4, w_395⟩
theorem fp_RX4_21 : FP RX4 21 3 3 .int false := ⟨RX4, TX4, 6, tyX4, rfl, Nat.le_of_ble_eq_true rfl, lay_X4, w_395, tyX4_ok, nmX4, rfl, by decide +kernel, fun h => Bool.noConfusion h⟩
theorem fl_RX4_24 : FL RX4 24 3 4 := ⟨RX4, TX4, 6, rfl, Nat.le_of_ble_eq_true rfl, lay_X4, w_398⟩
theorem fp_RX4_24 : FP RX4 24 3 4 .int false := ⟨RX4, TX4, 6, tyX4, rfl, Nat.le_of_ble_eq_true rfl, lay_X4, w_398, tyX4_ok, nmX4, rfl, by decide +kernel, fun h => Bool.noConfusion h⟩
theorem fl_RX4_27 : FL RX4 27 3 5 := ⟨RX4, TX4, 6, rfl, Nat.le_of_ble_eq_true rfl, lay_X4, w_401⟩
theorem fp_RX4_27 : FP RX4 27 3 5 .int false := ⟨RX4, TX4, 6, tyX4, rfl, Nat.le_of_ble_eq_true rfl, lay_X4, w_401, tyX4_ok, nmX4, rfl, by decide +kernel, fun h => Bool.noConfusion h⟩
theorem fl_RX5_9 : FL RX5 9 4 1 := ⟨RX5, TX5, 8, rfl, Nat.le_of_ble_eq_true rfl, lay_X5, w_282⟩
theorem fp_RX5_9 : FP RX5 9 4 1 .int false := ⟨RX5, TX5, 8, tyX5, rfl, Nat.le_of_ble_eq_true rfl, lay_X5, w_282, tyX5_ok, nmX5, rfl, by decide +kernel, fun h => Bool.noConfusion h⟩
theorem fl_RX5_15 : FL RX5 15 4 3 := ⟨RX5, TX5, 8, rfl, Nat.le_of_ble_eq_true rfl, lay_X5, w_286⟩
theorem fp_RX5_15 : FP RX5 15 4 3 (.array .int) true := ⟨RX5, TX5, 8, tyX5, rfl, Nat.le_of_ble_eq_true rfl, lay_X5, w_286, tyX5_ok, nmX5, rfl, by decide +kernel, fun h => rfl⟩
theorem fl_RX5_19 : FL RX5 19 4 4 := ⟨RX5, TX5, 8, rfl, Nat.le_of_ble_eq_true rfl, lay_X5, w_288⟩
theorem fp_RX5_19 : FP RX5 19 4 4 (.array .int) true := ⟨RX5, TX5, 8, tyX5, rfl, Nat.le_of_ble_eq_true rfl, lay_X5, w_288, tyX5_ok, nmX5, rfl, by decide +kernel, fun h => rfl⟩
theorem fl_RX5_22 : FL RX5 22 4 5 := ⟨RX5, TX5, 8, rfl, Nat.le_of_ble_eq_true rfl, lay_X5, w_290⟩
theorem fp_RX5_22 : FP RX5 22 4 5 (.array .int) true := ⟨RX5, TX5, 8, tyX5, rfl, Nat.le_of_ble_eq_true rfl, lay_X5, w_290, tyX5_ok, nmX5, rfl, by decide +kernel, fun h => rfl⟩
theorem fl_RX5_25 : FL RX5 25 4 7 := ⟨RX5, TX5, 8, rfl, Nat.le_of_ble_eq_true rfl, lay_X5, w_293⟩
theorem fp_RX5_25 : FP RX5 25 4 7 (.array .int) true := ⟨RX5, TX5, 8, tyX5, rfl, Nat.le_of_ble_eq_true rfl, lay_X5, w_293, tyX5_ok, nmX5, rfl, by decide +kernel, fun h => rfl⟩
theorem fl_RX5_28 : FL RX5 28 4 0 := ⟨RX5, TX5, 8, rfl, Nat.le_of_ble_eq_true rfl, lay_X5, w_280⟩
theorem fp_RX5_28 : FP RX5 28 4 0 .int false := ⟨RX5, TX5, 8, tyX5, rfl, Nat.le_of_ble_eq_true rfl, lay_X5, w_280, tyX5_ok, nmX5, rfl, by decide +kernel, fun h => Bool.noConfusion h⟩
theorem fl_RX5_35 : FL RX5 35 4 6 := ⟨RX5, TX5, 8, rfl, Nat.le_of_ble_eq_true rfl, lay_X5, w_292⟩
theorem fp_RX5_35 : FP RX5 35 4 6 .int false := ⟨RX5, TX5, 8, tyX5, rfl, Nat.le_of_ble_eq_true rfl, lay_X5, w_292, tyX5_ok, nmX5, rfl, by decide +kernel, fun h => Bool.noConfusion h⟩
theorem fl_RX5_38 : FL RX5 38 4 2 := ⟨RX5, TX5, 8, rfl, Nat.le_of_ble_eq_true rfl, lay_X5, w_284⟩
theorem fp_RX5_38 : FP RX5 38 4 2 .int false := ⟨RX5, TX5, 8, tyX5, rfl, Nat.le_of_ble_eq_true rfl, lay_X5, w_284, tyX5_ok, nmX5, rfl, by decide +kernel, fun h => Bool.noConfusion h⟩
theorem fl_RX6_11 : FL RX6 11 5 2 := ⟨RX6, TX6, 3, rfl, Nat.le_of_ble_eq_true rfl, lay_X6, w_166⟩
theorem fp_RX6_11 : FP RX6 11 5 2 (.array (.object "DiskArmSimulator$Request")) true := ⟨RX6, TX6, 3, tyX6, rfl, Nat.le_of_ble_eq_true rfl, lay_X6, w_166, tyX6_ok, nmX6, rfl, by decide +kernel, fun h => rfl⟩
theorem fl_RX6_17 : FL RX6 17 5 0 := ⟨RX6, TX6, 3, rfl, Nat.le_of_ble_eq_true rfl, lay_X6, w_159⟩
theorem fp_RX6_17 : FP RX6 17 5 0 .int false := ⟨RX6, TX6, 3, tyX6, rfl, Nat.le_of_ble_eq_true rfl, lay_X6, w_159, tyX6_ok, nmX6, rfl, by decide +kernel, fun h => Bool.noConfusion h⟩
theorem fl_RX6_29 : FL RX6 29 5 1 := ⟨RX6, TX6, 3, rfl, Nat.le_of_ble_eq_true rfl, lay_X6, w_163⟩
theorem fp_RX6_29 : FP RX6 29 5 1 .int false := ⟨RX6, TX6, 3, tyX6, rfl, Nat.le_of_ble_eq_true rfl, lay_X6, w_163, tyX6_ok, nmX6, rfl, by decide +kernel, fun h => Bool.noConfusion h⟩
theorem fl_RX6_42 : FL RX6 42 3 5 := ⟨RX4, TX4, 6, rfl, Nat.le_of_ble_eq_true rfl, lay_X4, w_402⟩
theorem fp_RX6_42 : FP RX6 42 3 5 .int false := ⟨RX4, TX4, 6, tyX4, rfl, Nat.le_of_ble_eq_true rfl, lay_X4, w_402, tyX4_ok, nmX4, rfl, by decide +kernel, fun h => Bool.noConfusion h⟩
theorem fl_RX6_49 : FL RX6 49 3 4 := ⟨RX4, TX4, 6, rfl, Nat.le_of_ble_eq_true rfl, lay_X4, w_399⟩
theorem fp_RX6_49 : FP RX6 49 3 4 .int false := ⟨RX4, TX4, 6, tyX4, rfl, Nat.le_of_ble_eq_true rfl, lay_X4, w_399, tyX4_ok, nmX4, rfl, by decide +kernel, fun h => Bool.noConfusion h⟩
theorem fl_RX6_55 : FL RX6 55 3 2 := ⟨RX4, TX4, 6, rfl, Nat.le_of_ble_eq_true rfl, lay_X4, w_394⟩
theorem fp_RX6_55 : FP RX6 55 3 2 .int false := ⟨RX4, TX4, 6, tyX4, rfl, Nat.le_of_ble_eq_true rfl, lay_X4, w_394, tyX4_ok, nmX4, rfl, by decide +kernel, fun h => Bool.noConfusion h⟩
theorem fl_RX7_9 : FL RX7 9 6 1 := ⟨RX7, TX7, 4, rfl, Nat.le_of_ble_eq_true rfl, lay_X7, w_182⟩
theorem fp_RX7_9 : FP RX7 9 6 1 .boolean false := ⟨RX7, TX7, 4, tyX7, rfl, Nat.le_of_ble_eq_true rfl, lay_X7, w_182, tyX7_ok, nmX7, rfl, by decide +kernel, fun h => Bool.noConfusion h⟩
theorem fl_RX7_15 : FL RX7 15 6 2 := ⟨RX7, TX7, 4, rfl, Nat.le_of_ble_eq_true rfl, lay_X7, w_184⟩
theorem fp_RX7_15 : FP RX7 15 6 2 .int false := ⟨RX7, TX7, 4, tyX7, rfl, Nat.le_of_ble_eq_true rfl, lay_X7, w_184, tyX7_ok, nmX7, rfl, by decide +kernel, fun h => Bool.noConfusion h⟩
theorem fl_RX7_19 : FL RX7 19 6 3 := ⟨RX7, TX7, 4, rfl, Nat.le_of_ble_eq_true rfl, lay_X7, w_186⟩
theorem fp_RX7_19 : FP RX7 19 6 3 .int false := ⟨RX7, TX7, 4, tyX7, rfl, Nat.le_of_ble_eq_true rfl, lay_X7, w_186, tyX7_ok, nmX7, rfl, by decide +kernel, fun h => Bool.noConfusion h⟩
theorem fl_RX7_22 : FL RX7 22 6 0 := ⟨RX7, TX7, 4, rfl, Nat.le_of_ble_eq_true rfl, lay_X7, w_180⟩
theorem fp_RX7_22 : FP RX7 22 6 0 .int false := ⟨RX7, TX7, 4, tyX7, rfl, Nat.le_of_ble_eq_true rfl, lay_X7, w_180, tyX7_ok, nmX7, rfl, by decide +kernel, fun h => Bool.noConfusion h⟩
theorem fl_RX7_35 : FL RX7 35 2 0 := ⟨RX3, TX3, 10, rfl, Nat.le_of_ble_eq_true rfl, lay_X3, w_241⟩
theorem fp_RX7_35 : FP RX7 35 2 0 .int false := ⟨RX3, TX3, 10, tyX3, rfl, Nat.le_of_ble_eq_true rfl, lay_X3, w_241, tyX3_ok, nmX3, rfl, by decide +kernel, fun h => Bool.noConfusion h⟩
theorem fl_RX7_47 : FL RX7 47 5 0 := ⟨RX6, TX6, 3, rfl, Nat.le_of_ble_eq_true rfl, lay_X6, w_162⟩
theorem fp_RX7_47 : FP RX7 47 5 0 .int false := ⟨RX6, TX6, 3, tyX6, rfl, Nat.le_of_ble_eq_true rfl, lay_X6, w_162, tyX6_ok, nmX6, rfl, by decide +kernel, fun h => Bool.noConfusion h⟩
theorem fl_RX7_60 : FL RX7 60 3 1 := ⟨RX4, TX4, 6, rfl, Nat.le_of_ble_eq_true rfl, lay_X4, w_390⟩
theorem fp_RX7_60 : FP RX7 60 3 1 .int false := ⟨RX4, TX4, 6, tyX4, rfl, Nat.le_of_ble_eq_true rfl, lay_X4, w_390, tyX4_ok, nmX4, rfl, by decide +kernel, fun h => Bool.noConfusion h⟩
theorem fl_RX7_75 : FL RX7 75 1 5 := ⟨RX1, TX1, 13, rfl, Nat.le_of_ble_eq_true rfl, lay_X1, w_108⟩
theorem fp_RX7_75 : FP RX7 75 1 5 .int false := ⟨RX1, TX1, 13, tyX1, rfl, Nat.le_of_ble_eq_true rfl, lay_X1, w_108, tyX1_ok, nmX1, rfl, by decide +kernel, fun h => Bool.noConfusion h⟩
theorem fl_RX7_83 : FL RX7 83 3 0 := ⟨RX4, TX4, 6, rfl, Nat.le_of_ble_eq_true rfl, lay_X4, w_386⟩
theorem fl_RX7_90 : FL RX7 90 1 4 := ⟨RX1, TX1, 13, rfl, Nat.le_of_ble_eq_true rfl, lay_X1, w_104⟩
theorem fp_RX7_90 : FP RX7 90 1 4 .int false := ⟨RX1, TX1, 13, tyX1, rfl, Nat.le_of_ble_eq_true rfl, lay_X1, w_104, tyX1_ok, nmX1, rfl, by decide +kernel, fun h => Bool.noConfusion h⟩
theorem fl_RX7_103 : FL RX7 103 3 3 := ⟨RX4, TX4, 6, rfl, Nat.le_of_ble_eq_true rfl, lay_X4, w_397⟩
theorem fp_RX7_103 : FP RX7 103 3 3 .int false := ⟨RX4, TX4, 6, tyX4, rfl, Nat.le_of_ble_eq_true rfl, lay_X4, w_397, tyX4_ok, nmX4, rfl, by decide +kernel, fun h => Bool.noConfusion h⟩
theorem fl_RX7_116 : FL RX7 116 3 2 := ⟨RX4, TX4, 6, rfl, Nat.le_of_ble_eq_true rfl, lay_X4, w_393⟩
theorem fp_RX7_116 : FP RX7 116 3 2 .int false := ⟨RX4, TX4, 6, tyX4, rfl, Nat.le_of_ble_eq_true rfl, lay_X4, w_393, tyX4_ok, nmX4, rfl, by decide +kernel, fun h => Bool.noConfusion h⟩
theorem fl_RX8_12 : FL RX8 12 7 0 := ⟨RX8, TX8, 4, rfl, Nat.le_of_ble_eq_true rfl, lay_X8, w_217⟩
theorem fp_RX8_12 : FP RX8 12 7 0 (.object "DiskArmSimulator$Drive") true := ⟨RX8, TX8, 4, tyX8, rfl, Nat.le_of_ble_eq_true rfl, lay_X8, w_217, tyX8_ok, nmX8, rfl, by decide +kernel, fun h => rfl⟩
theorem fl_RX8_21 : FL RX8 21 7 1 := ⟨RX8, TX8, 4, rfl, Nat.le_of_ble_eq_true rfl, lay_X8, w_219⟩
theorem fp_RX8_21 : FP RX8 21 7 1 (.object "DiskArmSimulator$Requests") true := ⟨RX8, TX8, 4, tyX8, rfl, Nat.le_of_ble_eq_true rfl, lay_X8, w_219, tyX8_ok, nmX8, rfl, by decide +kernel, fun h => rfl⟩
theorem fl_RX8_28 : FL RX8 28 7 2 := ⟨RX8, TX8, 4, rfl, Nat.le_of_ble_eq_true rfl, lay_X8, w_221⟩
theorem fp_RX8_28 : FP RX8 28 7 2 (.object "DiskArmSimulator$Scheduler") true := ⟨RX8, TX8, 4, tyX8, rfl, Nat.le_of_ble_eq_true rfl, lay_X8, w_221, tyX8_ok, nmX8, rfl, by decide +kernel, fun h => rfl⟩
theorem fl_RX8_35 : FL RX8 35 7 3 := ⟨RX8, TX8, 4, rfl, Nat.le_of_ble_eq_true rfl, lay_X8, w_223⟩
theorem fp_RX8_35 : FP RX8 35 7 3 (.object "DiskArmSimulator$Cache") true := ⟨RX8, TX8, 4, tyX8, rfl, Nat.le_of_ble_eq_true rfl, lay_X8, w_223, tyX8_ok, nmX8, rfl, by decide +kernel, fun h => rfl⟩
theorem fl_RX8_52 : FL RX8 52 5 0 := ⟨RX6, TX6, 3, rfl, Nat.le_of_ble_eq_true rfl, lay_X6, w_161⟩
theorem fp_RX8_52 : FP RX8 52 5 0 .int false := ⟨RX6, TX6, 3, tyX6, rfl, Nat.le_of_ble_eq_true rfl, lay_X6, w_161, tyX6_ok, nmX6, rfl, by decide +kernel, fun h => Bool.noConfusion h⟩
theorem fl_RX8_56 : FL RX8 56 5 1 := ⟨RX6, TX6, 3, rfl, Nat.le_of_ble_eq_true rfl, lay_X6, w_164⟩
theorem fp_RX8_56 : FP RX8 56 5 1 .int false := ⟨RX6, TX6, 3, tyX6, rfl, Nat.le_of_ble_eq_true rfl, lay_X6, w_164, tyX6_ok, nmX6, rfl, by decide +kernel, fun h => Bool.noConfusion h⟩
theorem fl_RX8_59 : FL RX8 59 0 0 := ⟨RX0, TX0, 3, rfl, Nat.le_of_ble_eq_true rfl, lay_X0, w_204⟩
theorem fp_RX8_59 : FP RX8 59 0 0 .boolean false := ⟨RX0, TX0, 3, tyX0, rfl, Nat.le_of_ble_eq_true rfl, lay_X0, w_204, tyX0_ok, nmX0, rfl, by decide +kernel, fun h => Bool.noConfusion h⟩
theorem fl_RX8_67 : FL RX8 67 0 1 := ⟨RX0, TX0, 3, rfl, Nat.le_of_ble_eq_true rfl, lay_X0, w_207⟩
theorem fp_RX8_67 : FP RX8 67 0 1 .int false := ⟨RX0, TX0, 3, tyX0, rfl, Nat.le_of_ble_eq_true rfl, lay_X0, w_207, tyX0_ok, nmX0, rfl, by decide +kernel, fun h => Bool.noConfusion h⟩
theorem fl_RX8_68 : FL RX8 68 1 4 := ⟨RX1, TX1, 13, rfl, Nat.le_of_ble_eq_true rfl, lay_X1, w_103⟩
theorem fp_RX8_68 : FP RX8 68 1 4 .int false := ⟨RX1, TX1, 13, tyX1, rfl, Nat.le_of_ble_eq_true rfl, lay_X1, w_103, tyX1_ok, nmX1, rfl, by decide +kernel, fun h => Bool.noConfusion h⟩
theorem fl_RX8_87 : FL RX8 87 3 0 := ⟨RX4, TX4, 6, rfl, Nat.le_of_ble_eq_true rfl, lay_X4, w_387⟩
theorem fl_RX8_100 : FL RX8 100 3 1 := ⟨RX4, TX4, 6, rfl, Nat.le_of_ble_eq_true rfl, lay_X4, w_391⟩
theorem fp_RX8_100 : FP RX8 100 3 1 .int false := ⟨RX4, TX4, 6, tyX4, rfl, Nat.le_of_ble_eq_true rfl, lay_X4, w_391, tyX4_ok, nmX4, rfl, by decide +kernel, fun h => Bool.noConfusion h⟩
theorem fl_RX8_112 : FL RX8 112 1 5 := ⟨RX1, TX1, 13, rfl, Nat.le_of_ble_eq_true rfl, lay_X1, w_109⟩
theorem fp_RX8_112 : FP RX8 112 1 5 .int false := ⟨RX1, TX1, 13, tyX1, rfl, Nat.le_of_ble_eq_true rfl, lay_X1, w_109, tyX1_ok, nmX1, rfl, by decide +kernel, fun h => Bool.noConfusion h⟩
theorem fl_RX9_10 : FL RX9 10 8 0 := ⟨RX9, TX9, 4, rfl, Nat.le_of_ble_eq_true rfl, lay_X9, w_311⟩
theorem fp_RX9_10 : FP RX9 10 8 0 (.object "DiskArmSimulator$State") true := ⟨RX9, TX9, 4, tyX9, rfl, Nat.le_of_ble_eq_true rfl, lay_X9, w_311, tyX9_ok, nmX9, rfl, by decide +kernel, fun h => rfl⟩
theorem fl_RX9_19 : FL RX9 19 8 1 := ⟨RX9, TX9, 4, rfl, Nat.le_of_ble_eq_true rfl, lay_X9, w_312⟩
theorem fp_RX9_19 : FP RX9 19 8 1 (.object "DiskArmSimulator$OrderSearch") true := ⟨RX9, TX9, 4, tyX9, rfl, Nat.le_of_ble_eq_true rfl, lay_X9, w_312, tyX9_ok, nmX9, rfl, by decide +kernel, fun h => rfl⟩
theorem fl_RX9_26 : FL RX9 26 8 2 := ⟨RX9, TX9, 4, rfl, Nat.le_of_ble_eq_true rfl, lay_X9, w_313⟩
theorem fp_RX9_26 : FP RX9 26 8 2 (.object "DiskArmSimulator$RequestText") true := ⟨RX9, TX9, 4, tyX9, rfl, Nat.le_of_ble_eq_true rfl, lay_X9, w_313, tyX9_ok, nmX9, rfl, by decide +kernel, fun h => rfl⟩
theorem fl_RX9_41 : FL RX9 41 7 0 := ⟨RX8, TX8, 4, rfl, Nat.le_of_ble_eq_true rfl, lay_X8, w_218⟩
theorem fl_RX9_45 : FL RX9 45 1 0 := ⟨RX1, TX1, 13, rfl, Nat.le_of_ble_eq_true rfl, lay_X1, w_94⟩
theorem fp_RX9_45 : FP RX9 45 1 0 .int false := ⟨RX1, TX1, 13, tyX1, rfl, Nat.le_of_ble_eq_true rfl, lay_X1, w_94, tyX1_ok, nmX1, rfl, by decide +kernel, fun h => Bool.noConfusion h⟩
theorem fl_RX9_51 : FL RX9 51 1 1 := ⟨RX1, TX1, 13, rfl, Nat.le_of_ble_eq_true rfl, lay_X1, w_96⟩
theorem fp_RX9_51 : FP RX9 51 1 1 .int false := ⟨RX1, TX1, 13, tyX1, rfl, Nat.le_of_ble_eq_true rfl, lay_X1, w_96, tyX1_ok, nmX1, rfl, by decide +kernel, fun h => Bool.noConfusion h⟩
theorem fl_RX9_54 : FL RX9 54 1 2 := ⟨RX1, TX1, 13, rfl, Nat.le_of_ble_eq_true rfl, lay_X1, w_98⟩
theorem fp_RX9_54 : FP RX9 54 1 2 .int false := ⟨RX1, TX1, 13, tyX1, rfl, Nat.le_of_ble_eq_true rfl, lay_X1, w_98, tyX1_ok, nmX1, rfl, by decide +kernel, fun h => Bool.noConfusion h⟩
theorem fl_RX9_59 : FL RX9 59 1 3 := ⟨RX1, TX1, 13, rfl, Nat.le_of_ble_eq_true rfl, lay_X1, w_100⟩
theorem fp_RX9_59 : FP RX9 59 1 3 .int false := ⟨RX1, TX1, 13, tyX1, rfl, Nat.le_of_ble_eq_true rfl, lay_X1, w_100, tyX1_ok, nmX1, rfl, by decide +kernel, fun h => Bool.noConfusion h⟩
theorem fl_RX9_64 : FL RX9 64 7 2 := ⟨RX8, TX8, 4, rfl, Nat.le_of_ble_eq_true rfl, lay_X8, w_222⟩
theorem fl_RX9_68 : FL RX9 68 6 0 := ⟨RX7, TX7, 4, rfl, Nat.le_of_ble_eq_true rfl, lay_X7, w_181⟩
theorem fp_RX9_68 : FP RX9 68 6 0 .int false := ⟨RX7, TX7, 4, tyX7, rfl, Nat.le_of_ble_eq_true rfl, lay_X7, w_181, tyX7_ok, nmX7, rfl, by decide +kernel, fun h => Bool.noConfusion h⟩
theorem fl_RX9_75 : FL RX9 75 6 2 := ⟨RX7, TX7, 4, rfl, Nat.le_of_ble_eq_true rfl, lay_X7, w_185⟩
theorem fp_RX9_75 : FP RX9 75 6 2 .int false := ⟨RX7, TX7, 4, tyX7, rfl, Nat.le_of_ble_eq_true rfl, lay_X7, w_185, tyX7_ok, nmX7, rfl, by decide +kernel, fun h => Bool.noConfusion h⟩
theorem fl_RX9_78 : FL RX9 78 6 3 := ⟨RX7, TX7, 4, rfl, Nat.le_of_ble_eq_true rfl, lay_X7, w_187⟩
theorem fp_RX9_78 : FP RX9 78 6 3 .int false := ⟨RX7, TX7, 4, tyX7, rfl, Nat.le_of_ble_eq_true rfl, lay_X7, w_187, tyX7_ok, nmX7, rfl, by decide +kernel, fun h => Bool.noConfusion h⟩
theorem fl_RX9_81 : FL RX9 81 7 3 := ⟨RX8, TX8, 4, rfl, Nat.le_of_ble_eq_true rfl, lay_X8, w_224⟩
theorem fl_RX9_85 : FL RX9 85 0 1 := ⟨RX0, TX0, 3, rfl, Nat.le_of_ble_eq_true rfl, lay_X0, w_208⟩
theorem fp_RX9_85 : FP RX9 85 0 1 .int false := ⟨RX0, TX0, 3, tyX0, rfl, Nat.le_of_ble_eq_true rfl, lay_X0, w_208, tyX0_ok, nmX0, rfl, by decide +kernel, fun h => Bool.noConfusion h⟩
theorem fl_RX9_95 : FL RX9 95 0 0 := ⟨RX0, TX0, 3, rfl, Nat.le_of_ble_eq_true rfl, lay_X0, w_205⟩
theorem fp_RX9_95 : FP RX9 95 0 0 .boolean false := ⟨RX0, TX0, 3, tyX0, rfl, Nat.le_of_ble_eq_true rfl, lay_X0, w_205, tyX0_ok, nmX0, rfl, by decide +kernel, fun h => Bool.noConfusion h⟩
theorem fl_RX9_146 : FL RX9 146 1 4 := ⟨RX1, TX1, 13, rfl, Nat.le_of_ble_eq_true rfl, lay_X1, w_105⟩
theorem fp_RX9_146 : FP RX9 146 1 4 .int false := ⟨RX1, TX1, 13, tyX1, rfl, Nat.le_of_ble_eq_true rfl, lay_X1, w_105, tyX1_ok, nmX1, rfl, by decide +kernel, fun h => Bool.noConfusion h⟩
theorem fl_RX9_149 : FL RX9 149 1 5 := ⟨RX1, TX1, 13, rfl, Nat.le_of_ble_eq_true rfl, lay_X1, w_111⟩
theorem fp_RX9_149 : FP RX9 149 1 5 .int false := ⟨RX1, TX1, 13, tyX1, rfl, Nat.le_of_ble_eq_true rfl, lay_X1, w_111, tyX1_ok, nmX1, rfl, by decide +kernel, fun h => Bool.noConfusion h⟩
theorem fl_RX9_152 : FL RX9 152 6 1 := ⟨RX7, TX7, 4, rfl, Nat.le_of_ble_eq_true rfl, lay_X7, w_183⟩
theorem fp_RX9_152 : FP RX9 152 6 1 .boolean false := ⟨RX7, TX7, 4, tyX7, rfl, Nat.le_of_ble_eq_true rfl, lay_X7, w_183, tyX7_ok, nmX7, rfl, by decide +kernel, fun h => Bool.noConfusion h⟩
theorem fl_RX9_180 : FL RX9 180 4 0 := ⟨RX5, TX5, 8, rfl, Nat.le_of_ble_eq_true rfl, lay_X5, w_281⟩
theorem fp_RX9_180 : FP RX9 180 4 0 .int false := ⟨RX5, TX5, 8, tyX5, rfl, Nat.le_of_ble_eq_true rfl, lay_X5, w_281, tyX5_ok, nmX5, rfl, by decide +kernel, fun h => Bool.noConfusion h⟩
theorem fl_RX9_189 : FL RX9 189 4 2 := ⟨RX5, TX5, 8, rfl, Nat.le_of_ble_eq_true rfl, lay_X5, w_285⟩
theorem fp_RX9_189 : FP RX9 189 4 2 .int false := ⟨RX5, TX5, 8, tyX5, rfl, Nat.le_of_ble_eq_true rfl, lay_X5, w_285, tyX5_ok, nmX5, rfl, by decide +kernel, fun h => Bool.noConfusion h⟩
theorem fl_RX9_192 : FL RX9 192 4 4 := ⟨RX5, TX5, 8, rfl, Nat.le_of_ble_eq_true rfl, lay_X5, w_289⟩
theorem fl_RX9_199 : FL RX9 199 4 3 := ⟨RX5, TX5, 8, rfl, Nat.le_of_ble_eq_true rfl, lay_X5, w_287⟩
theorem fl_RX9_202 : FL RX9 202 4 5 := ⟨RX5, TX5, 8, rfl, Nat.le_of_ble_eq_true rfl, lay_X5, w_291⟩
theorem fl_RX9_205 : FL RX9 205 4 1 := ⟨RX5, TX5, 8, rfl, Nat.le_of_ble_eq_true rfl, lay_X5, w_283⟩
theorem fp_RX9_205 : FP RX9 205 4 1 .int false := ⟨RX5, TX5, 8, tyX5, rfl, Nat.le_of_ble_eq_true rfl, lay_X5, w_283, tyX5_ok, nmX5, rfl, by decide +kernel, fun h => Bool.noConfusion h⟩
theorem fl_RX9_212 : FL RX9 212 3 5 := ⟨RX4, TX4, 6, rfl, Nat.le_of_ble_eq_true rfl, lay_X4, w_403⟩
theorem fp_RX9_212 : FP RX9 212 3 5 .int false := ⟨RX4, TX4, 6, tyX4, rfl, Nat.le_of_ble_eq_true rfl, lay_X4, w_403, tyX4_ok, nmX4, rfl, by decide +kernel, fun h => Bool.noConfusion h⟩
theorem fl_RX9_219 : FL RX9 219 7 1 := ⟨RX8, TX8, 4, rfl, Nat.le_of_ble_eq_true rfl, lay_X8, w_220⟩
theorem fl_RX9_238 : FL RX9 238 5 1 := ⟨RX6, TX6, 3, rfl, Nat.le_of_ble_eq_true rfl, lay_X6, w_165⟩
theorem fp_RX9_238 : FP RX9 238 5 1 .int false := ⟨RX6, TX6, 3, tyX6, rfl, Nat.le_of_ble_eq_true rfl, lay_X6, w_165, tyX6_ok, nmX6, rfl, by decide +kernel, fun h => Bool.noConfusion h⟩
theorem fl_RX9_258 : FL RX9 258 3 4 := ⟨RX4, TX4, 6, rfl, Nat.le_of_ble_eq_true rfl, lay_X4, w_400⟩
theorem fp_RX9_258 : FP RX9 258 3 4 .int false := ⟨RX4, TX4, 6, tyX4, rfl, Nat.le_of_ble_eq_true rfl, lay_X4, w_400, tyX4_ok, nmX4, rfl, by decide +kernel, fun h => Bool.noConfusion h⟩
theorem fl_RX9_279 : FL RX9 279 2 1 := ⟨RX3, TX3, 10, rfl, Nat.le_of_ble_eq_true rfl, lay_X3, w_243⟩
theorem fp_RX9_279 : FP RX9 279 2 1 .int false := ⟨RX3, TX3, 10, tyX3, rfl, Nat.le_of_ble_eq_true rfl, lay_X3, w_243, tyX3_ok, nmX3, rfl, by decide +kernel, fun h => Bool.noConfusion h⟩
theorem fl_RX9_290 : FL RX9 290 1 6 := ⟨RX1, TX1, 13, rfl, Nat.le_of_ble_eq_true rfl, lay_X1, w_113⟩
theorem fp_RX9_290 : FP RX9 290 1 6 .int false := ⟨RX1, TX1, 13, tyX1, rfl, Nat.le_of_ble_eq_true rfl, lay_X1, w_113, tyX1_ok, nmX1, rfl, by decide +kernel, fun h => Bool.noConfusion h⟩
theorem fl_RX9_293 : FL RX9 293 1 7 := ⟨RX1, TX1, 13, rfl, Nat.le_of_ble_eq_true rfl, lay_X1, w_115⟩
theorem fp_RX9_293 : FP RX9 293 1 7 .int false := ⟨RX1, TX1, 13, tyX1, rfl, Nat.le_of_ble_eq_true rfl, lay_X1, w_115, tyX1_ok, nmX1, rfl, by decide +kernel, fun h => Bool.noConfusion h⟩
theorem fl_RX9_296 : FL RX9 296 1 8 := ⟨RX1, TX1, 13, rfl, Nat.le_of_ble_eq_true rfl, lay_X1, w_117⟩
theorem fp_RX9_296 : FP RX9 296 1 8 .int false := ⟨RX1, TX1, 13, tyX1, rfl, Nat.le_of_ble_eq_true rfl, lay_X1, w_117, tyX1_ok, nmX1, rfl, by decide +kernel, fun h => Bool.noConfusion h⟩
theorem fl_RX9_299 : FL RX9 299 1 9 := ⟨RX1, TX1, 13, rfl, Nat.le_of_ble_eq_true rfl, lay_X1, w_119⟩
theorem fp_RX9_299 : FP RX9 299 1 9 .int false := ⟨RX1, TX1, 13, tyX1, rfl, Nat.le_of_ble_eq_true rfl, lay_X1, w_119, tyX1_ok, nmX1, rfl, by decide +kernel, fun h => Bool.noConfusion h⟩
theorem fl_RX9_326 : FL RX9 326 8 3 := ⟨RX9, TX9, 4, rfl, Nat.le_of_ble_eq_true rfl, lay_X9, w_314⟩
theorem fp_RX9_326 : FP RX9 326 8 3 (.object "DiskArmSimulator$State") false := ⟨RX9, TX9, 4, tyX9, rfl, Nat.le_of_ble_eq_true rfl, lay_X9, w_314, tyX9_ok, nmX9, rfl, by decide +kernel, fun h => Bool.noConfusion h⟩
theorem md_yX9_setCurve : MVd yX9_setCurve 3 := ⟨by decide +kernel, by decide +kernel, by decide +kernel⟩
theorem mv_RL_7 : MV RL 7 yX9_setCurve cX9_setCurve 4 none 3 := MV.of w_434 w_435 w_436 w_49 w_437 md_yX9_setCurve
theorem md_yX9_setSkew : MVd yX9_setSkew 1 := ⟨by decide +kernel, by decide +kernel, by decide +kernel⟩
theorem mv_RL_15 : MV RL 15 yX9_setSkew cX9_setSkew 3 (some .int) 1 := MV.of w_514 w_515 w_516 w_49 w_517 md_yX9_setSkew
theorem md_yX9_setPolicy : MVd yX9_setPolicy 1 := ⟨by decide +kernel, by decide +kernel, by decide +kernel⟩
theorem mv_RL_19 : MV RL 19 yX9_setPolicy cX9_setPolicy 3 (some .int) 1 := MV.of w_522 w_523 w_524 w_49 w_525 md_yX9_setPolicy
theorem md_yX9_setBuckets : MVd yX9_setBuckets 2 := ⟨by decide +kernel, by decide +kernel, by decide +kernel⟩
theorem mv_RL_22 : MV RL 22 yX9_setBuckets cX9_setBuckets 3 none 2 := MV.of w_530 w_531 w_532 w_49 w_533 md_yX9_setBuckets
theorem md_yX9_setWriteBack : MVd yX9_setWriteBack 1 := ⟨by decide +kernel, by decide +kernel, by decide +kernel⟩
theorem mv_RL_26 : MV RL 26 yX9_setWriteBack cX9_setWriteBack 3 (some .boolean) 1 := MV.of w_539 w_540 w_541 w_49 w_542 md_yX9_setWriteBack
theorem md_yX9_seekTime : MVd yX9_seekTime 2 := ⟨by decide +kernel, by decide +kernel, by decide +kernel⟩
theorem mv_RL_32 : MV RL 32 yX9_seekTime cX9_seekTime 3 (some .int) 2 := MV.of w_586 w_587 w_588 w_49 w_589 md_yX9_seekTime
theorem md_yX9_placeOf : MVd yX9_placeOf 1 := ⟨by decide +kernel, by decide +kernel, by decide +kernel⟩
theorem mv_RL_38 : MV RL 38 yX9_placeOf cX9_placeOf 2 (some .int) 1 := MV.of w_610 w_611 w_612 w_49 w_613 md_yX9_placeOf
theorem md_yX9_cylinderOf : MVd yX9_cylinderOf 1 := ⟨by decide +kernel, by decide +kernel, by decide +kernel⟩
theorem mv_RL_41 : MV RL 41 yX9_cylinderOf cX9_cylinderOf 2 (some .int) 1 := MV.of w_632 w_633 w_634 w_49 w_635 md_yX9_cylinderOf
theorem md_yX9_sectorOf : MVd yX9_sectorOf 1 := ⟨by decide +kernel, by decide +kernel, by decide +kernel⟩
theorem mv_RL_44 : MV RL 44 yX9_sectorOf cX9_sectorOf 2 (some .int) 1 := MV.of w_652 w_653 w_654 w_49 w_655 md_yX9_sectorOf
theorem md_yX9_startAngle : MVd yX9_startAngle 1 := ⟨by decide +kernel, by decide +kernel, by decide +kernel⟩
theorem mv_RL_47 : MV RL 47 yX9_startAngle cX9_startAngle 2 (some .int) 1 := MV.of w_662 w_663 w_664 w_49 w_665 md_yX9_startAngle
theorem md_yX9_accessTime : MVd yX9_accessTime 1 := ⟨by decide +kernel, by decide +kernel, by decide +kernel⟩
theorem mv_RL_50 : MV RL 50 yX9_accessTime cX9_accessTime 2 (some .int) 1 := MV.of w_680 w_681 w_682 w_49 w_683 md_yX9_accessTime
theorem md_yX9_moveToSpare : MVd yX9_moveToSpare 1 := ⟨by decide +kernel, by decide +kernel, by decide +kernel⟩
theorem mv_RL_53 : MV RL 53 yX9_moveToSpare cX9_moveToSpare 3 (some .int) 1 := MV.of w_700 w_701 w_702 w_49 w_703 md_yX9_moveToSpare
theorem md_yX9_accessesOf : MVd yX9_accessesOf 1 := ⟨by decide +kernel, by decide +kernel, by decide +kernel⟩
theorem mv_RL_58 : MV RL 58 yX9_accessesOf cX9_accessesOf 2 (some .int) 1 := MV.of w_730 w_731 w_732 w_49 w_733 md_yX9_accessesOf
theorem md_yX9_idle : MVd yX9_idle 1 := ⟨by decide +kernel, by decide +kernel, by decide +kernel⟩
theorem mv_RL_61 : MV RL 61 yX9_idle cX9_idle 2 (some .int) 1 := MV.of w_741 w_742 w_743 w_49 w_744 md_yX9_idle
theorem md_yX9_submit : MVd yX9_submit 3 := ⟨by decide +kernel, by decide +kernel, by decide +kernel⟩
theorem mv_RL_64 : MV RL 64 yX9_submit cX9_submit 4 (some .int) 3 := MV.of w_751 w_752 w_753 w_49 w_754 md_yX9_submit
theorem md_yX9_appendCharacter : MVd yX9_appendCharacter 1 := ⟨by decide +kernel, by decide +kernel, by decide +kernel⟩
theorem mv_RL_68 : MV RL 68 yX9_appendCharacter cX9_appendCharacter 2 (some .int) 1 := MV.of w_794 w_795 w_796 w_49 w_797 md_yX9_appendCharacter
theorem md_yX9_submitText : MVd yX9_submitText 0 := ⟨by decide +kernel, by decide +kernel, by decide +kernel⟩
theorem mv_RL_71 : MV RL 71 yX9_submitText cX9_submitText 3 (some .int) 0 := MV.of w_808 w_809 w_810 w_49 w_811 md_yX9_submitText
theorem md_yX9_cancel : MVd yX9_cancel 1 := ⟨by decide +kernel, by decide +kernel, by decide +kernel⟩
theorem mv_RL_75 : MV RL 75 yX9_cancel cX9_cancel 3 none 1 := MV.of w_844 w_845 w_846 w_49 w_847 md_yX9_cancel
theorem md_yX9_next : MVd yX9_next 0 := ⟨by decide +kernel, by decide +kernel, by decide +kernel⟩
theorem mv_RL_79 : MV RL 79 yX9_next cX9_next 2 (some .int) 0 := MV.of w_866 w_867 w_868 w_49 w_869 md_yX9_next
theorem md_yX9_serve : MVd yX9_serve 0 := ⟨by decide +kernel, by decide +kernel, by decide +kernel⟩
theorem mv_RL_84 : MV RL 84 yX9_serve cX9_serve 1 (some .int) 0 := MV.of w_961 w_962 w_963 w_49 w_964 md_yX9_serve
theorem md_yX9_serveFor : MVd yX9_serveFor 1 := ⟨by decide +kernel, by decide +kernel, by decide +kernel⟩
theorem mv_RL_87 : MV RL 87 yX9_serveFor cX9_serveFor 4 (some .int) 1 := MV.of w_989 w_990 w_991 w_49 w_992 md_yX9_serveFor
theorem md_yX9_flush : MVd yX9_flush 0 := ⟨by decide +kernel, by decide +kernel, by decide +kernel⟩
theorem mv_RL_90 : MV RL 90 yX9_flush cX9_flush 2 (some .int) 0 := MV.of w_996 w_997 w_998 w_49 w_999 md_yX9_flush
theorem md_yX9_state : MVd yX9_state 1 := ⟨by decide +kernel, by decide +kernel, by decide +kernel⟩
theorem mv_RL_93 : MV RL 93 yX9_state cX9_state 2 (some .int) 1 := MV.of w_1015 w_1016 w_1017 w_49 w_1018 md_yX9_state
theorem md_yX9_bucket : MVd yX9_bucket 1 := ⟨by decide +kernel, by decide +kernel, by decide +kernel⟩
theorem mv_RL_96 : MV RL 96 yX9_bucket cX9_bucket 3 (some .int) 1 := MV.of w_1022 w_1023 w_1024 w_49 w_1025 md_yX9_bucket
theorem md_yX9_finish : MVd yX9_finish 1 := ⟨by decide +kernel, by decide +kernel, by decide +kernel⟩
theorem mv_RL_99 : MV RL 99 yX9_finish cX9_finish 3 (some .int) 1 := MV.of w_1030 w_1031 w_1032 w_49 w_1033 md_yX9_finish
theorem md_yX9_isLate : MVd yX9_isLate 1 := ⟨by decide +kernel, by decide +kernel, by decide +kernel⟩
theorem mv_RL_102 : MV RL 102 yX9_isLate cX9_isLate 3 (some .boolean) 1 := MV.of w_1038 w_1039 w_1040 w_49 w_1041 md_yX9_isLate
theorem md_yX9_bestFinish : MVd yX9_bestFinish 0 := ⟨by decide +kernel, by decide +kernel, by decide +kernel⟩
theorem mv_RL_106 : MV RL 106 yX9_bestFinish cX9_bestFinish 1 (some .int) 0 := MV.of w_1052 w_1053 w_1054 w_49 w_1055 md_yX9_bestFinish
theorem md_yX9_bestRequest : MVd yX9_bestRequest 1 := ⟨by decide +kernel, by decide +kernel, by decide +kernel⟩
theorem mv_RL_109 : MV RL 109 yX9_bestRequest cX9_bestRequest 2 (some .int) 1 := MV.of w_1066 w_1067 w_1068 w_49 w_1069 md_yX9_bestRequest
theorem md_yX9_canMeetDeadlines : MVd yX9_canMeetDeadlines 0 := ⟨by decide +kernel, by decide +kernel, by decide +kernel⟩
theorem mv_RL_112 : MV RL 112 yX9_canMeetDeadlines cX9_canMeetDeadlines 1 (some .boolean) 0 := MV.of w_1075 w_1076 w_1077 w_49 w_1078 md_yX9_canMeetDeadlines
theorem md_yX9_total : MVd yX9_total 1 := ⟨by decide +kernel, by decide +kernel, by decide +kernel⟩
theorem mv_RL_116 : MV RL 116 yX9_total cX9_total 2 (some .int) 1 := MV.of w_1083 w_1084 w_1085 w_49 w_1086 md_yX9_total
theorem md_yX9_utilization : MVd yX9_utilization 0 := ⟨by decide +kernel, by decide +kernel, by decide +kernel⟩
theorem mv_RL_119 : MV RL 119 yX9_utilization cX9_utilization 2 (some .double) 0 := MV.of w_1105 w_1106 w_1107 w_49 w_1108 md_yX9_utilization
theorem md_yX9_averageResponse : MVd yX9_averageResponse 0 := ⟨by decide +kernel, by decide +kernel, by decide +kernel⟩
theorem mv_RL_125 : MV RL 125 yX9_averageResponse cX9_averageResponse 2 (some .double) 0 := MV.of w_1115 w_1116 w_1117 w_49 w_1118 md_yX9_averageResponse
theorem md_yX9_lateShare : MVd yX9_lateShare 0 := ⟨by decide +kernel, by decide +kernel, by decide +kernel⟩
theorem mv_RL_128 : MV RL 128 yX9_lateShare cX9_lateShare 2 (some .float) 0 := MV.of w_1135 w_1136 w_1137 w_49 w_1138 md_yX9_lateShare
theorem md_yX9_restore : MVd yX9_restore 0 := ⟨by decide +kernel, by decide +kernel, by decide +kernel⟩
theorem mv_RL_132 : MV RL 132 yX9_restore cX9_restore 1 (some .int) 0 := MV.of w_1153 w_1154 w_1155 w_49 w_1156 md_yX9_restore
theorem md_yX10_setCurve : MVd yX10_setCurve 3 := ⟨by decide +kernel, by decide +kernel, by decide +kernel⟩
theorem mv_RL_144 : MV RL 144 yX10_setCurve cX10_setCurve 4 none 3 := MV.of w_1223 w_1224 w_1225 w_57 w_1226 md_yX10_setCurve
theorem md_yX10_thrown : MVd yX10_thrown 0 := ⟨by decide +kernel, by decide +kernel, by decide +kernel⟩
theorem mv_RL_145 : MV RL 145 yX10_thrown cX10_thrown 1 (some .int) 0 := MV.of w_1219 w_1220 w_1221 w_57 w_1222 md_yX10_thrown
theorem md_yX10_setSkew : MVd yX10_setSkew 1 := ⟨by decide +kernel, by decide +kernel, by decide +kernel⟩
theorem mv_RL_151 : MV RL 151 yX10_setSkew cX10_setSkew 2 (some .int) 1 := MV.of w_1230 w_1231 w_1232 w_57 w_1233 md_yX10_setSkew
theorem md_yX10_setPolicy : MVd yX10_setPolicy 1 := ⟨by decide +kernel, by decide +kernel, by decide +kernel⟩
theorem mv_RL_154 : MV RL 154 yX10_setPolicy cX10_setPolicy 2 (some .int) 1 := MV.of w_1242 w_1243 w_1244 w_57 w_1245 md_yX10_setPolicy
theorem md_yX10_setBuckets : MVd yX10_setBuckets 2 := ⟨by decide +kernel, by decide +kernel, by decide +kernel⟩
theorem mv_RL_158 : MV RL 158 yX10_setBuckets cX10_setBuckets 3 none 2 := MV.of w_1246 w_1247 w_1248 w_57 w_1249 md_yX10_setBuckets
theorem md_yX10_setWriteBack : MVd yX10_setWriteBack 1 := ⟨by decide +kernel, by decide +kernel, by decide +kernel⟩
theorem mv_RL_162 : MV RL 162 yX10_setWriteBack cX10_setWriteBack 2 (some .boolean) 1 := MV.of w_1250 w_1251 w_1252 w_57 w_1253 md_yX10_setWriteBack
theorem md_yX10_seekTime : MVd yX10_seekTime 2 := ⟨by decide +kernel, by decide +kernel, by decide +kernel⟩
theorem mv_RL_166 : MV RL 166 yX10_seekTime cX10_seekTime 3 (some .int) 2 := MV.of w_1258 w_1259 w_1260 w_57 w_1261 md_yX10_seekTime
theorem md_yX10_placeOf : MVd yX10_placeOf 1 := ⟨by decide +kernel, by decide +kernel, by decide +kernel⟩
theorem mv_RL_169 : MV RL 169 yX10_placeOf cX10_placeOf 2 (some .int) 1 := MV.of w_1269 w_1270 w_1271 w_57 w_1272 md_yX10_placeOf
theorem md_yX10_cylinderOf : MVd yX10_cylinderOf 1 := ⟨by decide +kernel, by decide +kernel, by decide +kernel⟩
theorem mv_RL_172 : MV RL 172 yX10_cylinderOf cX10_cylinderOf 2 (some .int) 1 := MV.of w_1280 w_1281 w_1282 w_57 w_1283 md_yX10_cylinderOf
theorem md_yX10_sectorOf : MVd yX10_sectorOf 1 := ⟨by decide +kernel, by decide +kernel, by decide +kernel⟩
theorem mv_RL_175 : MV RL 175 yX10_sectorOf cX10_sectorOf 2 (some .int) 1 := MV.of w_1293 w_1294 w_1295 w_57 w_1296 md_yX10_sectorOf
theorem md_yX10_startAngle : MVd yX10_startAngle 1 := ⟨by decide +kernel, by decide +kernel, by decide +kernel⟩
theorem mv_RL_178 : MV RL 178 yX10_startAngle cX10_startAngle 2 (some .int) 1 := MV.of w_1300 w_1301 w_1302 w_57 w_1303 md_yX10_startAngle
theorem md_yX10_accessTime : MVd yX10_accessTime 1 := ⟨by decide +kernel, by decide +kernel, by decide +kernel⟩
theorem mv_RL_181 : MV RL 181 yX10_accessTime cX10_accessTime 2 (some .int) 1 := MV.of w_1311 w_1312 w_1313 w_57 w_1314 md_yX10_accessTime
theorem md_yX10_moveToSpare : MVd yX10_moveToSpare 1 := ⟨by decide +kernel, by decide +kernel, by decide +kernel⟩
theorem mv_RL_184 : MV RL 184 yX10_moveToSpare cX10_moveToSpare 2 (some .int) 1 := MV.of w_1327 w_1328 w_1329 w_57 w_1330 md_yX10_moveToSpare
theorem md_yX10_accessesOf : MVd yX10_accessesOf 1 := ⟨by decide +kernel, by decide +kernel, by decide +kernel⟩
theorem mv_RL_187 : MV RL 187 yX10_accessesOf cX10_accessesOf 2 (some .int) 1 := MV.of w_1331 w_1332 w_1333 w_57 w_1334 md_yX10_accessesOf
theorem md_yX9_clock : MVd yX9_clock 0 := ⟨by decide +kernel, by decide +kernel, by decide +kernel⟩
theorem mv_RL_188 : MV RL 188 yX9_clock cX9_clock 1 (some .int) 0 := MV.of w_324 w_325 w_326 w_49 w_327 md_yX9_clock
theorem md_yX10_clock : MVd yX10_clock 0 := ⟨by decide +kernel, by decide +kernel, by decide +kernel⟩
theorem mv_RL_191 : MV RL 191 yX10_clock cX10_clock 1 (some .int) 0 := MV.of w_1335 w_1336 w_1337 w_57 w_1338 md_yX10_clock
theorem md_yX9_arm : MVd yX9_arm 0 := ⟨by decide +kernel, by decide +kernel, by decide +kernel⟩
theorem mv_RL_192 : MV RL 192 yX9_arm cX9_arm 1 (some .int) 0 := MV.of w_328 w_329 w_330 w_49 w_331 md_yX9_arm
theorem md_yX10_arm : MVd yX10_arm 0 := ⟨by decide +kernel, by decide +kernel, by decide +kernel⟩
theorem mv_RL_195 : MV RL 195 yX10_arm cX10_arm 1 (some .int) 0 := MV.of w_1339 w_1340 w_1341 w_57 w_1342 md_yX10_arm
theorem md_yX9_isUpward : MVd yX9_isUpward 0 := ⟨by decide +kernel, by decide +kernel, by decide +kernel⟩
theorem mv_RL_196 : MV RL 196 yX9_isUpward cX9_isUpward 1 (some .boolean) 0 := MV.of w_332 w_333 w_334 w_49 w_335 md_yX9_isUpward
theorem md_yX10_isUpward : MVd yX10_isUpward 0 := ⟨by decide +kernel, by decide +kernel, by decide +kernel⟩
theorem mv_RL_199 : MV RL 199 yX10_isUpward cX10_isUpward 1 (some .boolean) 0 := MV.of w_1343 w_1344 w_1345 w_57 w_1346 md_yX10_isUpward
theorem md_yX10_idle : MVd yX10_idle 1 := ⟨by decide +kernel, by decide +kernel, by decide +kernel⟩
theorem mv_RL_202 : MV RL 202 yX10_idle cX10_idle 2 (some .int) 1 := MV.of w_1347 w_1348 w_1349 w_57 w_1350 md_yX10_idle
theorem md_yX10_submit : MVd yX10_submit 3 := ⟨by decide +kernel, by decide +kernel, by decide +kernel⟩
theorem mv_RL_206 : MV RL 206 yX10_submit cX10_submit 5 (some .int) 3 := MV.of w_1352 w_1353 w_1354 w_57 w_1355 md_yX10_submit
theorem md_yX10_appendCharacter : MVd yX10_appendCharacter 1 := ⟨by decide +kernel, by decide +kernel, by decide +kernel⟩
theorem mv_RL_209 : MV RL 209 yX10_appendCharacter cX10_appendCharacter 2 (some .int) 1 := MV.of w_1372 w_1373 w_1374 w_57 w_1375 md_yX10_appendCharacter
theorem md_yX10_submitText : MVd yX10_submitText 0 := ⟨by decide +kernel, by decide +kernel, by decide +kernel⟩
theorem mv_RL_213 : MV RL 213 yX10_submitText cX10_submitText 3 (some .int) 0 := MV.of w_1376 w_1377 w_1378 w_57 w_1379 md_yX10_submitText
theorem md_yX9_faultPosition : MVd yX9_faultPosition 0 := ⟨by decide +kernel, by decide +kernel, by decide +kernel⟩
theorem mv_RL_214 : MV RL 214 yX9_faultPosition cX9_faultPosition 1 (some .int) 0 := MV.of w_336 w_337 w_338 w_49 w_339 md_yX9_faultPosition
theorem md_yX10_faultPosition : MVd yX10_faultPosition 0 := ⟨by decide +kernel, by decide +kernel, by decide +kernel⟩
theorem mv_RL_217 : MV RL 217 yX10_faultPosition cX10_faultPosition 1 (some .int) 0 := MV.of w_1400 w_1401 w_1402 w_57 w_1403 md_yX10_faultPosition
theorem md_yX10_cancel : MVd yX10_cancel 1 := ⟨by decide +kernel, by decide +kernel, by decide +kernel⟩
theorem mv_RL_221 : MV RL 221 yX10_cancel cX10_cancel 2 none 1 := MV.of w_1404 w_1405 w_1406 w_57 w_1407 md_yX10_cancel
theorem md_yX10_next : MVd yX10_next 0 := ⟨by decide +kernel, by decide +kernel, by decide +kernel⟩
theorem mv_RL_224 : MV RL 224 yX10_next cX10_next 1 (some .int) 0 := MV.of w_1412 w_1413 w_1414 w_57 w_1415 md_yX10_next
theorem md_yX10_serve : MVd yX10_serve 0 := ⟨by decide +kernel, by decide +kernel, by decide +kernel⟩
theorem mv_RL_227 : MV RL 227 yX10_serve cX10_serve 1 (some .int) 0 := MV.of w_1452 w_1453 w_1454 w_57 w_1455 md_yX10_serve
theorem md_yX10_serveFor : MVd yX10_serveFor 1 := ⟨by decide +kernel, by decide +kernel, by decide +kernel⟩
theorem mv_RL_230 : MV RL 230 yX10_serveFor cX10_serveFor 4 (some .int) 1 := MV.of w_1464 w_1465 w_1466 w_57 w_1467 md_yX10_serveFor
theorem md_yX10_flush : MVd yX10_flush 0 := ⟨by decide +kernel, by decide +kernel, by decide +kernel⟩
theorem mv_RL_233 : MV RL 233 yX10_flush cX10_flush 4 (some .int) 0 := MV.of w_1468 w_1469 w_1470 w_57 w_1471 md_yX10_flush
theorem md_yX9_dirtyBlocks : MVd yX9_dirtyBlocks 0 := ⟨by decide +kernel, by decide +kernel, by decide +kernel⟩
theorem mv_RL_234 : MV RL 234 yX9_dirtyBlocks cX9_dirtyBlocks 1 (some .int) 0 := MV.of w_340 w_341 w_342 w_49 w_343 md_yX9_dirtyBlocks
theorem md_yX10_dirtyBlocks : MVd yX10_dirtyBlocks 0 := ⟨by decide +kernel, by decide +kernel, by decide +kernel⟩
theorem mv_RL_237 : MV RL 237 yX10_dirtyBlocks cX10_dirtyBlocks 1 (some .int) 0 := MV.of w_1476 w_1477 w_1478 w_57 w_1479 md_yX10_dirtyBlocks
theorem md_yX9_pendingRequests : MVd yX9_pendingRequests 0 := ⟨by decide +kernel, by decide +kernel, by decide +kernel⟩
theorem mv_RL_238 : MV RL 238 yX9_pendingRequests cX9_pendingRequests 1 (some .int) 0 := MV.of w_344 w_345 w_346 w_49 w_347 md_yX9_pendingRequests
theorem md_yX10_pendingRequests : MVd yX10_pendingRequests 0 := ⟨by decide +kernel, by decide +kernel, by decide +kernel⟩
theorem mv_RL_241 : MV RL 241 yX10_pendingRequests cX10_pendingRequests 1 (some .int) 0 := MV.of w_1480 w_1481 w_1482 w_57 w_1483 md_yX10_pendingRequests
theorem md_yX10_state : MVd yX10_state 1 := ⟨by decide +kernel, by decide +kernel, by decide +kernel⟩
theorem mv_RL_244 : MV RL 244 yX10_state cX10_state 2 (some .int) 1 := MV.of w_1484 w_1485 w_1486 w_57 w_1487 md_yX10_state
theorem md_yX10_bucket : MVd yX10_bucket 1 := ⟨by decide +kernel, by decide +kernel, by decide +kernel⟩
theorem mv_RL_247 : MV RL 247 yX10_bucket cX10_bucket 2 (some .int) 1 := MV.of w_1488 w_1489 w_1490 w_57 w_1491 md_yX10_bucket
theorem md_yX10_finish : MVd yX10_finish 1 := ⟨by decide +kernel, by decide +kernel, by decide +kernel⟩
theorem mv_RL_250 : MV RL 250 yX10_finish cX10_finish 2 (some .int) 1 := MV.of w_1492 w_1493 w_1494 w_57 w_1495 md_yX10_finish
theorem md_yX10_isLate : MVd yX10_isLate 1 := ⟨by decide +kernel, by decide +kernel, by decide +kernel⟩
theorem mv_RL_253 : MV RL 253 yX10_isLate cX10_isLate 2 (some .boolean) 1 := MV.of w_1496 w_1497 w_1498 w_57 w_1499 md_yX10_isLate
theorem md_yX10_bestFinish : MVd yX10_bestFinish 0 := ⟨by decide +kernel, by decide +kernel, by decide +kernel⟩
theorem mv_RL_256 : MV RL 256 yX10_bestFinish cX10_bestFinish 1 (some .int) 0 := MV.of w_1504 w_1505 w_1506 w_57 w_1507 md_yX10_bestFinish
theorem md_yX10_bestRequest : MVd yX10_bestRequest 1 := ⟨by decide +kernel, by decide +kernel, by decide +kernel⟩
theorem mv_RL_259 : MV RL 259 yX10_bestRequest cX10_bestRequest 2 (some .int) 1 := MV.of w_1508 w_1509 w_1510 w_57 w_1511 md_yX10_bestRequest
theorem md_yX10_canMeetDeadlines : MVd yX10_canMeetDeadlines 0 := ⟨by decide +kernel, by decide +kernel, by decide +kernel⟩
theorem mv_RL_262 : MV RL 262 yX10_canMeetDeadlines cX10_canMeetDeadlines 1 (some .boolean) 0 := MV.of w_1512 w_1513 w_1514 w_57 w_1515 md_yX10_canMeetDeadlines
theorem md_yX10_total : MVd yX10_total 1 := ⟨by decide +kernel, by decide +kernel, by decide +kernel⟩
theorem mv_RL_265 : MV RL 265 yX10_total cX10_total 2 (some .int) 1 := MV.of w_1516 w_1517 w_1518 w_57 w_1519 md_yX10_total
theorem md_yX10_utilization : MVd yX10_utilization 0 := ⟨by decide +kernel, by decide +kernel, by decide +kernel⟩
theorem mv_RL_269 : MV RL 269 yX10_utilization cX10_utilization 1 (some .double) 0 := MV.of w_1520 w_1521 w_1522 w_57 w_1523 md_yX10_utilization
theorem md_yX10_averageResponse : MVd yX10_averageResponse 0 := ⟨by decide +kernel, by decide +kernel, by decide +kernel⟩
theorem mv_RL_272 : MV RL 272 yX10_averageResponse cX10_averageResponse 4 (some .double) 0 := MV.of w_1524 w_1525 w_1526 w_57 w_1527 md_yX10_averageResponse
theorem md_yX10_lateShare : MVd yX10_lateShare 0 := ⟨by decide +kernel, by decide +kernel, by decide +kernel⟩
theorem mv_RL_275 : MV RL 275 yX10_lateShare cX10_lateShare 4 (some .float) 0 := MV.of w_1528 w_1529 w_1530 w_57 w_1531 md_yX10_lateShare
theorem md_yX9_save : MVd yX9_save 0 := ⟨by decide +kernel, by decide +kernel, by decide +kernel⟩
theorem mv_RL_276 : MV RL 276 yX9_save cX9_save 1 none 0 := MV.of w_348 w_349 w_350 w_49 w_351 md_yX9_save
theorem md_yX10_save : MVd yX10_save 0 := ⟨by decide +kernel, by decide +kernel, by decide +kernel⟩
theorem mv_RL_279 : MV RL 279 yX10_save cX10_save 2 none 0 := MV.of w_1532 w_1533 w_1534 w_57 w_1535 md_yX10_save
theorem md_yX10_restore : MVd yX10_restore 0 := ⟨by decide +kernel, by decide +kernel, by decide +kernel⟩
theorem mv_RL_282 : MV RL 282 yX10_restore cX10_restore 2 (some .int) 0 := MV.of w_1536 w_1537 w_1538 w_57 w_1539 md_yX10_restore
theorem md_yX0_holds : MVd yX0_holds 1 := ⟨by decide +kernel, by decide +kernel, by decide +kernel⟩
theorem mv_RX0_27 : MV RX0 27 yX0_holds cX0_holds 3 (some .boolean) 1 := MV.of w_781 w_761 w_762 w_54 w_763 md_yX0_holds
theorem md_yX0_leastKeyAbove : MVd yX0_leastKeyAbove 3 := ⟨by decide +kernel, by decide +kernel, by decide +kernel⟩
theorem mv_RX0_40 : MV RX0 40 yX0_leastKeyAbove cX0_leastKeyAbove 8 (some .int) 3 := MV.of w_1004 w_1006 w_14 w_54 w_1007 md_yX0_leastKeyAbove
theorem md_yX1_access : MVd yX1_access 1 := ⟨by decide +kernel, by decide +kernel, by decide +kernel⟩
theorem mv_RX0_44 : MV RX0 44 yX1_access cX1_access 6 none 1 := MV.of w_1011 w_983 w_984 w_51 w_985 md_yX1_access
theorem md_yX1_placeOfBlock : MVd yX1_placeOfBlock 1 := ⟨by decide +kernel, by decide +kernel, by decide +kernel⟩
theorem mv_RX0_49 : MV RX0 49 yX1_placeOfBlock cX1_placeOfBlock 3 (some .int) 1 := MV.of w_1009 w_622 w_623 w_51 w_624 md_yX1_placeOfBlock
theorem md_yX2_cylinderOfPlace : MVd yX2_cylinderOfPlace 1 := ⟨by decide +kernel, by decide +kernel, by decide +kernel⟩
theorem ms_RX0_53 : MS RX0 53 yX2_cylinderOfPlace cX2_cylinderOfPlace 2 (some .int) 1 := MS.of w_1010 w_637 w_66 w_638 md_yX2_cylinderOfPlace
theorem md_yX1_spareOfBlock : MVd yX1_spareOfBlock 1 := ⟨by decide +kernel, by decide +kernel, by decide +kernel⟩
theorem mv_RX1_60 : MV RX1 60 yX1_spareOfBlock cX1_spareOfBlock 3 (some .int) 1 := MV.of w_625 w_626 w_627 w_51 w_628 md_yX1_spareOfBlock
theorem md_yX2_sectorOfPlace : MVd yX2_sectorOfPlace 1 := ⟨by decide +kernel, by decide +kernel, by decide +kernel⟩
theorem ms_RX1_64 : MS RX1 64 yX2_sectorOfPlace cX2_sectorOfPlace 3 (some .int) 1 := MS.of w_670 w_657 w_66 w_658 md_yX2_sectorOfPlace
theorem md_yX2_sectorTicksAt : MVd yX2_sectorTicksAt 1 := ⟨by decide +kernel, by decide +kernel, by decide +kernel⟩
theorem ms_RX1_69 : MS RX1 69 yX2_sectorTicksAt cX2_sectorTicksAt 1 (some .int) 1 := MS.of w_671 w_672 w_66 w_673 md_yX2_sectorTicksAt
theorem ms_RX1_72 : MS RX1 72 yX2_cylinderOfPlace cX2_cylinderOfPlace 2 (some .int) 1 := MS.of w_676 w_637 w_66 w_638 md_yX2_cylinderOfPlace
theorem md_yX1_ticksOfSeek : MVd yX1_ticksOfSeek 2 := ⟨by decide +kernel, by decide +kernel, by decide +kernel⟩
theorem mv_RX1_75 : MV RX1 75 yX1_ticksOfSeek cX1_ticksOfSeek 5 (some .int) 2 := MV.of w_688 w_604 w_605 w_51 w_606 md_yX1_ticksOfSeek
theorem md_yX1_angleOfPlace : MVd yX1_angleOfPlace 1 := ⟨by decide +kernel, by decide +kernel, by decide +kernel⟩
theorem mv_RX1_79 : MV RX1 79 yX1_angleOfPlace cX1_angleOfPlace 3 (some .int) 1 := MV.of w_689 w_667 w_668 w_51 w_669 md_yX1_angleOfPlace
theorem md_yX1_ticksOfWait : MVd yX1_ticksOfWait 2 := ⟨by decide +kernel, by decide +kernel, by decide +kernel⟩
theorem ms_RX1_82 : MS RX1 82 yX1_ticksOfWait cX1_ticksOfWait 2 (some .int) 2 := MS.of w_690 w_691 w_51 w_692 md_yX1_ticksOfWait
theorem md_yJ9_floorMod_7cf53 : MVd yJ9_floorMod_7cf53 2 := ⟨by decide +kernel, by decide +kernel, by decide +kernel⟩
theorem ms_RX1_85 : MS RX1 85 yJ9_floorMod_7cf53 cJ9_floorMod_7cf53 3 (some .int) 2 := MS.of w_693 w_694 w_67 w_695 md_yJ9_floorMod_7cf53
theorem md_yX10_in : MVd yX10_in 3 := ⟨by decide +kernel, by decide +kernel, by decide +kernel⟩
theorem ms_RX10_42 : MS RX10 42 yX10_in cX10_in 3 (some .boolean) 3 := MS.of w_1227 w_1228 w_57 w_1229 md_yX10_in
theorem md_yX10_sectorsOf : MVd yX10_sectorsOf 1 := ⟨by decide +kernel, by decide +kernel, by decide +kernel⟩
theorem ms_RX10_46 : MS RX10 46 yX10_sectorsOf cX10_sectorsOf 1 (some .int) 1 := MS.of w_1290 w_1291 w_57 w_1292 md_yX10_sectorsOf
theorem md_yX10_zoneAt : MVd yX10_zoneAt 1 := ⟨by decide +kernel, by decide +kernel, by decide +kernel⟩
theorem ms_RX10_50 : MS RX10 50 yX10_zoneAt cX10_zoneAt 1 (some .int) 1 := MS.of w_1287 w_1288 w_57 w_1289 md_yX10_zoneAt
theorem md_yX10_cylinderAt : MVd yX10_cylinderAt 1 := ⟨by decide +kernel, by decide +kernel, by decide +kernel⟩
theorem ms_RX10_53 : MS RX10 53 yX10_cylinderAt cX10_cylinderAt 2 (some .int) 1 := MS.of w_1284 w_1285 w_57 w_1286 md_yX10_cylinderAt
theorem md_yX10_firstOf : MVd yX10_firstOf 1 := ⟨by decide +kernel, by decide +kernel, by decide +kernel⟩
theorem ms_RX10_56 : MS RX10 56 yX10_firstOf cX10_firstOf 1 (some .int) 1 := MS.of w_1297 w_1298 w_57 w_1299 md_yX10_firstOf
theorem md_yX10_ticksOf : MVd yX10_ticksOf 1 := ⟨by decide +kernel, by decide +kernel, by decide +kernel⟩
theorem ms_RX10_59 : MS RX10 59 yX10_ticksOf cX10_ticksOf 1 (some .int) 1 := MS.of w_1308 w_1309 w_57 w_1310 md_yX10_ticksOf
theorem md_yX10_rootOf : MVd yX10_rootOf 1 := ⟨by decide +kernel, by decide +kernel, by decide +kernel⟩
theorem ms_RX10_62 : MS RX10 62 yX10_rootOf cX10_rootOf 2 (some .int) 1 := MS.of w_1266 w_1267 w_57 w_1268 md_yX10_rootOf
theorem md_yX10_angleAt : MVd yX10_angleAt 1 := ⟨by decide +kernel, by decide +kernel, by decide +kernel⟩
theorem mv_RX10_65 : MV RX10 65 yX10_angleAt cX10_angleAt 3 (some .int) 1 := MV.of w_1304 w_1306 w_21 w_57 w_1307 md_yX10_angleAt
theorem md_yX10_seek : MVd yX10_seek 2 := ⟨by decide +kernel, by decide +kernel, by decide +kernel⟩
theorem mv_RX10_68 : MV RX10 68 yX10_seek cX10_seek 4 (some .int) 2 := MV.of w_1262 w_1264 w_19 w_57 w_1265 md_yX10_seek
theorem md_yX10_waits : MVd yX10_waits 2 := ⟨by decide +kernel, by decide +kernel, by decide +kernel⟩
theorem mv_RX10_72 : MV RX10 72 yX10_waits cX10_waits 3 (some .int) 2 := MV.of w_1323 w_1325 w_24 w_57 w_1326 md_yX10_waits
theorem md_yX10_becomes : MVd yX10_becomes 2 := ⟨by decide +kernel, by decide +kernel, by decide +kernel⟩
theorem mv_RX10_75 : MV RX10 75 yX10_becomes cX10_becomes 4 (some .int) 2 := MV.of w_1234 w_1236 w_16 w_57 w_1237 md_yX10_becomes
theorem md_yX10_fails : MVd yX10_fails 1 := ⟨by decide +kernel, by decide +kernel, by decide +kernel⟩
theorem mv_RX10_78 : MV RX10 78 yX10_fails cX10_fails 2 (some .int) 1 := MV.of w_1238 w_1240 w_17 w_57 w_1241 md_yX10_fails
theorem md_yX10_dirty : MVd yX10_dirty 0 := ⟨by decide +kernel, by decide +kernel, by decide +kernel⟩
theorem mv_RX10_81 : MV RX10 81 yX10_dirty cX10_dirty 3 (some .int) 0 := MV.of w_1254 w_1256 w_18 w_57 w_1257 md_yX10_dirty
theorem md_yX10_isBlock : MVd yX10_isBlock 1 := ⟨by decide +kernel, by decide +kernel, by decide +kernel⟩
theorem ms_RX10_85 : MS RX10 85 yX10_isBlock cX10_isBlock 1 (some .boolean) 1 := MS.of w_1273 w_1274 w_57 w_1275 md_yX10_isBlock
theorem md_yX10_place : MVd yX10_place 1 := ⟨by decide +kernel, by decide +kernel, by decide +kernel⟩
theorem mv_RX10_89 : MV RX10 89 yX10_place cX10_place 3 (some .int) 1 := MV.of w_1276 w_1278 w_20 w_57 w_1279 md_yX10_place
theorem md_yX10_ends : MVd yX10_ends 3 := ⟨by decide +kernel, by decide +kernel, by decide +kernel⟩
theorem mv_RX10_92 : MV RX10 92 yX10_ends cX10_ends 6 (some .int) 3 := MV.of w_1319 w_1321 w_23 w_57 w_1322 md_yX10_ends
theorem md_yX10_takes : MVd yX10_takes 1 := ⟨by decide +kernel, by decide +kernel, by decide +kernel⟩
theorem mv_RX10_96 : MV RX10 96 yX10_takes cX10_takes 2 (some .int) 1 := MV.of w_1315 w_1317 w_22 w_57 w_1318 md_yX10_takes
theorem md_yX10_isPending : MVd yX10_isPending 1 := ⟨by decide +kernel, by decide +kernel, by decide +kernel⟩
theorem mv_RX10_100 : MV RX10 100 yX10_isPending cX10_isPending 2 (some .boolean) 1 := MV.of w_1364 w_1366 w_27 w_57 w_1367 md_yX10_isPending
theorem md_yX10_pending : MVd yX10_pending 0 := ⟨by decide +kernel, by decide +kernel, by decide +kernel⟩
theorem mv_RX10_103 : MV RX10 103 yX10_pending cX10_pending 3 (some .int) 0 := MV.of w_1360 w_1362 w_26 w_57 w_1363 md_yX10_pending
theorem md_yX10_refusal : MVd yX10_refusal 3 := ⟨by decide +kernel, by decide +kernel, by decide +kernel⟩
theorem mv_RX10_106 : MV RX10 106 yX10_refusal cX10_refusal 5 (some .int) 3 := MV.of w_1356 w_1358 w_25 w_57 w_1359 md_yX10_refusal
theorem md_yX10_comes : MVd yX10_comes 3 := ⟨by decide +kernel, by decide +kernel, by decide +kernel⟩
theorem mv_RX10_109 : MV RX10 109 yX10_comes cX10_comes 5 (some .int) 3 := MV.of w_1368 w_1370 w_28 w_57 w_1371 md_yX10_comes
theorem md_yX10_here : MVd yX10_here 0 := ⟨by decide +kernel, by decide +kernel, by decide +kernel⟩
theorem mv_RX10_118 : MV RX10 118 yX10_here cX10_here 1 (some .int) 0 := MV.of w_1388 w_1390 w_31 w_57 w_1391 md_yX10_here
theorem md_yX10_skips : MVd yX10_skips 1 := ⟨by decide +kernel, by decide +kernel, by decide +kernel⟩
theorem mv_RX10_124 : MV RX10 124 yX10_skips cX10_skips 2 (some .boolean) 1 := MV.of w_1392 w_1394 w_32 w_57 w_1395 md_yX10_skips
theorem md_yX10_digits : MVd yX10_digits 1 := ⟨by decide +kernel, by decide +kernel, by decide +kernel⟩
theorem mv_RX10_127 : MV RX10 127 yX10_digits cX10_digits 3 (some .boolean) 1 := MV.of w_1396 w_1398 w_33 w_57 w_1399 md_yX10_digits
theorem md_yX10_isItem : MVd yX10_isItem 0 := ⟨by decide +kernel, by decide +kernel, by decide +kernel⟩
theorem mv_RX10_133 : MV RX10 133 yX10_isItem cX10_isItem 2 (some .boolean) 0 := MV.of w_1384 w_1386 w_30 w_57 w_1387 md_yX10_isItem
theorem md_yX10_faultOf : MVd yX10_faultOf 0 := ⟨by decide +kernel, by decide +kernel, by decide +kernel⟩
theorem mv_RX10_137 : MV RX10 137 yX10_faultOf cX10_faultOf 1 (some .int) 0 := MV.of w_1380 w_1382 w_29 w_57 w_1383 md_yX10_faultOf
theorem md_yX10_isRequest : MVd yX10_isRequest 1 := ⟨by decide +kernel, by decide +kernel, by decide +kernel⟩
theorem mv_RX10_140 : MV RX10 140 yX10_isRequest cX10_isRequest 2 (some .boolean) 1 := MV.of w_1408 w_1410 w_34 w_57 w_1411 md_yX10_isRequest
theorem md_yX10_cylinder : MVd yX10_cylinder 1 := ⟨by decide +kernel, by decide +kernel, by decide +kernel⟩
theorem mv_RX10_143 : MV RX10 143 yX10_cylinder cX10_cylinder 2 (some .int) 1 := MV.of w_1432 w_1434 w_39 w_57 w_1435 md_yX10_cylinder
theorem md_yX10_distance : MVd yX10_distance 1 := ⟨by decide +kernel, by decide +kernel, by decide +kernel⟩
theorem mv_RX10_146 : MV RX10 146 yX10_distance cX10_distance 3 (some .int) 1 := MV.of w_1428 w_1430 w_38 w_57 w_1431 md_yX10_distance
theorem md_yX10_isAhead : MVd yX10_isAhead 1 := ⟨by decide +kernel, by decide +kernel, by decide +kernel⟩
theorem mv_RX10_149 : MV RX10 149 yX10_isAhead cX10_isAhead 2 (some .boolean) 1 := MV.of w_1436 w_1438 w_40 w_57 w_1439 md_yX10_isAhead
theorem md_yX10_bucketOf : MVd yX10_bucketOf 1 := ⟨by decide +kernel, by decide +kernel, by decide +kernel⟩
theorem mv_RX10_152 : MV RX10 152 yX10_bucketOf cX10_bucketOf 4 (some .int) 1 := MV.of w_1440 w_1442 w_41 w_57 w_1443 md_yX10_bucketOf
theorem md_yX10_keyOf : MVd yX10_keyOf 2 := ⟨by decide +kernel, by decide +kernel, by decide +kernel⟩
theorem mv_RX10_155 : MV RX10 155 yX10_keyOf cX10_keyOf 3 (some .int) 2 := MV.of w_1424 w_1426 w_37 w_57 w_1427 md_yX10_keyOf
theorem md_yX10_goes : MVd yX10_goes 3 := ⟨by decide +kernel, by decide +kernel, by decide +kernel⟩
theorem mv_RX10_168 : MV RX10 168 yX10_goes cX10_goes 7 none 3 := MV.of w_1448 w_1450 w_43 w_57 w_1451 md_yX10_goes
theorem md_yX10_least : MVd yX10_least 1 := ⟨by decide +kernel, by decide +kernel, by decide +kernel⟩
theorem mv_RX10_172 : MV RX10 172 yX10_least cX10_least 4 (some .int) 1 := MV.of w_1420 w_1422 w_36 w_57 w_1423 md_yX10_least
theorem md_yX10_searches : MVd yX10_searches 3 := ⟨by decide +kernel, by decide +kernel, by decide +kernel⟩
theorem mv_RX10_175 : MV RX10 175 yX10_searches cX10_searches 5 none 3 := MV.of w_1444 w_1446 w_42 w_57 w_1447 md_yX10_searches
theorem md_yX10_chosen : MVd yX10_chosen 0 := ⟨by decide +kernel, by decide +kernel, by decide +kernel⟩
theorem mv_RX10_179 : MV RX10 179 yX10_chosen cX10_chosen 1 (some .int) 0 := MV.of w_1416 w_1418 w_35 w_57 w_1419 md_yX10_chosen
theorem md_yX10_accesses : MVd yX10_accesses 1 := ⟨by decide +kernel, by decide +kernel, by decide +kernel⟩
theorem mv_RX10_182 : MV RX10 182 yX10_accesses cX10_accesses 5 none 1 := MV.of w_1460 w_1462 w_45 w_57 w_1463 md_yX10_accesses
theorem md_yX10_serves : MVd yX10_serves 0 := ⟨by decide +kernel, by decide +kernel, by decide +kernel⟩
theorem mv_RX10_186 : MV RX10 186 yX10_serves cX10_serves 2 (some .int) 0 := MV.of w_1456 w_1458 w_44 w_57 w_1459 md_yX10_serves
theorem md_yX10_dirtyFrom : MVd yX10_dirtyFrom 2 := ⟨by decide +kernel, by decide +kernel, by decide +kernel⟩
theorem mv_RX10_189 : MV RX10 189 yX10_dirtyFrom cX10_dirtyFrom 5 (some .int) 2 := MV.of w_1472 w_1474 w_46 w_57 w_1475 md_yX10_dirtyFrom
theorem md_yX10_isBehind : MVd yX10_isBehind 1 := ⟨by decide +kernel, by decide +kernel, by decide +kernel⟩
theorem mv_RX10_192 : MV RX10 192 yX10_isBehind cX10_isBehind 2 (some .boolean) 1 := MV.of w_1500 w_1502 w_47 w_57 w_1503 md_yX10_isBehind
theorem md_yX2_zoneOfPlace : MVd yX2_zoneOfPlace 1 := ⟨by decide +kernel, by decide +kernel, by decide +kernel⟩
theorem ms_RX2_13 : MS RX2 13 yX2_zoneOfPlace cX2_zoneOfPlace 2 (some .int) 1 := MS.of w_639 w_640 w_66 w_641 md_yX2_zoneOfPlace
theorem md_yX2_quotient : MVd yX2_quotient 2 := ⟨by decide +kernel, by decide +kernel, by decide +kernel⟩
theorem ms_RX2_22 : MS RX2 22 yX2_quotient cX2_quotient 2 (some .int) 2 := MS.of w_646 w_647 w_66 w_648 md_yX2_quotient
theorem md_yX6_findPending : MVd yX6_findPending 1 := ⟨by decide +kernel, by decide +kernel, by decide +kernel⟩
theorem mv_RX3_46 : MV RX3 46 yX6_findPending cX6_findPending 3 (some (.object "DiskArmSimulator$Request")) 1 := MV.of w_878 w_879 w_880 w_52 w_881 md_yX6_findPending
theorem md_yX4_hasDeadline : MVd yX4_hasDeadline 0 := ⟨by decide +kernel, by decide +kernel, by decide +kernel⟩
theorem mv_RX3_50 : MV RX3 50 yX4_hasDeadline cX4_hasDeadline 1 (some .boolean) 0 := MV.of w_883 w_884 w_885 w_69 w_886 md_yX4_hasDeadline
theorem mv_RX3_59 : MV RX3 59 yX1_placeOfBlock cX1_placeOfBlock 3 (some .int) 1 := MV.of w_887 w_622 w_623 w_51 w_624 md_yX1_placeOfBlock
theorem ms_RX3_65 : MS RX3 65 yX2_cylinderOfPlace cX2_cylinderOfPlace 2 (some .int) 1 := MS.of w_888 w_637 w_66 w_638 md_yX2_cylinderOfPlace
theorem mv_RX3_70 : MV RX3 70 yX1_angleOfPlace cX1_angleOfPlace 3 (some .int) 1 := MV.of w_889 w_667 w_668 w_51 w_669 md_yX1_angleOfPlace
theorem ms_RX3_73 : MS RX3 73 yX2_sectorTicksAt cX2_sectorTicksAt 1 (some .int) 1 := MS.of w_890 w_672 w_66 w_673 md_yX2_sectorTicksAt
theorem md_yX3_tryFrom : MVd yX3_tryFrom 4 := ⟨by decide +kernel, by decide +kernel, by decide +kernel⟩
theorem mv_RX3_89 : MV RX3 89 yX3_tryFrom cX3_tryFrom 6 none 4 := MV.of w_896 w_898 w_9 w_55 w_899 md_yX3_tryFrom
theorem md_yX3_tryNext : MVd yX3_tryNext 5 := ⟨by decide +kernel, by decide +kernel, by decide +kernel⟩
theorem mv_RX3_101 : MV RX3 101 yX3_tryNext cX3_tryNext 8 none 5 := MV.of w_901 w_903 w_10 w_55 w_904 md_yX3_tryNext
theorem mv_RX3_105 : MV RX3 105 yX1_ticksOfSeek cX1_ticksOfSeek 5 (some .int) 2 := MV.of w_906 w_604 w_605 w_51 w_606 md_yX1_ticksOfSeek
theorem ms_RX3_109 : MS RX3 109 yX1_ticksOfWait cX1_ticksOfWait 2 (some .int) 2 := MS.of w_907 w_691 w_51 w_692 md_yX1_ticksOfWait
theorem mv_RX4_30 : MV RX4 30 yX4_hasDeadline cX4_hasDeadline 1 (some .boolean) 0 := MV.of w_1048 w_884 w_885 w_69 w_886 md_yX4_hasDeadline
theorem md_yX5_readItems : MVd yX5_readItems 0 := ⟨by decide +kernel, by decide +kernel, by decide +kernel⟩
theorem mv_RX5_41 : MV RX5 41 yX5_readItems cX5_readItems 2 (some .boolean) 0 := MV.of w_816 w_818 w_2 w_56 w_819 md_yX5_readItems
theorem md_yX5_readItem : MVd yX5_readItem 0 := ⟨by decide +kernel, by decide +kernel, by decide +kernel⟩
theorem mv_RX5_45 : MV RX5 45 yX5_readItem cX5_readItem 4 (some .boolean) 0 := MV.of w_820 w_822 w_3 w_56 w_823 md_yX5_readItem
theorem md_yX5_skip : MVd yX5_skip 1 := ⟨by decide +kernel, by decide +kernel, by decide +kernel⟩
theorem mv_RX5_48 : MV RX5 48 yX5_skip cX5_skip 2 (some .boolean) 1 := MV.of w_824 w_826 w_4 w_56 w_827 md_yX5_skip
theorem md_yX5_readNumber : MVd yX5_readNumber 1 := ⟨by decide +kernel, by decide +kernel, by decide +kernel⟩
theorem mv_RX5_52 : MV RX5 52 yX5_readNumber cX5_readNumber 4 (some .int) 1 := MV.of w_832 w_834 w_6 w_56 w_835 md_yX5_readNumber
theorem md_yX5_keepItem : MVd yX5_keepItem 3 := ⟨by decide +kernel, by decide +kernel, by decide +kernel⟩
theorem mv_RX5_56 : MV RX5 56 yX5_keepItem cX5_keepItem 4 (some .boolean) 3 := MV.of w_836 w_838 w_7 w_56 w_839 md_yX5_keepItem
theorem md_yX5_current : MVd yX5_current 0 := ⟨by decide +kernel, by decide +kernel, by decide +kernel⟩
theorem mv_RX5_59 : MV RX5 59 yX5_current cX5_current 1 (some .int) 0 := MV.of w_828 w_830 w_5 w_56 w_831 md_yX5_current
theorem md_yX6_rowAt : MVd yX6_rowAt 1 := ⟨by decide +kernel, by decide +kernel, by decide +kernel⟩
theorem mv_RX6_21 : MV RX6 21 yX6_rowAt cX6_rowAt 2 (some (.object "DiskArmSimulator$Request")) 1 := MV.of w_373 w_375 w_0 w_52 w_376 md_yX6_rowAt
theorem md_yX4_copyFrom : MVd yX4_copyFrom 1 := ⟨by decide +kernel, by decide +kernel, by decide +kernel⟩
theorem mv_RX6_25 : MV RX6 25 yX4_copyFrom cX4_copyFrom 2 none 1 := MV.of w_417 w_418 w_419 w_69 w_420 md_yX4_copyFrom
theorem md_yX6_find : MVd yX6_find 1 := ⟨by decide +kernel, by decide +kernel, by decide +kernel⟩
theorem mv_RX6_39 : MV RX6 39 yX6_find cX6_find 2 (some (.object "DiskArmSimulator$Request")) 1 := MV.of w_882 w_853 w_854 w_52 w_855 md_yX6_find
theorem md_yX4_begin : MVd yX4_begin 3 := ⟨by decide +kernel, by decide +kernel, by decide +kernel⟩
theorem mv_RX6_45 : MV RX6 45 yX4_begin cX4_begin 4 none 3 := MV.of w_773 w_774 w_775 w_69 w_776 md_yX4_begin
theorem md_yX6_findFinished : MVd yX6_findFinished 1 := ⟨by decide +kernel, by decide +kernel, by decide +kernel⟩
theorem mv_RX6_52 : MV RX6 52 yX6_findFinished cX6_findFinished 3 (some (.object "DiskArmSimulator$Request")) 1 := MV.of w_1123 w_1124 w_1125 w_52 w_1126 md_yX6_findFinished
theorem mv_RX6_58 : MV RX6 58 yX4_hasDeadline cX4_hasDeadline 1 (some .boolean) 0 := MV.of w_1143 w_884 w_885 w_69 w_886 md_yX4_hasDeadline
theorem md_yX4_missedDeadline : MVd yX4_missedDeadline 0 := ⟨by decide +kernel, by decide +kernel, by decide +kernel⟩
theorem mv_RX6_62 : MV RX6 62 yX4_missedDeadline cX4_missedDeadline 1 (some .boolean) 0 := MV.of w_1149 w_1045 w_1046 w_69 w_1047 md_yX4_missedDeadline
theorem md_yX3_gather : MVd yX3_gather 4 := ⟨by decide +kernel, by decide +kernel, by decide +kernel⟩
theorem mv_RX7_25 : MV RX7 25 yX3_gather cX3_gather 8 none 4 := MV.of w_874 w_875 w_876 w_55 w_877 md_yX3_gather
theorem md_yX3_run : MVd yX3_run 1 := ⟨by decide +kernel, by decide +kernel, by decide +kernel⟩
theorem mv_RX7_31 : MV RX7 31 yX3_run cX3_run 2 none 1 := MV.of w_892 w_893 w_894 w_55 w_895 md_yX3_run
theorem md_yX3_hasFound : MVd yX3_hasFound 0 := ⟨by decide +kernel, by decide +kernel, by decide +kernel⟩
theorem mv_RX7_38 : MV RX7 38 yX3_hasFound cX3_hasFound 1 (some .boolean) 0 := MV.of w_908 w_909 w_910 w_55 w_911 md_yX3_hasFound
theorem md_yX3_requestAt : MVd yX3_requestAt 1 := ⟨by decide +kernel, by decide +kernel, by decide +kernel⟩
theorem mv_RX7_42 : MV RX7 42 yX3_requestAt cX3_requestAt 2 (some .int) 1 := MV.of w_912 w_913 w_914 w_55 w_915 md_yX3_requestAt
theorem mv_RX7_52 : MV RX7 52 yX6_findPending cX6_findPending 3 (some (.object "DiskArmSimulator$Request")) 1 := MV.of w_917 w_879 w_880 w_52 w_881 md_yX6_findPending
theorem md_yX7_keyOf : MVd yX7_keyOf 2 := ⟨by decide +kernel, by decide +kernel, by decide +kernel⟩
theorem mv_RX7_56 : MV RX7 56 yX7_keyOf cX7_keyOf 6 (some .int) 2 := MV.of w_918 w_920 w_11 w_53 w_921 md_yX7_keyOf
theorem mv_RX7_65 : MV RX7 65 yX1_placeOfBlock cX1_placeOfBlock 3 (some .int) 1 := MV.of w_922 w_622 w_623 w_51 w_624 md_yX1_placeOfBlock
theorem ms_RX7_70 : MS RX7 70 yX2_cylinderOfPlace cX2_cylinderOfPlace 2 (some .int) 1 := MS.of w_923 w_637 w_66 w_638 md_yX2_cylinderOfPlace
theorem md_yJ9_abs_0f7a4 : MVd yJ9_abs_0f7a4 1 := ⟨by decide +kernel, by decide +kernel, by decide +kernel⟩
theorem ms_RX7_78 : MS RX7 78 yJ9_abs_0f7a4 cJ9_abs_0f7a4 1 (some .int) 1 := MS.of w_924 w_925 w_67 w_926 md_yJ9_abs_0f7a4
theorem md_yX7_isAhead : MVd yX7_isAhead 2 := ⟨by decide +kernel, by decide +kernel, by decide +kernel⟩
theorem mv_RX7_86 : MV RX7 86 yX7_isAhead cX7_isAhead 3 (some .boolean) 2 := MV.of w_927 w_929 w_12 w_53 w_930 md_yX7_isAhead
theorem md_yX7_bucketOf : MVd yX7_bucketOf 2 := ⟨by decide +kernel, by decide +kernel, by decide +kernel⟩
theorem mv_RX7_93 : MV RX7 93 yX7_bucketOf cX7_bucketOf 5 (some .int) 2 := MV.of w_931 w_932 w_933 w_53 w_934 md_yX7_bucketOf
theorem md_yX1_ticksToAccess : MVd yX1_ticksToAccess 1 := ⟨by decide +kernel, by decide +kernel, by decide +kernel⟩
theorem mv_RX7_97 : MV RX7 97 yX1_ticksToAccess cX1_ticksToAccess 3 (some .int) 1 := MV.of w_941 w_685 w_686 w_51 w_687 md_yX1_ticksToAccess
theorem mv_RX7_100 : MV RX7 100 yX4_hasDeadline cX4_hasDeadline 1 (some .boolean) 0 := MV.of w_935 w_884 w_885 w_69 w_886 md_yX4_hasDeadline
theorem md_yJ9_max_7cf53 : MVd yJ9_max_7cf53 2 := ⟨by decide +kernel, by decide +kernel, by decide +kernel⟩
theorem ms_RX7_106 : MS RX7 106 yJ9_max_7cf53 cJ9_max_7cf53 2 (some .int) 2 := MS.of w_936 w_937 w_67 w_938 md_yJ9_max_7cf53
theorem ms_RX7_110 : MS RX7 110 yX2_quotient cX2_quotient 2 (some .int) 2 := MS.of w_939 w_647 w_66 w_648 md_yX2_quotient
theorem md_yJ9_min_7cf53 : MVd yJ9_min_7cf53 2 := ⟨by decide +kernel, by decide +kernel, by decide +kernel⟩
theorem ms_RX7_113 : MS RX7 113 yJ9_min_7cf53 cJ9_min_7cf53 2 (some .int) 2 := MS.of w_940 w_364 w_67 w_365 md_yJ9_min_7cf53
theorem md_yX1_copyFrom : MVd yX1_copyFrom 1 := ⟨by decide +kernel, by decide +kernel, by decide +kernel⟩
theorem mv_RX8_39 : MV RX8 39 yX1_copyFrom cX1_copyFrom 2 none 1 := MV.of w_356 w_357 w_358 w_51 w_359 md_yX1_copyFrom
theorem md_yX6_copyFrom : MVd yX6_copyFrom 1 := ⟨by decide +kernel, by decide +kernel, by decide +kernel⟩
theorem mv_RX8_43 : MV RX8 43 yX6_copyFrom cX6_copyFrom 5 none 1 := MV.of w_369 w_370 w_371 w_52 w_372 md_yX6_copyFrom
theorem md_yX7_copyFrom : MVd yX7_copyFrom 1 := ⟨by decide +kernel, by decide +kernel, by decide +kernel⟩
theorem mv_RX8_46 : MV RX8 46 yX7_copyFrom cX7_copyFrom 2 none 1 := MV.of w_421 w_422 w_423 w_53 w_424 md_yX7_copyFrom
theorem md_yX0_copyFrom : MVd yX0_copyFrom 1 := ⟨by decide +kernel, by decide +kernel, by decide +kernel⟩
theorem mv_RX8_49 : MV RX8 49 yX0_copyFrom cX0_copyFrom 2 none 1 := MV.of w_425 w_426 w_427 w_54 w_428 md_yX0_copyFrom
theorem mv_RX8_63 : MV RX8 63 yX0_holds cX0_holds 3 (some .boolean) 1 := MV.of w_760 w_761 w_762 w_54 w_763 md_yX0_holds
theorem md_yX6_add : MVd yX6_add 3 := ⟨by decide +kernel, by decide +kernel, by decide +kernel⟩
theorem mv_RX8_71 : MV RX8 71 yX6_add cX6_add 5 (some (.object "DiskArmSimulator$Request")) 3 := MV.of w_769 w_770 w_771 w_52 w_772 md_yX6_add
theorem md_yX0_finishesAtOnce : MVd yX0_finishesAtOnce 2 := ⟨by decide +kernel, by decide +kernel, by decide +kernel⟩
theorem mv_RX8_75 : MV RX8 75 yX0_finishesAtOnce cX0_finishesAtOnce 3 (some .boolean) 2 := MV.of w_777 w_778 w_779 w_54 w_780 md_yX0_finishesAtOnce
theorem md_yX6_finishPending : MVd yX6_finishPending 2 := ⟨by decide +kernel, by decide +kernel, by decide +kernel⟩
theorem mv_RX8_79 : MV RX8 79 yX6_finishPending cX6_finishPending 3 none 2 := MV.of w_782 w_783 w_784 w_52 w_785 md_yX6_finishPending
theorem md_yX0_makeDirty : MVd yX0_makeDirty 1 := ⟨by decide +kernel, by decide +kernel, by decide +kernel⟩
theorem mv_RX8_83 : MV RX8 83 yX0_makeDirty cX0_makeDirty 2 none 1 := MV.of w_786 w_787 w_788 w_54 w_789 md_yX0_makeDirty
theorem md_yX7_choose : MVd yX7_choose 3 := ⟨by decide +kernel, by decide +kernel, by decide +kernel⟩
theorem mv_RX8_92 : MV RX8 92 yX7_choose cX7_choose 9 (some .int) 3 := MV.of w_974 w_871 w_872 w_53 w_873 md_yX7_choose
theorem mv_RX8_96 : MV RX8 96 yX6_findPending cX6_findPending 3 (some (.object "DiskArmSimulator$Request")) 1 := MV.of w_975 w_879 w_880 w_52 w_881 md_yX6_findPending
theorem mv_RX8_103 : MV RX8 103 yX1_placeOfBlock cX1_placeOfBlock 3 (some .int) 1 := MV.of w_976 w_622 w_623 w_51 w_624 md_yX1_placeOfBlock
theorem ms_RX8_107 : MS RX8 107 yX2_cylinderOfPlace cX2_cylinderOfPlace 2 (some .int) 1 := MS.of w_977 w_637 w_66 w_638 md_yX2_cylinderOfPlace
theorem md_yX7_turnFor : MVd yX7_turnFor 2 := ⟨by decide +kernel, by decide +kernel, by decide +kernel⟩
theorem mv_RX8_115 : MV RX8 115 yX7_turnFor cX7_turnFor 3 none 2 := MV.of w_978 w_979 w_980 w_53 w_981 md_yX7_turnFor
theorem mv_RX8_119 : MV RX8 119 yX1_access cX1_access 6 none 1 := MV.of w_982 w_983 w_984 w_51 w_985 md_yX1_access
theorem md_yX9_isWithin : MVd yX9_isWithin 3 := ⟨by decide +kernel, by decide +kernel, by decide +kernel⟩
theorem ms_RX9_30 : MS RX9 30 yX9_isWithin cX9_isWithin 3 (some .boolean) 3 := MS.of w_438 w_378 w_49 w_379 md_yX9_isWithin
theorem mv_RX9_104 : MV RX9 104 yX1_ticksOfSeek cX1_ticksOfSeek 5 (some .int) 2 := MV.of w_603 w_604 w_605 w_51 w_606 md_yX1_ticksOfSeek
theorem md_yX9_requireBlock : MVd yX9_requireBlock 1 := ⟨by decide +kernel, by decide +kernel, by decide +kernel⟩
theorem ms_RX9_108 : MS RX9 108 yX9_requireBlock cX9_requireBlock 1 none 1 := MS.of w_614 w_615 w_49 w_616 md_yX9_requireBlock
theorem mv_RX9_112 : MV RX9 112 yX1_placeOfBlock cX1_placeOfBlock 3 (some .int) 1 := MV.of w_621 w_622 w_623 w_51 w_624 md_yX1_placeOfBlock
theorem ms_RX9_116 : MS RX9 116 yX2_cylinderOfPlace cX2_cylinderOfPlace 2 (some .int) 1 := MS.of w_636 w_637 w_66 w_638 md_yX2_cylinderOfPlace
theorem ms_RX9_121 : MS RX9 121 yX2_sectorOfPlace cX2_sectorOfPlace 3 (some .int) 1 := MS.of w_656 w_657 w_66 w_658 md_yX2_sectorOfPlace
theorem mv_RX9_124 : MV RX9 124 yX1_angleOfPlace cX1_angleOfPlace 3 (some .int) 1 := MV.of w_666 w_667 w_668 w_51 w_669 md_yX1_angleOfPlace
theorem mv_RX9_127 : MV RX9 127 yX1_ticksToAccess cX1_ticksToAccess 3 (some .int) 1 := MV.of w_684 w_685 w_686 w_51 w_687 md_yX1_ticksToAccess
theorem mv_RX9_130 : MV RX9 130 yX1_spareOfBlock cX1_spareOfBlock 3 (some .int) 1 := MV.of w_704 w_626 w_627 w_51 w_628 md_yX1_spareOfBlock
theorem md_yX1_takeSpare : MVd yX1_takeSpare 1 := ⟨by decide +kernel, by decide +kernel, by decide +kernel⟩
theorem mv_RX9_135 : MV RX9 135 yX1_takeSpare cX1_takeSpare 2 (some .int) 1 := MV.of w_706 w_707 w_708 w_51 w_709 md_yX1_takeSpare
theorem md_yX1_accessesAt : MVd yX1_accessesAt 1 := ⟨by decide +kernel, by decide +kernel, by decide +kernel⟩
theorem mv_RX9_143 : MV RX9 143 yX1_accessesAt cX1_accessesAt 2 (some .int) 1 := MV.of w_734 w_735 w_736 w_51 w_737 md_yX1_accessesAt
theorem md_yX8_hasRoomFor : MVd yX8_hasRoomFor 2 := ⟨by decide +kernel, by decide +kernel, by decide +kernel⟩
theorem mv_RX9_162 : MV RX9 162 yX8_hasRoomFor cX8_hasRoomFor 4 (some .boolean) 2 := MV.of w_756 w_757 w_758 w_50 w_759 md_yX8_hasRoomFor
theorem md_yX8_accept : MVd yX8_accept 3 := ⟨by decide +kernel, by decide +kernel, by decide +kernel⟩
theorem mv_RX9_168 : MV RX9 168 yX8_accept cX8_accept 6 (some .int) 3 := MV.of w_765 w_766 w_767 w_50 w_768 md_yX8_accept
theorem md_yX5_append : MVd yX5_append 1 := ⟨by decide +kernel, by decide +kernel, by decide +kernel⟩
theorem mv_RX9_174 : MV RX9 174 yX5_append cX5_append 2 (some .boolean) 1 := MV.of w_799 w_800 w_801 w_56 w_802 md_yX5_append
theorem md_yX5_read : MVd yX5_read 0 := ⟨by decide +kernel, by decide +kernel, by decide +kernel⟩
theorem mv_RX9_183 : MV RX9 183 yX5_read cX5_read 2 (some .boolean) 0 := MV.of w_812 w_813 w_814 w_56 w_815 md_yX5_read
theorem md_yX9_isBlock : MVd yX9_isBlock 1 := ⟨by decide +kernel, by decide +kernel, by decide +kernel⟩
theorem ms_RX9_196 : MS RX9 196 yX9_isBlock cX9_isBlock 1 (some .boolean) 1 := MS.of w_617 w_618 w_49 w_619 md_yX9_isBlock
theorem md_yX9_requireRequest : MVd yX9_requireRequest 1 := ⟨by decide +kernel, by decide +kernel, by decide +kernel⟩
theorem mv_RX9_208 : MV RX9 208 yX9_requireRequest cX9_requireRequest 3 (some (.object "DiskArmSimulator$Request")) 1 := MV.of w_848 w_850 w_8 w_49 w_851 md_yX9_requireRequest
theorem md_yX6_cancelPending : MVd yX6_cancelPending 1 := ⟨by decide +kernel, by decide +kernel, by decide +kernel⟩
theorem mv_RX9_223 : MV RX9 223 yX6_cancelPending cX6_cancelPending 2 none 1 := MV.of w_858 w_859 w_860 w_52 w_861 md_yX6_cancelPending
theorem mv_RX9_229 : MV RX9 229 yX7_choose cX7_choose 9 (some .int) 3 := MV.of w_870 w_871 w_872 w_53 w_873 md_yX7_choose
theorem md_yX9_requireTimeToAccess : MVd yX9_requireTimeToAccess 0 := ⟨by decide +kernel, by decide +kernel, by decide +kernel⟩
theorem mv_RX9_241 : MV RX9 241 yX9_requireTimeToAccess cX9_requireTimeToAccess 1 none 0 := MV.of w_965 w_967 w_13 w_49 w_968 md_yX9_requireTimeToAccess
theorem md_yX8_serveChosen : MVd yX8_serveChosen 1 := ⟨by decide +kernel, by decide +kernel, by decide +kernel⟩
theorem mv_RX9_244 : MV RX9 244 yX8_serveChosen cX8_serveChosen 4 (some .int) 1 := MV.of w_970 w_971 w_972 w_50 w_973 md_yX8_serveChosen
theorem md_yX0_writeAll : MVd yX0_writeAll 1 := ⟨by decide +kernel, by decide +kernel, by decide +kernel⟩
theorem mv_RX9_248 : MV RX9 248 yX0_writeAll cX0_writeAll 5 none 1 := MV.of w_1000 w_1001 w_1002 w_54 w_1003 md_yX0_writeAll
theorem mv_RX9_252 : MV RX9 252 yX7_bucketOf cX7_bucketOf 5 (some .int) 2 := MV.of w_1026 w_932 w_933 w_53 w_934 md_yX7_bucketOf
theorem mv_RX9_261 : MV RX9 261 yX4_hasDeadline cX4_hasDeadline 1 (some .boolean) 0 := MV.of w_1042 w_884 w_885 w_69 w_886 md_yX4_hasDeadline
theorem mv_RX9_266 : MV RX9 266 yX4_missedDeadline cX4_missedDeadline 1 (some .boolean) 0 := MV.of w_1044 w_1045 w_1046 w_69 w_1047 md_yX4_missedDeadline
theorem md_yX9_requireFewPending : MVd yX9_requireFewPending 0 := ⟨by decide +kernel, by decide +kernel, by decide +kernel⟩
theorem mv_RX9_269 : MV RX9 269 yX9_requireFewPending cX9_requireFewPending 1 none 0 := MV.of w_1056 w_1058 w_15 w_49 w_1059 md_yX9_requireFewPending
theorem mv_RX9_272 : MV RX9 272 yX3_gather cX3_gather 8 none 4 := MV.of w_1061 w_875 w_876 w_55 w_877 md_yX3_gather
theorem mv_RX9_276 : MV RX9 276 yX3_run cX3_run 2 none 1 := MV.of w_1062 w_893 w_894 w_55 w_895 md_yX3_run
theorem mv_RX9_284 : MV RX9 284 yX3_requestAt cX3_requestAt 2 (some .int) 1 := MV.of w_1071 w_913 w_914 w_55 w_915 md_yX3_requestAt
theorem mv_RX9_287 : MV RX9 287 yX3_hasFound cX3_hasFound 1 (some .boolean) 0 := MV.of w_1079 w_909 w_910 w_55 w_911 md_yX3_hasFound
theorem md_yX6_countFinished : MVd yX6_countFinished 0 := ⟨by decide +kernel, by decide +kernel, by decide +kernel⟩
theorem mv_RX9_309 : MV RX9 309 yX6_countFinished cX6_countFinished 3 (some .int) 0 := MV.of w_1119 w_1120 w_1121 w_52 w_1122 md_yX6_countFinished
theorem md_yX6_sumOfResponses : MVd yX6_sumOfResponses 0 := ⟨by decide +kernel, by decide +kernel, by decide +kernel⟩
theorem mv_RX9_315 : MV RX9 315 yX6_sumOfResponses cX6_sumOfResponses 4 (some .int) 0 := MV.of w_1128 w_1129 w_1130 w_52 w_1131 md_yX6_sumOfResponses
theorem md_yX6_countFinishedWithDeadline : MVd yX6_countFinishedWithDeadline 0 := ⟨by decide +kernel, by decide +kernel, by decide +kernel⟩
theorem mv_RX9_318 : MV RX9 318 yX6_countFinishedWithDeadline cX6_countFinishedWithDeadline 4 (some .int) 0 := MV.of w_1139 w_1140 w_1141 w_52 w_1142 md_yX6_countFinishedWithDeadline
theorem md_yX6_countLate : MVd yX6_countLate 0 := ⟨by decide +kernel, by decide +kernel, by decide +kernel⟩
theorem mv_RX9_323 : MV RX9 323 yX6_countLate cX6_countLate 4 (some .int) 0 := MV.of w_1145 w_1146 w_1147 w_52 w_1148 md_yX6_countLate
theorem md_yX8_copyFrom : MVd yX8_copyFrom 1 := ⟨by decide +kernel, by decide +kernel, by decide +kernel⟩
theorem mv_RX9_329 : MV RX9 329 yX8_copyFrom cX8_copyFrom 2 none 1 := MV.of w_352 w_353 w_354 w_50 w_355 md_yX8_copyFrom
theorem mv_RX9_337 : MV RX9 337 yX6_find cX6_find 2 (some (.object "DiskArmSimulator$Request")) 1 := MV.of w_852 w_853 w_854 w_52 w_855 md_yX6_find
theorem ms_RX9_346 : MS RX9 346 yJ9_min_7cf53 cJ9_min_7cf53 2 (some .int) 2 := MS.of w_363 w_364 w_67 w_365 md_yJ9_min_7cf53
theorem md_yX9_copyNumbers : MVd yX9_copyNumbers 2 := ⟨by decide +kernel, by decide +kernel, by decide +kernel⟩
theorem mn_RX0_23 : MN RX0 23 yX9_copyNumbers cX9_copyNumbers 2 none 2 := ⟨by simp [nestM], w_49, w_362, md_yX9_copyNumbers⟩
theorem mn_RX0_31 : MN RX0 31 yX9_isWithin cX9_isWithin 3 (some .boolean) 3 := ⟨by simp [nestM], w_49, w_379, md_yX9_isWithin⟩
theorem mn_RX1_52 : MN RX1 52 yX9_copyNumbers cX9_copyNumbers 2 none 2 := ⟨by simp [nestM], w_49, w_362, md_yX9_copyNumbers⟩
theorem mn_RX1_56 : MN RX1 56 yX9_isWithin cX9_isWithin 3 (some .boolean) 3 := ⟨by simp [nestM], w_49, w_379, md_yX9_isWithin⟩
theorem mn_RX3_93 : MN RX3 93 yX9_isWithin cX9_isWithin 3 (some .boolean) 3 := ⟨by simp [nestM], w_49, w_379, md_yX9_isWithin⟩
theorem mn_RX3_97 : MN RX3 97 yX9_copyNumbers cX9_copyNumbers 2 none 2 := ⟨by simp [nestM], w_49, w_362, md_yX9_copyNumbers⟩
theorem mn_RX5_31 : MN RX5 31 yX9_isWithin cX9_isWithin 3 (some .boolean) 3 := ⟨by simp [nestM], w_49, w_379, md_yX9_isWithin⟩
theorem mn_RX6_32 : MN RX6 32 yX9_isWithin cX9_isWithin 3 (some .boolean) 3 := ⟨by simp [nestM], w_49, w_379, md_yX9_isWithin⟩
theorem md_yX1_init : MVd yX1_init 0 := ⟨by decide +kernel, by decide +kernel, by decide +kernel⟩
theorem mn_RX8_11 : MN RX8 11 yX1_init cX1_init 1 none 0 := ⟨by simp [nestM], w_51, w_91, md_yX1_init⟩
theorem md_yX6_init : MVd yX6_init 0 := ⟨by decide +kernel, by decide +kernel, by decide +kernel⟩
theorem mn_RX8_20 : MN RX8 20 yX6_init cX6_init 1 none 0 := ⟨by simp [nestM], w_52, w_155, md_yX6_init⟩
theorem md_yX7_init : MVd yX7_init 0 := ⟨by decide +kernel, by decide +kernel, by decide +kernel⟩
theorem mn_RX8_27 : MN RX8 27 yX7_init cX7_init 1 none 0 := ⟨by simp [nestM], w_53, w_178, md_yX7_init⟩
theorem md_yX0_init : MVd yX0_init 0 := ⟨by decide +kernel, by decide +kernel, by decide +kernel⟩
theorem mn_RX8_34 : MN RX8 34 yX0_init cX0_init 1 none 0 := ⟨by simp [nestM], w_54, w_201, md_yX0_init⟩
theorem md_yX8_init : MVd yX8_init 0 := ⟨by decide +kernel, by decide +kernel, by decide +kernel⟩
theorem mn_RX9_9 : MN RX9 9 yX8_init cX8_init 1 none 0 := ⟨by simp [nestM], w_50, w_85, md_yX8_init⟩
theorem md_yX3_init : MVd yX3_init 0 := ⟨by decide +kernel, by decide +kernel, by decide +kernel⟩
theorem mn_RX9_18 : MN RX9 18 yX3_init cX3_init 1 none 0 := ⟨by simp [nestM], w_55, w_238, md_yX3_init⟩
theorem md_yX5_init : MVd yX5_init 0 := ⟨by decide +kernel, by decide +kernel, by decide +kernel⟩
theorem mn_RX9_25 : MN RX9 25 yX5_init cX5_init 1 none 0 := ⟨by simp [nestM], w_56, w_278, md_yX5_init⟩
