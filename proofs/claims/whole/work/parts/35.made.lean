/-! WHAT IS MADE: new cells at the world's end -/
theorem K_same {G : GG} {U : State} {t0 k : Nat} {ty : FieldType} {a b : ClassId} {tys : List (ClassId × FieldType)} (h : va_K G.1 cls tys U) (h1 : tys[t0]? = some (a, ty)) (h2 : tys[k]? = some (b, ty)) (hv : ∀ (U : State) (c : ClassId), va_RA U c ty → U.vm.findClass ("[" ++ ty.toString) = some c) : a = b := by
  have g1 := hv _ _ (h.2 t0 _ h1).2
  have g2 := hv _ _ (h.2 k _ h2).2
  rw [g1] at g2
  cases g2
  rfl
theorem RAn_int (U : State) (c : ClassId) (h : va_RA U c .int) : U.vm.findClass ("[" ++ FieldType.int.toString) = some c := h
theorem RAn_bool (U : State) (c : ClassId) (h : va_RA U c .boolean) : U.vm.findClass ("[" ++ FieldType.boolean.toString) = some c := h
theorem RAn_long (U : State) (c : ClassId) (h : va_RA U c .long) : U.vm.findClass ("[" ++ FieldType.long.toString) = some c := h
theorem RAn_double (U : State) (c : ClassId) (h : va_RA U c .double) : U.vm.findClass ("[" ++ FieldType.double.toString) = some c := h
theorem RAn_row (U : State) (c : ClassId) (h : va_RA U c (.object RX4)) : U.vm.findClass ("[" ++ (FieldType.object RX4).toString) = some c := by obtain ⟨_, _, _, _, _, h⟩ := h; exact h
section VN
variable {p : Program} {l : Launch} {e : Env} {R : Room} {s : State} {m : MethodId} {args : Array Value} {below : List Frame} {meth : Method} {c : Code} {cc : ByteArray} {nL : Nat} {own : String} {rt : Option FieldType} {G : GG} {A : Nat → Prop} {cells slots : Nat} {Q : State → Prop} {pc : Nat} {lv lv' : List (Nat × Value)} {st rest As : List Value} {ws ws' : va_W}
variable {y : MethodName} {c' : ByteArray} {nL' n idx : Nat} {rt' : Option FieldType} {rm : Room} {S : Type} {rv : S → Option Value} {ws1 : S → va_W} {post : S → Prop}
theorem v_objI (C : CX p l R s m args meth c cc nL own rt G A) {a : Nat} (h1 : Cond.methodLink own idx objectInit ∈ lw_all) (hf : 1 ≤ R.frames) (hlo : (rest.map fun v => v.category).sum + 12 ≤ R.locals) (d : decode cc pc = .ok (.invokespecial idx, 3)) (kk : V p l e R s m args below meth c nL G A cells slots Q (pc + 3) lv rest ws) : V p l e R s m args below meth c nL G A cells slots Q pc lv (.ref a :: rest) ws :=
  fun H locs ls hP hD hS hl => W.objInit C.1 C.2.1 C.2.2.2.1 (C.2.2.2.2.1 _ h1) (C.2.2.2.2.1 _ w_79) (C.2.2.2.2.1 _ w_80) rfl (by rw [C.2.2.1]; exact hl.1) rfl d hf (by show 2 * 0 + _ + 12 ≤ _; omega) (kk H locs ls hP hD hS hl)
theorem v_new (C : CX p l R s m args meth c cc nL own rt G A) {C' : String} {T : u_T} {N ci : Nat} {fs : List Value} (ty : Nat → FieldType) (hc : cls[ci]? = some (C', T, N)) (hin : ∀ w ∈ u_ws C' T N, w ∈ lw_all) (hty : ∀ k, k < N → parseFieldDescriptor (T k).2.2.1 = some (ty k)) (h1 : Cond.classLink own idx C' ∈ lw_all) (h2 : Cond.instantiable C' N ∈ lw_all) (h3 : Cond.initialized C' ∈ lw_all) (hfs : ∀ j, j < N → defaultValue (ty j) = vp_V fs j) (hcells : cells + 1 ≤ R.cells) (hslots : slots + N ≤ R.slots) (d : decode cc pc = .ok (.new idx, 3))
    (kk : ∀ q : Nat, V p l e R s m args below meth c nL G A (cells + 1) (slots + N) Q (pc + 3) lv (.ref q :: rest) (ws ++ [(q, .inr (ci, fs))])) : V p l e R s m args below meth c nL G A cells slots Q pc lv rest ws :=
  fun H locs ls hP hD hS hl => va_new (ci := ci) (fs := fs) C.1 C.2.1 C.2.2.2.2.1 hin ty hty C.2.2.2.1 (C.2.2.2.2.1 _ h1) (C.2.2.2.2.1 _ h2) (C.2.2.2.2.1 _ h3) C.2.2.2.2.2.1.1 hP hD hS C.2.2.2.2.2.2.1 hc hfs hcells hslots d (fun q H1 hP1 hD1 hS1 => kk q H1 locs ls hP1 hD1 hS1 hl)
theorem v_newa (C : CX p l R s m args meth c cc nL own rt G A) {atype : ArrayType} {ty : FieldType} {a0 : vp_A} {x : Int32} {N : Nat} (t0 : Nat) {cA : ClassId} (hw : Cond.arrayClass (newarray.typeOf atype) ∈ lw_all) (hty : newarray.typeOf atype = ty) (ht : (tysG G)[t0]? = some (cA, ty)) (hra : ∀ (U : State) (c : ClassId), va_RA U c ty → U.vm.findClass ("[" ++ ty.toString) = some c) (ha : ∀ cA : ClassId, vp_cell cA a0 = arrV cA N (fun _ => defaultValue ty)) (hn : ¬ x < 0) (hN : x.toNatClampNeg = N) (hbytes : N * componentBytes ty ≤ 536870912) (hcells : cells + 1 ≤ R.cells) (hslots : slots + N ≤ R.slots) (d : decode cc pc = .ok (.newarray atype, 2))
    (kk : ∀ q : Nat, V p l e R s m args below meth c nL G A (cells + 1) (slots + N) Q (pc + 2) lv (.ref q :: rest) (ws ++ [(q, .inl (cA, a0))])) : V p l e R s m args below meth c nL G A cells slots Q pc lv (.int x :: rest) ws := by
  intro H locs ls hP hD hS hl
  refine va_newa C.1 C.2.1 (C.2.2.2.2.1 _ hw) hty C.2.2.2.2.2.1.1 hP hD hS C.2.2.2.2.2.2.1 ha hn hN hbytes hcells hslots d (fun q cB H1 hK1 hP1 hD1 hS1 => ?_)
  have hlt : t0 < (tysG G).length := (List.getElem?_eq_some_iff.mp ht).1
  have e1 : cB = cA := K_same hK1 (t0 := (tysG G).length) (k := t0) (by rw [List.getElem?_append_right (Nat.le_refl _), Nat.sub_self]; rfl) (by rw [List.getElem?_append_left hlt]; exact ht) hra
  subst e1
  exact kk q H1 locs ls hP1 hD1 hS1 hl
theorem v_newq (C : CX p l R s m args meth c cc nL own rt G A) {x : Int32} {N : Nat} (hw : Cond.classLink own idx RX4 ∈ lw_all) (hn : ¬ x < 0) (hN : x.toNatClampNeg = N) (hbytes : N * 4 ≤ 536870912) (hcells : cells + 1 ≤ R.cells) (hslots : slots + N ≤ R.slots) (d : decode cc pc = .ok (.anewarray idx, 3))
    (kk : ∀ q : Nat, V p l e R s m args below meth c nL G A (cells + 1) (slots + N) Q (pc + 3) lv (.ref q :: rest) (ws ++ [(q, .inl (G.2 2, N, .inr (.inr (.inr (.inr (fun _ => none))))))])) : V p l e R s m args below meth c nL G A cells slots Q pc lv (.int x :: rest) ws := by
  intro H locs ls hP hD hS hl
  refine va_newq C.1 C.2.1 C.2.2.2.1 (C.2.2.2.2.1 _ hw) C.2.2.2.2.2.1.2.2.2.2.2.1 C.2.2.2.2.2.1.1 hP hD hS C.2.2.2.2.2.2.1 hn hN hbytes hcells hslots d (fun q cB H1 hK1 hP1 hD1 hS1 => ?_)
  have e1 : cB = G.2 2 := K_same hK1 (t0 := 5) (k := 2) rfl rfl RAn_row
  subst e1
  exact kk q H1 locs ls hP1 hD1 hS1 hl
theorem v_callI (C : CX p l R s m args meth c cc nL own rt G A) {b : Nat} (h1 : Cond.methodLink own idx y ∈ lw_all) (h2 : Cond.instanceMethod y ∈ lw_all) (h3 : Cond.initialized y.cls ∈ lw_all) (h4 : Cond.code y c' nL' none ∈ lw_all) (hy : y.name = "<init>") (hd : MVd y n) (K : KE l G y c' nL' none rm (.ref b :: As) ws rv ws1 post) (hn : As.length = n) (hst : st = As.reverse ++ .ref b :: rest) (hcat : (rest.map fun v => v.category).sum ≤ 8) (hR : rm.frames + 1 ≤ R.frames ∧ 8 + (nL' + 11) + rm.locals ≤ R.locals) (hf : cells + rm.cells ≤ R.cells ∧ slots + rm.slots ≤ R.slots) (d : decode cc pc = .ok (.invokespecial idx, 3))
    (kk : ∀ u : S, post u → V p l e R s m args below meth c nL G A (cells + rm.cells) (slots + rm.slots) Q (pc + 3) lv ((rv u).toList ++ rest) (ws1 u)) : V p l e R s m args below meth c nL G A cells slots Q pc lv st ws := by
  subst hst
  intro H locs ls hP hD hS hl
  exact v_run (rm := rm) C.2.2.2.2.2.2.1 hD hS hl (va_runI (As := As) (rest := rest) ⟨C.1, C.2.1, C.2.2.1, C.2.2.2.1, C.2.2.2.2.1⟩ (K H.size) (cwI n C.2.2.2.2.1 (lw_GIc h4) rfl rfl rfl (C.2.2.2.2.1 _ h3) (C.2.2.2.2.1 _ h1) (C.2.2.2.2.1 _ h2) hy hd hR) ⟨PcW_blind, v_pre C hP hD hS _⟩ rfl hn hl.1 rfl (lv_room hcat) d hf) kk
theorem v_callIN (C : CX p l R s m args meth c cc nL own rt G A) {b : Nat} (h1 : (own, idx, y) ∈ nestM) (h2 : Cond.instanceMethod y ∈ lw_all) (h3 : Cond.initialized y.cls ∈ lw_all) (h4 : Cond.code y c' nL' none ∈ lw_all) (hy : y.name = "<init>") (hd : MVd y n) (K : KE l G y c' nL' none rm (.ref b :: As) ws rv ws1 post) (hn : As.length = n) (hst : st = As.reverse ++ .ref b :: rest) (hcat : (rest.map fun v => v.category).sum ≤ 8) (hR : rm.frames + 1 ≤ R.frames ∧ 8 + (nL' + 11) + rm.locals ≤ R.locals) (hf : cells + rm.cells ≤ R.cells ∧ slots + rm.slots ≤ R.slots) (d : decode cc pc = .ok (.invokespecial idx, 3))
    (kk : ∀ u : S, post u → V p l e R s m args below meth c nL G A (cells + rm.cells) (slots + rm.slots) Q (pc + 3) lv ((rv u).toList ++ rest) (ws1 u)) : V p l e R s m args below meth c nL G A cells slots Q pc lv st ws := by
  subst hst
  intro H locs ls hP hD hS hl
  exact v_run (rm := rm) C.2.2.2.2.2.2.1 hD hS hl (va_runIN (As := As) (rest := rest) ⟨C.1, C.2.1, C.2.2.1, C.2.2.2.1, C.2.2.2.2.1⟩ (K H.size) ⟨va_cnB n C.2.2.2.2.1 (lw_GIc h4) rfl rfl rfl (C.2.2.2.2.2.1.2.1 _ h1) (C.2.2.2.2.1 _ h3) hd hR, hy, C.2.2.2.2.1 _ h2⟩ ⟨PcW_blind, v_pre C hP hD hS _⟩ rfl hn hl.1 rfl (lv_room hcat) d hf) kk
end VN
/-! places in a world whose first part is unknown -/
theorem gA {ws tl : va_W} (k : Nat) {x : Nat × va_E} (h : tl[k]? = some x) : (ws ++ tl)[ws.length + k]? = some x := by
  rw [List.getElem?_append_right (by omega), show ws.length + k - ws.length = k by omega]; exact h
theorem pA {ws tl : va_W} (k : Nat) (x : Nat × va_E) : (ws ++ tl).set (ws.length + k) x = ws ++ tl.set k x := by
  rw [List.set_append_right _ _ (by omega), show ws.length + k - ws.length = k by omega]

