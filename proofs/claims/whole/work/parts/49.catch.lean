/-! THE LAW'S OWN METHODS: they catch what the class throws -/
def KH {S : Type} (l : Launch) (G : GG) (y : MethodName) (c : ByteArray) (nL : Nat) (rt : Option FieldType) (hh : List (Nat × Nat × Nat × Nat)) (rm : Room) (av : List Value) (ws : va_W) (rv : S → Option Value) (ws1 : S → va_W) (post : S → Prop) : Prop :=
  ∀ sz : Nat, Met l y (Cond.codeWith y c nL rt hh :: lw_all) rm (PcW G ws sz av) (QcW G (va_A ws sz) rv ws1 post) rm.cells rm.slots (va_A ws sz)
theorem KH.of {S : Type} {l : Launch} {G : GG} {y : MethodName} {cc : ByteArray} {nL : Nat} {rt : Option FieldType} {hh : List (Nat × Nat × Nat × Nat)} {rm : Room} {av : List Value} {ws : va_W} {rv : S → Option Value} {ws1 : S → va_W} {post : S → Prop} (hy : plainName y.cls = true) (hn : (lg_sl av).length ≤ nL)
    (body : ∀ (p : Program) (e : Env) (s : State) (m : MethodId) (args : Array Value) (below : List Frame) (meth : Method) (c : Code) (A : Nat → Prop), CX p l rm s m args meth c cc nL y.cls rt G A → c.exceptionTable.toList = tableOf hh →
      V p l e rm s m args below meth c nL G A 0 0 (MQ below (QcW G A rv ws1 post) args s rm.cells rm.slots A) 0 (lv_args 0 av) [] ws) : KH l G y cc nL rt hh rm av ws rv ws1 post := by
  intro sz
  refine MetFree.of_bodyS (code := cc) (maxLocals := nL) (ret := rt) hy ?_ ?_
  · intro args s m h hn
    obtain ⟨m9, meth, c, hn9, h1, h2, h3, h4, -, h5, h6, -⟩ := Cond.codeWith_spec (atoms_spec (ws := Cond.codeWith y cc nL rt hh :: lw_all) h _ List.mem_cons_self)
    cases hn.symm.trans hn9
    exact ⟨meth, c, h1, h2, h3, h4, h5, h6⟩
  · intro p e s m args below meth c s₁ B hml hv _
    obtain ⟨rfl, hsz, hP, hD0, hg⟩ := hv
    have hts := atoms_spec (ws := Cond.codeWith y cc nL rt hh :: lw_all) B.pre
    have htab := vx_table (x := y) B (hts _ List.mem_cons_self)
    have hown : s.vm.findClass y.cls = some m.cls := findClass_of_methodNamed B.named
    subst hsz
    have hl := lv_entry av (n := nL) hn
    have hw := body p e s m av.toArray below meth c (va_A ws s.heap.size) ⟨B.exec, B.bytes, hml, hown, fun w h => hts w (List.mem_cons_of_mem _ h), hg, fun q h => Or.inr h, B.notSynchronized, B.returns⟩ htab s.heap [] _ hP (hD0.self (sz := s.heap.size)) va_S.rf hl
    rw [← lg_entry_eq] at hw
    obtain ⟨t, a1, o, b1, b2, b3⟩ := hw s₁ (by rw [B.state]; rfl) (Stand.of_body B)
    exact ⟨t, o, a1, b1, b2, ⟨b3.1, b3.2⟩⟩
/-- the rows of a table that E passes, and the one that takes it -/
def CTCH (own : String) (E : String) (pc hpc : Nat) (tb : List ExceptionTableEntry) : Prop := ∃ (pre : List ExceptionTableEntry) (x : ExceptionTableEntry) (suf : List ExceptionTableEntry), tb = pre ++ x :: suf ∧ (∀ z ∈ pre, z.catchType ≠ 0 ∧ ∃ nm : String, Cond.classLink own z.catchType nm ∈ lw_all ∧ (E, nm) ∈ ncW) ∧ covers x pc = true ∧ x.catchType ≠ 0 ∧ Cond.classLink own x.catchType E ∈ lw_all ∧ E ∈ exC ∧ x.handlerPc = hpc
section VH
variable {p : Program} {l : Launch} {e : Env} {R : Room} {s : State} {m : MethodId} {args : Array Value} {below : List Frame} {meth : Method} {c : Code} {cc : ByteArray} {nL : Nat} {own : String} {rt : Option FieldType} {G : GG} {A : Nat → Prop} {cells slots : Nat} {Q : State → Prop} {pc : Nat} {lv lv' : List (Nat × Value)} {st rest As : List Value} {ws ws' : va_W}
variable {y : MethodName} {c' : ByteArray} {nL' n idx : Nat} {rt' : Option FieldType} {rm : Room} {S : Type} {rv : S → Option Value} {ws1 : S → va_W} {post : S → Prop} {wsx : va_W} {ex : String → Prop}
theorem v_callVC (C : CX p l R s m args meth c cc nL own rt G A) {hh : List (Nat × Nat × Nat × Nat)} (htab : c.exceptionTable.toList = tableOf hh) {b ci : Nat} {fs : List Value} {q : vw_C} (hm : MV own idx y c' nL' rt' n) (K : KX l G y c' nL' rt' rm (.ref b :: As) ws rv ws1 post wsx ex) (q0 : Nat) (hrec : ws[q0]? = some (b, .inr (ci, fs))) (hci : cls[ci]? = some q) (hqy : q.1 = y.cls) (hn : As.length = n) (hst : st = As.reverse ++ .ref b :: rest) (hcat : (rest.map fun v => v.category).sum ≤ 8) (hR : rm.frames + 1 ≤ R.frames ∧ 8 + (nL' + 11) + rm.locals ≤ R.locals) (hf : cells + rm.cells ≤ R.cells ∧ slots + rm.slots ≤ R.slots) (d : decode cc pc = .ok (.invokevirtual idx, 3))
    (kx : ∀ E : String, ex E → ∃ hpc : Nat, CTCH own E pc hpc (tableOf hh) ∧ ∀ q : Nat, V p l e R s m args below meth c nL G A (cells + rm.cells) (slots + rm.slots) Q hpc lv [.ref q] wsx)
    (kk : ∀ u : S, post u → V p l e R s m args below meth c nL G A (cells + rm.cells) (slots + rm.slots) Q (pc + 3) lv ((rv u).toList ++ rest) (ws1 u)) : V p l e R s m args below meth c nL G A cells slots Q pc lv st ws := by
  subst hst
  intro H locs ls hP hD hS hl
  have hrv := va_recv C.2.2.2.2.2.1.1 hP hci hrec
  rw [hqy] at hrv
  have hr := vx_runV (R := R) (below := below) (p := p) (e := e) (locs := locs) (cells := cells) (slots := slots) (meth := meth) (g := F0 m pc ls (As.reverse ++ .ref b :: rest)) (As := As) (rest := rest) ⟨C.1, C.2.1, C.2.2.1, C.2.2.2.1, C.2.2.2.2.1⟩ (K H.size) (cwV n C.2.2.2.2.1 hm.1 rfl rfl rfl ⟨rfl, hm.2⟩ hR) ⟨PcW_blind, hrv, v_pre C hP hD hS _⟩ rfl hn hl.1 rfl (lv_room hcat) d hf
  have hA' := va_A.sub hD hS C.2.2.2.2.2.2.1
  intro T hT X
  rcases hr T hT X with ⟨v, st₀, t, T', L, h0, X', hL, e1, e2, ⟨⟨u, hp, hv, hP1, hD1⟩, hz, hk⟩, go⟩ | ⟨q, st₀, t, T', L, E, ce, h0, X', hL, e1, e2, ⟨hE, ⟨hP1, hD1⟩, hz, hk⟩, hce, hcv, hcl, go⟩
  · cases hv
    rw [h0] at hz hk
    obtain ⟨t2, a1, b1⟩ := kk u hp T'.heap (locs ++ L) ls (by rw [e1]; exact hP1) (hD1.weaken (fun _ _ _ h => hA' _ h)) (hS.then hA' (by rw [e1]; exact hz) (fun q x y => by rw [e1]; exact hk q x y) hL) hl T' rfl X'
    exact ⟨t2, go t2 a1, b1⟩
  · rw [h0] at hz hk
    have hS' := hS.then (H1 := T'.heap) hA' (by rw [e1]; exact hz) (fun q x y => by rw [e1]; exact hk q x y) hL
    obtain ⟨hpc, ⟨pre, x, suf, hsp, hpass, hcv1, hc0, hlk, hEx, hh1⟩, k⟩ := kx E hE
    subst hh1
    have hg := C.2.2.2.2.2.1.2.2.2.2.2.2
    obtain ⟨t2, a1, b1⟩ := vx_catch (Q := Q) (E := E) (name := E) (pc := pc) (ls := ls) (rest := rest) (H := T'.heap) (l := l) (R := R) C.2.2.2.1 pre x suf (htab.trans hsp) (fun z hz => Or.inr ⟨(hpass z hz).1, by obtain ⟨nm, h1, h2⟩ := (hpass z hz).2; exact ⟨nm, C.2.2.2.2.1 _ h1, hg.2.2 _ h2⟩⟩) hcv1 hc0 (C.2.2.2.2.1 _ hlk) (va_Nw.use rfl (hg.1 E hEx)) (by rw [e1]; exact hce) hcv hcl (k q T'.heap (locs ++ L) ls (by rw [e1]; exact hP1) (hD1.weaken (fun _ _ _ h => hA' _ h)) hS' hl) T' rfl X'
    exact ⟨t2, go.trans a1, b1⟩
/-- a cell told anew -/
theorem v_tell {a : Nat} {cA : ClassId} {x x' : vp_A} (q0 : Nat) (he : ws[q0]? = some (a, .inl (cA, x))) (hx : vp_cell cA x' = vp_cell cA x) (hw : ws.set q0 (a, .inl (cA, x')) = ws') (k : V p l e R s m args below meth c nL G A cells slots Q pc lv st ws') : V p l e R s m args below meth c nL G A cells slots Q pc lv st ws := by
  subst hw
  intro H locs ls hP hD hS hl
  refine k H locs ls (hP.set hD he ?_ (fun _ _ => rfl)) (hD.set he) hS hl
  show H[a]? = some (vp_cell cA x')
  rw [hx]
  exact hP q0 _ he
end VH
theorem one_l (cA : ClassId) (f : Nat → Int64) (x : Int64) (h : f 0 = x) : vp_cell cA (1, .inr (.inl (fun _ => x))) = vp_cell cA (1, .inr (.inl f)) := by
  rw [vp_cell_l, vp_cell_l]
  unfold arrV
  congr 1
  apply Array.ext (by simp)
  intro i h1 h2
  have hi : i = 0 := by simpa using h1
  subst hi
  simp [h]
theorem one_d (cA : ClassId) (f : Nat → UInt64) (x : UInt64) (h : f 0 = x) : vp_cell cA (1, .inr (.inr (.inr (.inl (fun _ => x))))) = vp_cell cA (1, .inr (.inr (.inr (.inl f)))) := by
  rw [vp_cell_d, vp_cell_d]
  unfold arrV
  congr 1
  apply Array.ext (by simp)
  intro i h1 h2
  have hi : i = 0 := by simpa using h1
  subst hi
  simp [h]
abbrev EO (E : EE) (x : Int64) : EE := (E.1, E.2.1, E.2.2.1, E.2.2.2.1, x, E.2.2.2.2.2)
abbrev ED (E : EE) (x : UInt64) : EE := (E.1, E.2.1, E.2.2.1, E.2.2.2.1, E.2.2.2.2.1, x)
section VO2
variable {p : Program} {l : Launch} {e : Env} {R : Room} {s : State} {m : MethodId} {args : Array Value} {below : List Frame} {meth : Method} {c : Code} {cc : ByteArray} {nL : Nat} {own : String} {rt : Option FieldType} {G : GG} {A : Nat → Prop} {cells slots : Nat} {Q : State → Prop} {pc : Nat} {lv : List (Nat × Value)} {rest : List Value} {E : EE} {σ μ : Sg} {Y : va_W}
theorem v_out (C : CX p l R s m args meth c cc nL own rt G A) {x : Int64} (d : decode cc pc = .ok (.lastore, 1)) (k : V p l e R s m args below meth c nL G A cells slots Q (pc + 1) lv rest (Wd G (EO E x) σ μ Y)) : V p l e R s m args below meth c nL G A cells slots Q pc lv (.long x :: .int 0 :: .ref (E.1 33) :: rest) (Wd G E σ μ Y) := by
  refine v_last (f := fun _ => E.2.2.2.2.1) C 33 g_33 (vp_lit (k := 0) rfl (by decide) (by decide)) rfl d ?_
  refine v_tell (x' := (1, .inr (.inl (fun _ => x)))) 33 (by rw [List.getElem?_set_self (by simp [Wd, fxW])]) (one_l _ _ _ (by simp [vp_updL])) (by rw [List.set_set]; rfl) k
theorem v_outD (C : CX p l R s m args meth c cc nL own rt G A) {x : UInt64} (d : decode cc pc = .ok (.dastore, 1)) (k : V p l e R s m args below meth c nL G A cells slots Q (pc + 1) lv rest (Wd G (ED E x) σ μ Y)) : V p l e R s m args below meth c nL G A cells slots Q pc lv (.double x :: .int 0 :: .ref (E.1 34) :: rest) (Wd G E σ μ Y) := by
  refine v_dast (f := fun _ => E.2.2.2.2.2) C 34 g_34 (vp_lit (k := 0) rfl (by decide) (by decide)) rfl d ?_
  refine v_tell (x' := (1, .inr (.inr (.inr (.inl (fun _ => x)))))) 34 (by rw [List.getElem?_set_self (by simp [Wd, fxW])]) (one_d _ _ _ (by simp [vf_upd])) (by rw [List.set_set]; rfl) k
end VO2

