/-! WHAT THROWS -/
def exN : List String := ["java/lang/RuntimeException", "java/lang/Exception"]
/-- the class's thrown classes, by number -/
def exn : Nat → String := fun k => match k with | 1 => "java/lang/IllegalArgumentException" | 2 => "java/lang/IllegalStateException" | 3 => "java/lang/IndexOutOfBoundsException" | 4 => "java/lang/UnsupportedOperationException" | 5 => "java/util/NoSuchElementException" | _ => "java/lang/ArithmeticException"
def exB (X : String) : List Cond := .castable X X :: exD.map Cond.declares
/-- the words of a throw of the class X, its constructor at ic -/
def TXW (ik ic : Nat) (X : String) : Prop := Bundle.fit X = true ∧ Cond.classLink RX9 ik X ∈ lw_all ∧ Cond.initialized X ∈ lw_all ∧ (∀ w ∈ (vx_atS RX9 ic X exN).filter goodWord, w ∈ lw_all) ∧ (∀ w ∈ (vx_atS RX9 ic X exN).filter (fun w => !goodWord w), w ∈ exB X) ∧ (∀ w ∈ Cond.classLink RX9 ik X :: Cond.initialized X :: vx_atS RX9 ic X exN, vx_ot w = true) ∧ X ∈ exC
theorem exN_fit : ∀ n ∈ exN, Bundle.fit n = true := by decide +kernel
theorem tx_1 : TXW 34 38 (exn 1) := ⟨by decide +kernel, w_439, w_61, by decide +kernel, by decide +kernel, by decide +kernel, by decide +kernel⟩
theorem tx_2 : TXW 90 94 (exn 2) := ⟨by decide +kernel, w_543, w_62, by decide +kernel, by decide +kernel, by decide +kernel, by decide +kernel⟩
theorem tx_3 : TXW 99 103 (exn 3) := ⟨by decide +kernel, w_590, w_63, by decide +kernel, by decide +kernel, by decide +kernel, by decide +kernel⟩
theorem tx_4 : TXW 138 142 (exn 4) := ⟨by decide +kernel, w_711, w_68, by decide +kernel, by decide +kernel, by decide +kernel, by decide +kernel⟩
theorem tx_6 : TXW 304 308 (exn 6) := ⟨by decide +kernel, w_1109, w_72, by decide +kernel, by decide +kernel, by decide +kernel, by decide +kernel⟩
section VT
variable {p : Program} {l : Launch} {e : Env} {R : Room} {s : State} {m : MethodId} {args : Array Value} {below : List Frame} {meth : Method} {c : Code} {cc : ByteArray} {nL : Nat} {own : String} {rt : Option FieldType} {G : GG} {A : Nat → Prop} {cells slots : Nat} {Q : State → Prop} {pc : Nat} {lv lv' : List (Nat × Value)} {st rest As : List Value} {ws ws' : va_W}
variable {y : MethodName} {c' : ByteArray} {nL' n idx : Nat} {rt' : Option FieldType} {rm : Room} {S S0 : Type} {rv : S → Option Value} {ws1 : S → va_W} {post : S → Prop} {wsx : va_W} {ex : String → Prop}
variable {rv0 : S0 → Option Value} {ws0 : S0 → va_W} {post0 : S0 → Prop} {wsx0 : va_W} {ex0 : String → Prop} {mc ms : Nat}
theorem ex_words (C : CX p l R s m args meth c cc nL own rt G A) {X : String} {ik ic : Nat} (h : TXW ik ic X) : ∀ w ∈ vx_atS RX9 ic X exN, w.before args s = true := by
  obtain ⟨-, -, -, h4, h5, -, h7⟩ := h
  have hg := C.2.2.2.2.2.1.2.2.2.2.2.2
  refine vx_hat (fun w hw => C.2.2.2.2.1 _ (h4 w hw)) h5 (fun w hw => ?_)
  rcases List.mem_cons.mp hw with e | hw
  · rw [e]; exact va_Nw.use rfl (hg.1 X h7)
  · obtain ⟨y, hy, e⟩ := List.mem_map.mp hw
    rw [← e]; exact va_Nw.use rfl (hg.2.1 y hy)
theorem ex_XcW {X : String} {H : Heap} {locs : List Loc} (hex : ex0 X) (hP : va_P G.1 cls ws H) (hD : va_D A ws) (hS : va_S A s.heap H locs) : ∀ t : State, s.vm.Alike t.vm → H.size ≤ t.heap.size → (∀ q : Nat, q < H.size → t.heap[q]? = H[q]?) → XcW G A ws ex0 X s t :=
  fun t _ hz hk => ⟨hex, ⟨hP.kept (fun k q hq => hk q.1 (hP k q hq).lt), hD⟩, Nat.le_trans hS.1 hz, fun q h1 h2 => (hk q (Nat.lt_of_lt_of_le h1 hS.1)).trans (hS.2.1 q h1 h2)⟩
theorem v_throwS (C : CX p l R s m args meth c cc nL RX9 rt G A) (htab : ∀ x ∈ c.exceptionTable.toList, False) (hl : l.stackTraces = false) {X text : String} {ik is ic : Nat} (hX : TXW ik ic X) (hs : (is, text) ∈ strW) (hex : ex0 X) (hwx : ws = wsx0) (d0 : decode cc pc = .ok (.new ik, 3)) (d3 : decode cc (pc + 3) = .ok (.dup, 1)) (d4 : decode cc (pc + 4) = .ok (.ldc is, 2)) (d6 : decode cc (pc + 6) = .ok (.invokespecial ic, 3)) (d9 : decode cc (pc + 9) = .ok (.athrow, 1))
    (hR : 5 < R.frames ∧ (rest.map fun v => v.category).sum + 82 ≤ R.locals ∧ cells + 1 ≤ R.cells ∧ slots + 6 ≤ R.slots) (hm : cells + 1 ≤ mc ∧ slots + 6 ≤ ms) : V p l e R s m args below meth c nL G A cells slots (vx_MQ below (QcW G A rv0 ws0 post0) (XcW G A wsx0 ex0) args s mc ms A) pc lv rest ws := by
  subst hwx
  intro H locs ls hP hD hS hlv
  obtain ⟨sa, hsa⟩ := C.2.2.2.2.2.1.2.2.1 _ hs
  exact vx_throwS (names := exN) (sa := sa) C.1 C.2.1 hl C.2.2.2.1 hX.1 exN_fit (C.2.2.2.2.1 _ hX.2.1) (C.2.2.2.2.1 _ hX.2.2.1) hsa (ex_words C hX) hX.2.2.2.2.2.1 C.2.2.2.2.2.1.2.2.2.1.1 C.2.2.2.2.2.1.2.2.2.1.2 hS (by rw [C.2.2.1]; exact hlv.1) d0 d3 d4 d6 d9 (fun x hx => (htab x hx).elim) (by show 2 + 3 < _; exact hR.1) (by show _ + (13 * (2 + 1) + 43) ≤ _; exact hR.2.1) hR.2.2.1 hR.2.2.2 C.2.2.2.2.2.2.2.1 (ex_XcW hex hP hD hS) hS.2.2 hm.1 hm.2
theorem v_throwSW (C : CX p l R s m args meth c cc nL RX9 rt G A) (htab : ∀ x ∈ c.exceptionTable.toList, False) (hl : l.stackTraces = false) {X text : String} {ik is ic : Nat} (hX : TXW ik ic X) (hs : (is, text) ∈ strW) (hex : ex0 X) (hwx : ws = wsx0) (d0 : decode cc pc = .ok (.new ik, 3)) (d3 : decode cc (pc + 3) = .ok (.dup, 1)) (d4 : decode cc (pc + 4) = .ok (.ldc_w is, 3)) (d7 : decode cc (pc + 7) = .ok (.invokespecial ic, 3)) (d10 : decode cc (pc + 10) = .ok (.athrow, 1))
    (hR : 5 < R.frames ∧ (rest.map fun v => v.category).sum + 82 ≤ R.locals ∧ cells + 1 ≤ R.cells ∧ slots + 6 ≤ R.slots) (hm : cells + 1 ≤ mc ∧ slots + 6 ≤ ms) : V p l e R s m args below meth c nL G A cells slots (vx_MQ below (QcW G A rv0 ws0 post0) (XcW G A wsx0 ex0) args s mc ms A) pc lv rest ws := by
  subst hwx
  intro H locs ls hP hD hS hlv
  obtain ⟨sa, hsa⟩ := C.2.2.2.2.2.1.2.2.1 _ hs
  exact vx_throwSW (names := exN) (sa := sa) C.1 C.2.1 hl C.2.2.2.1 hX.1 exN_fit (C.2.2.2.2.1 _ hX.2.1) (C.2.2.2.2.1 _ hX.2.2.1) hsa (ex_words C hX) hX.2.2.2.2.2.1 C.2.2.2.2.2.1.2.2.2.1.1 C.2.2.2.2.2.1.2.2.2.1.2 hS (by rw [C.2.2.1]; exact hlv.1) d0 d3 d4 d7 d10 (fun x hx => (htab x hx).elim) (by show 2 + 3 < _; exact hR.1) (by show _ + (13 * (2 + 1) + 43) ≤ _; exact hR.2.1) hR.2.2.1 hR.2.2.2 C.2.2.2.2.2.2.2.1 (ex_XcW hex hP hD hS) hS.2.2 hm.1 hm.2
/-- a call's end where it may throw, and what is thrown goes on -/
theorem v_runX {H : Heap} {locs : List Loc} {ls : Array Slot} {st0 : List Value} (C : CX p l R s m args meth c cc nL own rt G A) (htab : ∀ x ∈ c.exceptionTable.toList, False) (hD : va_D A ws) (hS : va_S A s.heap H locs) (hl : lv_has ls nL lv) (hex : ∀ E, ex E → ex0 E ∧ wsx = wsx0) (hm : cells + rm.cells ≤ mc ∧ slots + rm.slots ≤ ms) {a : Array Value}
    (hr : vx_Run p l e R s m args below meth c H locs cells slots rm.cells rm.slots (F0 m pc ls st0) rest (QcW G (va_A ws H.size) rv ws1 post a) (XcW G (va_A ws H.size) wsx ex) (va_A ws H.size))
    (kk : ∀ u : S, post u → V p l e R s m args below meth c nL G A (cells + rm.cells) (slots + rm.slots) (vx_MQ below (QcW G A rv0 ws0 post0) (XcW G A wsx0 ex0) args s mc ms A) (pc + 3) lv ((rv u).toList ++ rest) (ws1 u)) : W p l e R s m args below meth c H locs cells slots (vx_MQ below (QcW G A rv0 ws0 post0) (XcW G A wsx0 ex0) args s mc ms A) (F0 m pc ls st0) := by
  have hA' := va_A.sub hD hS C.2.2.2.2.2.2.1
  intro T hT X
  rcases hr T hT X with ⟨v, st₀, t, T', L, h0, X', hL, e1, e2, ⟨⟨u, hp, hv, hP1, hD1⟩, hz, hk⟩, go⟩ | ⟨q, st₀, t, T', L, E, ce, h0, X', hL, e1, e2, ⟨hE, ⟨hP1, hD1⟩, hz, hk⟩, hce, hcv, hcl, go⟩
  · cases hv
    rw [h0] at hz hk
    obtain ⟨t2, a1, b1⟩ := kk u hp T'.heap (locs ++ L) ls (by rw [e1]; exact hP1) (hD1.weaken (fun _ _ _ h => hA' _ h)) (hS.then hA' (by rw [e1]; exact hz) (fun q x y => by rw [e1]; exact hk q x y) hL) hl T' rfl X'
    exact ⟨t2, go t2 a1, b1⟩
  · obtain ⟨hE0, hwx⟩ := hex _ hE
    subst hwx
    rw [h0] at hz hk
    have hS' := hS.then (H1 := T'.heap) hA' (by rw [e1]; exact hz) (fun q x y => by rw [e1]; exact hk q x y) hL
    obtain ⟨t2, a1, b1⟩ := vx_out (Qc := QcW G A rv0 ws0 post0) (XC := XcW G A wsx ex0) (free := A) (args := args) (below := below) (R := R) (l := l) (p := p) (e := e) (ls := ls) (rest := rest) (pc := pc) (E := E) (mc := mc) (ms := ms) (fun x hx => (htab x hx).elim) C.2.2.2.2.2.2.2.1 (by rw [e1]; exact hce) hcv hcl (fun t3 h3 _ => ⟨hE0, ⟨by rw [h3, e1]; exact hP1, hD1.weaken (fun _ _ _ h => hA' _ h)⟩, hS'.F h3⟩) hS'.2.2 hm.1 hm.2 T' rfl X'
    exact ⟨t2, go.trans a1, b1⟩
theorem v_callSX (C : CX p l R s m args meth c cc nL own rt G A) (htab : ∀ x ∈ c.exceptionTable.toList, False) (hm : MS own idx y c' nL' rt' n) (K : KX l G y c' nL' rt' rm As ws rv ws1 post wsx ex) (hex : ∀ E, ex E → ex0 E ∧ wsx = wsx0) (hn : As.length = n) (hst : st = As.reverse ++ rest) (hcat : (rest.map fun v => v.category).sum ≤ 8) (hR : rm.frames + 1 ≤ R.frames ∧ 8 + (nL' + 11) + rm.locals ≤ R.locals) (hf : cells + rm.cells ≤ R.cells ∧ slots + rm.slots ≤ R.slots) (hmc : cells + rm.cells ≤ mc ∧ slots + rm.slots ≤ ms) (d : decode cc pc = .ok (.invokestatic idx, 3))
    (kk : ∀ u : S, post u → V p l e R s m args below meth c nL G A (cells + rm.cells) (slots + rm.slots) (vx_MQ below (QcW G A rv0 ws0 post0) (XcW G A wsx0 ex0) args s mc ms A) (pc + 3) lv ((rv u).toList ++ rest) (ws1 u)) : V p l e R s m args below meth c nL G A cells slots (vx_MQ below (QcW G A rv0 ws0 post0) (XcW G A wsx0 ex0) args s mc ms A) pc lv st ws := by
  subst hst
  intro H locs ls hP hD hS hl
  exact v_runX C htab hD hS hl hex hmc (vx_runS (As := As) (rest := rest) ⟨C.1, C.2.1, C.2.2.1, C.2.2.2.1, C.2.2.2.2.1⟩ (K H.size) (va_cwS n C.2.2.2.2.1 hm.1 rfl rfl rfl hm.2 hR) ⟨PcW_blind, v_pre C hP hD hS _⟩ rfl hn hl.1 rfl (lv_room hcat) d hf) kk
theorem v_callVX (C : CX p l R s m args meth c cc nL own rt G A) (htab : ∀ x ∈ c.exceptionTable.toList, False) {b ci : Nat} {fs : List Value} {q : vw_C} (hm : MV own idx y c' nL' rt' n) (K : KX l G y c' nL' rt' rm (.ref b :: As) ws rv ws1 post wsx ex) (hex : ∀ E, ex E → ex0 E ∧ wsx = wsx0) (q0 : Nat) (hrec : ws[q0]? = some (b, .inr (ci, fs))) (hci : cls[ci]? = some q) (hqy : q.1 = y.cls) (hn : As.length = n) (hst : st = As.reverse ++ .ref b :: rest) (hcat : (rest.map fun v => v.category).sum ≤ 8) (hR : rm.frames + 1 ≤ R.frames ∧ 8 + (nL' + 11) + rm.locals ≤ R.locals) (hf : cells + rm.cells ≤ R.cells ∧ slots + rm.slots ≤ R.slots) (hmc : cells + rm.cells ≤ mc ∧ slots + rm.slots ≤ ms) (d : decode cc pc = .ok (.invokevirtual idx, 3))
    (kk : ∀ u : S, post u → V p l e R s m args below meth c nL G A (cells + rm.cells) (slots + rm.slots) (vx_MQ below (QcW G A rv0 ws0 post0) (XcW G A wsx0 ex0) args s mc ms A) (pc + 3) lv ((rv u).toList ++ rest) (ws1 u)) : V p l e R s m args below meth c nL G A cells slots (vx_MQ below (QcW G A rv0 ws0 post0) (XcW G A wsx0 ex0) args s mc ms A) pc lv st ws := by
  subst hst
  intro H locs ls hP hD hS hl
  have hrv := va_recv C.2.2.2.2.2.1.1 hP hci hrec
  rw [hqy] at hrv
  exact v_runX C htab hD hS hl hex hmc (vx_runV (As := As) (rest := rest) ⟨C.1, C.2.1, C.2.2.1, C.2.2.2.1, C.2.2.2.2.1⟩ (K H.size) (cwV n C.2.2.2.2.1 hm.1 rfl rfl rfl ⟨rfl, hm.2⟩ hR) ⟨PcW_blind, hrv, v_pre C hP hD hS _⟩ rfl hn hl.1 rfl (lv_room hcat) d hf) kk
end VT

