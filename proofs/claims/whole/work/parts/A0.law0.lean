/-! THE LAW: its calls, its script -/
def MSH (own : String) (idx : Nat) (y : MethodName) (c : ByteArray) (nL : Nat) (rt : Option FieldType) (hh : List (Nat × Nat × Nat × Nat)) (n : Nat) : Prop := GoodIn lw_all (va_wsS own idx y (Cond.codeWith y c nL rt hh :: lw_all)) ∧ MVd y n
theorem MSH.of {own : String} {idx : Nat} {y : MethodName} {c : ByteArray} {nL : Nat} {rt : Option FieldType} {hh : List (Nat × Nat × Nat × Nat)} {n : Nat} (h1 : Cond.methodLink own idx y ∈ lw_all) (h2 : Cond.static y ∈ lw_all) (h4 : Cond.initialized y.cls ∈ lw_all) (h5 : Cond.codeWith y c nL rt hh ∈ lw_all) (hd : MVd y n) : MSH own idx y c nL rt hh n := ⟨lw_GIa (lw_GIk h1 (lw_GIk h2 (lw_GIk h4 lw_GIn))) (lw_GIk h5 lw_GI), hd⟩
section LB
variable {p : Program} {l : Launch} {e : Env} {R : Room} {s : State} {m : MethodId} {args : Array Value} {below : List Frame} {meth : Method} {c : Code} {cc : ByteArray} {nL : Nat} {own : String} {rt : Option FieldType} {G : GG} {A : Nat → Prop} {cells slots : Nat} {Q : State → Prop} {pc : Nat} {lv lv' : List (Nat × Value)} {st rest As : List Value} {ws ws' : va_W}
variable {y : MethodName} {c' : ByteArray} {nL' n idx : Nat} {rt' : Option FieldType} {rm : Room} {S : Type} {rv : S → Option Value} {ws1 : S → va_W} {post : S → Prop} {hh : List (Nat × Nat × Nat × Nat)}
theorem v_callSH (C : CX p l R s m args meth c cc nL own rt G A) (hm : MSH own idx y c' nL' rt' hh n) (K : KH l G y c' nL' rt' hh rm As ws rv ws1 post) (hn : As.length = n) (hst : st = As.reverse ++ rest) (hcat : (rest.map fun v => v.category).sum ≤ 8) (hR : rm.frames + 1 ≤ R.frames ∧ 8 + (nL' + 11) + rm.locals ≤ R.locals) (hf : cells + rm.cells ≤ R.cells ∧ slots + rm.slots ≤ R.slots) (d : decode cc pc = .ok (.invokestatic idx, 3))
    (kk : ∀ u : S, post u → V p l e R s m args below meth c nL G A (cells + rm.cells) (slots + rm.slots) Q (pc + 3) lv ((rv u).toList ++ rest) (ws1 u)) : V p l e R s m args below meth c nL G A cells slots Q pc lv st ws := by
  subst hst
  intro H locs ls hP hD hS hl
  exact v_run (rm := rm) C.2.2.2.2.2.2.1 hD hS hl (vx_runSW (As := As) (rest := rest) ⟨C.1, C.2.1, C.2.2.1, C.2.2.2.1, C.2.2.2.2.1⟩ (K H.size) (vx_cwSW n C.2.2.2.2.1 hm.1 rfl rfl rfl hm.2 hR) ⟨PcW_blind, v_pre C hP hD hS _⟩ rfl hn hl.1 rfl (lv_room hcat) d hf) kk
theorem v_wid {k n : Nat} (h1 : cells ≤ k) (h2 : slots ≤ n) (kk : V p l e R s m args below meth c nL G A k n Q pc lv st ws) : V p l e R s m args below meth c nL G A cells slots Q pc lv st ws := fun H locs ls hP hD hS hl => W.widen h1 h2 (kk H locs ls hP hD hS hl)
theorem v_sld (C : CX p l R s m args meth c cc nL own rt G A) {b L : Nat} {xs : Nat → Int32} (hX : va_X b L xs s s.heap) (hbl : b < s.heap.size) (hbA : ¬ A b) {x : Int32} {j : Nat} (hj : x = nI j) (hjL : j < L) (hL : L ≤ 2048) (d : decode cc pc = .ok (.iaload, 1)) (kk : V p l e R s m args below meth c nL G A cells slots Q (pc + 1) lv (.int (xs j) :: rest) ws) : V p l e R s m args below meth c nL G A cells slots Q pc lv (.int x :: .ref b :: rest) ws := by
  subst hj
  have hin : vp_in (nI j) L := fun q => q.elim (fun h => nI_nlt0 (by omega) h) (fun h => by rw [nI_clamp (by omega)] at h; omega)
  intro H locs ls hP hD hS hl
  refine va_sld C.1 C.2.1 hX hbl hbA hS hin d ?_
  rw [nI_clamp (by omega)]
  exact kk H locs ls hP hD hS hl
theorem v_slen (C : CX p l R s m args meth c cc nL own rt G A) {b L : Nat} {xs : Nat → Int32} (hX : va_X b L xs s s.heap) (hbl : b < s.heap.size) (hbA : ¬ A b) (d : decode cc pc = .ok (.arraylength, 1)) (kk : V p l e R s m args below meth c nL G A cells slots Q (pc + 1) lv (.int (nI L) :: rest) ws) : V p l e R s m args below meth c nL G A cells slots Q pc lv (.ref b :: rest) ws := fun H locs ls hP hD hS hl => va_slen C.1 C.2.1 hX hbl hbA hS d (kk H locs ls hP hD hS hl)
end LB
theorem eoif {c : Prop} [Decidable c] {E : EE} {v : Int64} : (if c then EO E v else E) = EO E (if c then v else E.2.2.2.2.1) := by split <;> rfl
theorem edif {c : Prop} [Decidable c] {E : EE} {v : UInt64} : (if c then ED E v else E) = ED E (if c then v else E.2.2.2.2.2) := by split <;> rfl
theorem hcd_0 {ks : List Nat} {X : Nat} (hl : ks.length ≤ 5) (h : hcd ks X = 0) : X = 0 := by
  unfold hcd at h
  by_cases c : X = 0
  · exact c
  · rw [if_neg c] at h
    have : ks.idxOf X ≤ ks.length := List.idxOf_le_length
    exact absurd h (nI_n0 (by omega) (by omega))
theorem lg_self (x : Int64) : lg_cmp x x = 0 := by
  unfold lg_cmp
  rw [if_neg (Int64.lt_irrefl : ¬ x < x), if_pos rfl]
/-- what stays through the law -/
def LC (p : Program) (l : Launch) (s : State) (m : MethodId) (args : Array Value) (meth : Method) (c : Code) (G : GG) (A : Nat → Prop) (b L : Nat) (xs : Nat → Int32) : Prop := CX p l room_1 s m args meth c cL_law 9 RL ret G A ∧ l.stackTraces = false ∧ FNN ∧ va_X b L xs s s.heap ∧ b < s.heap.size ∧ ¬ A b ∧ L ≤ 2048
