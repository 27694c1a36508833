/-! THE ONE WORLD: the class's cells, the reference's, the law's two rows; then the requests, then whatever else (the saved state) -/
abbrev Sg : Type := Nat → Nat → Int32
def s2 (σ : Sg) (i k : Nat) (v : Int32) : Sg := fun j => if j = i then upd (σ j) k v else σ j
/-- addresses of the cells, of the requests; how many requests are made; the saved state; the law's two rows -/
abbrev EE : Type := (Nat → Nat) × (Nat → Nat) × Nat × Option Nat × Int64 × UInt64
def rowsF (E : EE) : Nat → Option Nat := fun i => if i < E.2.2.1 then some (E.2.1 i) else none
def rowC (σ : Sg) (i : Nat) : List Value := [.int (nI i), .int (σ 40 i), .int (σ 41 i), .int (σ 42 i), .int (σ 43 i), .int (σ 44 i)]
def rowsW (E : EE) (σ : Sg) : va_W := (List.range E.2.2.1).map (fun i => (E.2.1 i, .inr (3, rowC σ i)))
def fxW (G : GG) (E : EE) (σ μ : Sg) : va_W :=
  [(E.1 0, .inr (8, [.ref (E.1 1), .ref (E.1 10), .ref (E.1 19), va_rf E.2.2.2.1])),
   (E.1 1, .inr (7, [.ref (E.1 2), .ref (E.1 5), .ref (E.1 7), .ref (E.1 8)])),
   (E.1 2, .inr (1, [.int (σ 2 0), .int (σ 2 1), .int (σ 2 2), .int (σ 2 3), .int (σ 2 4), .int (σ 2 5), .int (σ 2 6), .int (σ 2 7), .int (σ 2 8), .int (σ 2 9), .int (σ 2 10), .ref (E.1 3), .ref (E.1 4)])),
   (E.1 3, .inl (G.2 0, 4, .inl (σ 3))),
   (E.1 4, .inl (G.2 0, 576, .inl (σ 4))),
   (E.1 5, .inr (5, [.int (σ 5 0), .int (σ 5 1), .ref (E.1 6)])),
   (E.1 6, .inl (G.2 2, 80, .inr (.inr (.inr (.inr (rowsF E)))))),
   (E.1 7, .inr (6, [.int (σ 7 0), .int (σ 7 1), .int (σ 7 2), .int (σ 7 3)])),
   (E.1 8, .inr (0, [.int (σ 8 0), .int (σ 8 1), .ref (E.1 9)])),
   (E.1 9, .inl (G.2 0, 8, .inl (σ 9))),
   (E.1 10, .inr (2, [.int (σ 10 0), .int (σ 10 1), .ref (E.1 11), .ref (E.1 12), .ref (E.1 13), .ref (E.1 14), .ref (E.1 15), .ref (E.1 16), .ref (E.1 17), .ref (E.1 18)])),
   (E.1 11, .inl (G.2 0, 6, .inl (σ 11))),
   (E.1 12, .inl (G.2 0, 6, .inl (σ 12))),
   (E.1 13, .inl (G.2 0, 6, .inl (σ 13))),
   (E.1 14, .inl (G.2 0, 6, .inl (σ 14))),
   (E.1 15, .inl (G.2 0, 6, .inl (σ 15))),
   (E.1 16, .inl (G.2 1, 6, .inl (σ 16))),
   (E.1 17, .inl (G.2 0, 6, .inl (σ 17))),
   (E.1 18, .inl (G.2 0, 6, .inl (σ 18))),
   (E.1 19, .inr (4, [.int (σ 19 0), .int (σ 19 1), .int (σ 19 2), .ref (E.1 20), .ref (E.1 21), .ref (E.1 22), .int (σ 19 3), .ref (E.1 23)])),
   (E.1 20, .inl (G.2 0, 14, .inl (σ 20))),
   (E.1 21, .inl (G.2 0, 14, .inl (σ 21))),
   (E.1 22, .inl (G.2 0, 14, .inl (σ 22))),
   (E.1 23, .inl (G.2 0, 40, .inl (σ 23))),
   (E.1 24, .inr (9, [.ref (E.1 25), .ref (E.1 26), .int (μ 24 0), .int (μ 24 1), .ref (E.1 27), .int (μ 24 2), .int (μ 24 3), .int (μ 24 4), .int (μ 24 5), .ref (E.1 28), .int (μ 24 6), .ref (E.1 29), .ref (E.1 30), .ref (E.1 31), .ref (E.1 32), .int (μ 24 7), .int (μ 24 8), .int (μ 24 9)])),
   (E.1 25, .inl (G.2 0, 1700, .inl (μ 25))),
   (E.1 26, .inl (G.2 0, 1700, .inl (μ 26))),
   (E.1 27, .inl (G.2 0, 40, .inl (μ 27))),
   (E.1 28, .inl (G.2 0, 60, .inl (μ 28))),
   (E.1 29, .inl (G.2 0, 12, .inl (μ 29))),
   (E.1 30, .inl (G.2 0, 12, .inl (μ 30))),
   (E.1 31, .inl (G.2 0, 12, .inl (μ 31))),
   (E.1 32, .inl (G.2 1, 12, .inl (μ 32))),
   (E.1 33, .inl (G.2 3, 1, .inr (.inl (fun _ => E.2.2.2.2.1)))),
   (E.1 34, .inl (G.2 4, 1, .inr (.inr (.inr (.inl (fun _ => E.2.2.2.2.2))))))]
def Wd (G : GG) (E : EE) (σ μ : Sg) (Y : va_W) : va_W := fxW G E σ μ ++ (rowsW E σ ++ Y)
section WG
variable {G : GG} {E : EE} {σ μ : Sg} {Y : va_W}
theorem g_0 : (Wd G E σ μ Y)[0]? = some (E.1 0, .inr (8, [.ref (E.1 1), .ref (E.1 10), .ref (E.1 19), va_rf E.2.2.2.1])) := rfl
theorem g_1 : (Wd G E σ μ Y)[1]? = some (E.1 1, .inr (7, [.ref (E.1 2), .ref (E.1 5), .ref (E.1 7), .ref (E.1 8)])) := rfl
theorem g_2 : (Wd G E σ μ Y)[2]? = some (E.1 2, .inr (1, [.int (σ 2 0), .int (σ 2 1), .int (σ 2 2), .int (σ 2 3), .int (σ 2 4), .int (σ 2 5), .int (σ 2 6), .int (σ 2 7), .int (σ 2 8), .int (σ 2 9), .int (σ 2 10), .ref (E.1 3), .ref (E.1 4)])) := rfl
theorem g_3 : (Wd G E σ μ Y)[3]? = some (E.1 3, .inl (G.2 0, 4, .inl (σ 3))) := rfl
theorem g_4 : (Wd G E σ μ Y)[4]? = some (E.1 4, .inl (G.2 0, 576, .inl (σ 4))) := rfl
theorem g_5 : (Wd G E σ μ Y)[5]? = some (E.1 5, .inr (5, [.int (σ 5 0), .int (σ 5 1), .ref (E.1 6)])) := rfl
theorem g_6 : (Wd G E σ μ Y)[6]? = some (E.1 6, .inl (G.2 2, 80, .inr (.inr (.inr (.inr (rowsF E)))))) := rfl
theorem g_7 : (Wd G E σ μ Y)[7]? = some (E.1 7, .inr (6, [.int (σ 7 0), .int (σ 7 1), .int (σ 7 2), .int (σ 7 3)])) := rfl
theorem g_8 : (Wd G E σ μ Y)[8]? = some (E.1 8, .inr (0, [.int (σ 8 0), .int (σ 8 1), .ref (E.1 9)])) := rfl
theorem g_9 : (Wd G E σ μ Y)[9]? = some (E.1 9, .inl (G.2 0, 8, .inl (σ 9))) := rfl
theorem g_10 : (Wd G E σ μ Y)[10]? = some (E.1 10, .inr (2, [.int (σ 10 0), .int (σ 10 1), .ref (E.1 11), .ref (E.1 12), .ref (E.1 13), .ref (E.1 14), .ref (E.1 15), .ref (E.1 16), .ref (E.1 17), .ref (E.1 18)])) := rfl
theorem g_11 : (Wd G E σ μ Y)[11]? = some (E.1 11, .inl (G.2 0, 6, .inl (σ 11))) := rfl
theorem g_12 : (Wd G E σ μ Y)[12]? = some (E.1 12, .inl (G.2 0, 6, .inl (σ 12))) := rfl
theorem g_13 : (Wd G E σ μ Y)[13]? = some (E.1 13, .inl (G.2 0, 6, .inl (σ 13))) := rfl
theorem g_14 : (Wd G E σ μ Y)[14]? = some (E.1 14, .inl (G.2 0, 6, .inl (σ 14))) := rfl
theorem g_15 : (Wd G E σ μ Y)[15]? = some (E.1 15, .inl (G.2 0, 6, .inl (σ 15))) := rfl
theorem g_16 : (Wd G E σ μ Y)[16]? = some (E.1 16, .inl (G.2 1, 6, .inl (σ 16))) := rfl
theorem g_17 : (Wd G E σ μ Y)[17]? = some (E.1 17, .inl (G.2 0, 6, .inl (σ 17))) := rfl
theorem g_18 : (Wd G E σ μ Y)[18]? = some (E.1 18, .inl (G.2 0, 6, .inl (σ 18))) := rfl
theorem g_19 : (Wd G E σ μ Y)[19]? = some (E.1 19, .inr (4, [.int (σ 19 0), .int (σ 19 1), .int (σ 19 2), .ref (E.1 20), .ref (E.1 21), .ref (E.1 22), .int (σ 19 3), .ref (E.1 23)])) := rfl
theorem g_20 : (Wd G E σ μ Y)[20]? = some (E.1 20, .inl (G.2 0, 14, .inl (σ 20))) := rfl
theorem g_21 : (Wd G E σ μ Y)[21]? = some (E.1 21, .inl (G.2 0, 14, .inl (σ 21))) := rfl
theorem g_22 : (Wd G E σ μ Y)[22]? = some (E.1 22, .inl (G.2 0, 14, .inl (σ 22))) := rfl
theorem g_23 : (Wd G E σ μ Y)[23]? = some (E.1 23, .inl (G.2 0, 40, .inl (σ 23))) := rfl
theorem g_24 : (Wd G E σ μ Y)[24]? = some (E.1 24, .inr (9, [.ref (E.1 25), .ref (E.1 26), .int (μ 24 0), .int (μ 24 1), .ref (E.1 27), .int (μ 24 2), .int (μ 24 3), .int (μ 24 4), .int (μ 24 5), .ref (E.1 28), .int (μ 24 6), .ref (E.1 29), .ref (E.1 30), .ref (E.1 31), .ref (E.1 32), .int (μ 24 7), .int (μ 24 8), .int (μ 24 9)])) := rfl
theorem g_25 : (Wd G E σ μ Y)[25]? = some (E.1 25, .inl (G.2 0, 1700, .inl (μ 25))) := rfl
theorem g_26 : (Wd G E σ μ Y)[26]? = some (E.1 26, .inl (G.2 0, 1700, .inl (μ 26))) := rfl
theorem g_27 : (Wd G E σ μ Y)[27]? = some (E.1 27, .inl (G.2 0, 40, .inl (μ 27))) := rfl
theorem g_28 : (Wd G E σ μ Y)[28]? = some (E.1 28, .inl (G.2 0, 60, .inl (μ 28))) := rfl
theorem g_29 : (Wd G E σ μ Y)[29]? = some (E.1 29, .inl (G.2 0, 12, .inl (μ 29))) := rfl
theorem g_30 : (Wd G E σ μ Y)[30]? = some (E.1 30, .inl (G.2 0, 12, .inl (μ 30))) := rfl
theorem g_31 : (Wd G E σ μ Y)[31]? = some (E.1 31, .inl (G.2 0, 12, .inl (μ 31))) := rfl
theorem g_32 : (Wd G E σ μ Y)[32]? = some (E.1 32, .inl (G.2 1, 12, .inl (μ 32))) := rfl
theorem g_33 : (Wd G E σ μ Y)[33]? = some (E.1 33, .inl (G.2 3, 1, .inr (.inl (fun _ => E.2.2.2.2.1)))) := rfl
theorem g_34 : (Wd G E σ μ Y)[34]? = some (E.1 34, .inl (G.2 4, 1, .inr (.inr (.inr (.inl (fun _ => E.2.2.2.2.2)))))) := rfl
theorem p_2_0 (v : Int32) : (Wd G E σ μ Y).set 2 (E.1 2, .inr (1, [.int (σ 2 0), .int (σ 2 1), .int (σ 2 2), .int (σ 2 3), .int (σ 2 4), .int (σ 2 5), .int (σ 2 6), .int (σ 2 7), .int (σ 2 8), .int (σ 2 9), .int (σ 2 10), .ref (E.1 3), .ref (E.1 4)].set 0 (.int v))) = Wd G E (s2 σ 2 0 v) μ Y := rfl
theorem p_2_1 (v : Int32) : (Wd G E σ μ Y).set 2 (E.1 2, .inr (1, [.int (σ 2 0), .int (σ 2 1), .int (σ 2 2), .int (σ 2 3), .int (σ 2 4), .int (σ 2 5), .int (σ 2 6), .int (σ 2 7), .int (σ 2 8), .int (σ 2 9), .int (σ 2 10), .ref (E.1 3), .ref (E.1 4)].set 1 (.int v))) = Wd G E (s2 σ 2 1 v) μ Y := rfl
theorem p_2_2 (v : Int32) : (Wd G E σ μ Y).set 2 (E.1 2, .inr (1, [.int (σ 2 0), .int (σ 2 1), .int (σ 2 2), .int (σ 2 3), .int (σ 2 4), .int (σ 2 5), .int (σ 2 6), .int (σ 2 7), .int (σ 2 8), .int (σ 2 9), .int (σ 2 10), .ref (E.1 3), .ref (E.1 4)].set 2 (.int v))) = Wd G E (s2 σ 2 2 v) μ Y := rfl
theorem p_2_3 (v : Int32) : (Wd G E σ μ Y).set 2 (E.1 2, .inr (1, [.int (σ 2 0), .int (σ 2 1), .int (σ 2 2), .int (σ 2 3), .int (σ 2 4), .int (σ 2 5), .int (σ 2 6), .int (σ 2 7), .int (σ 2 8), .int (σ 2 9), .int (σ 2 10), .ref (E.1 3), .ref (E.1 4)].set 3 (.int v))) = Wd G E (s2 σ 2 3 v) μ Y := rfl
theorem p_2_4 (v : Int32) : (Wd G E σ μ Y).set 2 (E.1 2, .inr (1, [.int (σ 2 0), .int (σ 2 1), .int (σ 2 2), .int (σ 2 3), .int (σ 2 4), .int (σ 2 5), .int (σ 2 6), .int (σ 2 7), .int (σ 2 8), .int (σ 2 9), .int (σ 2 10), .ref (E.1 3), .ref (E.1 4)].set 4 (.int v))) = Wd G E (s2 σ 2 4 v) μ Y := rfl
theorem p_2_5 (v : Int32) : (Wd G E σ μ Y).set 2 (E.1 2, .inr (1, [.int (σ 2 0), .int (σ 2 1), .int (σ 2 2), .int (σ 2 3), .int (σ 2 4), .int (σ 2 5), .int (σ 2 6), .int (σ 2 7), .int (σ 2 8), .int (σ 2 9), .int (σ 2 10), .ref (E.1 3), .ref (E.1 4)].set 5 (.int v))) = Wd G E (s2 σ 2 5 v) μ Y := rfl
theorem p_2_6 (v : Int32) : (Wd G E σ μ Y).set 2 (E.1 2, .inr (1, [.int (σ 2 0), .int (σ 2 1), .int (σ 2 2), .int (σ 2 3), .int (σ 2 4), .int (σ 2 5), .int (σ 2 6), .int (σ 2 7), .int (σ 2 8), .int (σ 2 9), .int (σ 2 10), .ref (E.1 3), .ref (E.1 4)].set 6 (.int v))) = Wd G E (s2 σ 2 6 v) μ Y := rfl
theorem p_2_7 (v : Int32) : (Wd G E σ μ Y).set 2 (E.1 2, .inr (1, [.int (σ 2 0), .int (σ 2 1), .int (σ 2 2), .int (σ 2 3), .int (σ 2 4), .int (σ 2 5), .int (σ 2 6), .int (σ 2 7), .int (σ 2 8), .int (σ 2 9), .int (σ 2 10), .ref (E.1 3), .ref (E.1 4)].set 7 (.int v))) = Wd G E (s2 σ 2 7 v) μ Y := rfl
theorem p_2_8 (v : Int32) : (Wd G E σ μ Y).set 2 (E.1 2, .inr (1, [.int (σ 2 0), .int (σ 2 1), .int (σ 2 2), .int (σ 2 3), .int (σ 2 4), .int (σ 2 5), .int (σ 2 6), .int (σ 2 7), .int (σ 2 8), .int (σ 2 9), .int (σ 2 10), .ref (E.1 3), .ref (E.1 4)].set 8 (.int v))) = Wd G E (s2 σ 2 8 v) μ Y := rfl
theorem p_2_9 (v : Int32) : (Wd G E σ μ Y).set 2 (E.1 2, .inr (1, [.int (σ 2 0), .int (σ 2 1), .int (σ 2 2), .int (σ 2 3), .int (σ 2 4), .int (σ 2 5), .int (σ 2 6), .int (σ 2 7), .int (σ 2 8), .int (σ 2 9), .int (σ 2 10), .ref (E.1 3), .ref (E.1 4)].set 9 (.int v))) = Wd G E (s2 σ 2 9 v) μ Y := rfl
theorem p_2_10 (v : Int32) : (Wd G E σ μ Y).set 2 (E.1 2, .inr (1, [.int (σ 2 0), .int (σ 2 1), .int (σ 2 2), .int (σ 2 3), .int (σ 2 4), .int (σ 2 5), .int (σ 2 6), .int (σ 2 7), .int (σ 2 8), .int (σ 2 9), .int (σ 2 10), .ref (E.1 3), .ref (E.1 4)].set 10 (.int v))) = Wd G E (s2 σ 2 10 v) μ Y := rfl
theorem p_3 (i : Nat) (v : Int32) : (Wd G E σ μ Y).set 3 (E.1 3, .inl (G.2 0, 4, .inl (upd (σ 3) i v))) = Wd G E (s2 σ 3 i v) μ Y := rfl
theorem p_4 (i : Nat) (v : Int32) : (Wd G E σ μ Y).set 4 (E.1 4, .inl (G.2 0, 576, .inl (upd (σ 4) i v))) = Wd G E (s2 σ 4 i v) μ Y := rfl
theorem p_5_0 (v : Int32) : (Wd G E σ μ Y).set 5 (E.1 5, .inr (5, [.int (σ 5 0), .int (σ 5 1), .ref (E.1 6)].set 0 (.int v))) = Wd G E (s2 σ 5 0 v) μ Y := rfl
theorem p_5_1 (v : Int32) : (Wd G E σ μ Y).set 5 (E.1 5, .inr (5, [.int (σ 5 0), .int (σ 5 1), .ref (E.1 6)].set 1 (.int v))) = Wd G E (s2 σ 5 1 v) μ Y := rfl
theorem p_7_0 (v : Int32) : (Wd G E σ μ Y).set 7 (E.1 7, .inr (6, [.int (σ 7 0), .int (σ 7 1), .int (σ 7 2), .int (σ 7 3)].set 0 (.int v))) = Wd G E (s2 σ 7 0 v) μ Y := rfl
theorem p_7_1 (v : Int32) : (Wd G E σ μ Y).set 7 (E.1 7, .inr (6, [.int (σ 7 0), .int (σ 7 1), .int (σ 7 2), .int (σ 7 3)].set 1 (.int v))) = Wd G E (s2 σ 7 1 v) μ Y := rfl
theorem p_7_2 (v : Int32) : (Wd G E σ μ Y).set 7 (E.1 7, .inr (6, [.int (σ 7 0), .int (σ 7 1), .int (σ 7 2), .int (σ 7 3)].set 2 (.int v))) = Wd G E (s2 σ 7 2 v) μ Y := rfl
theorem p_7_3 (v : Int32) : (Wd G E σ μ Y).set 7 (E.1 7, .inr (6, [.int (σ 7 0), .int (σ 7 1), .int (σ 7 2), .int (σ 7 3)].set 3 (.int v))) = Wd G E (s2 σ 7 3 v) μ Y := rfl
theorem p_8_0 (v : Int32) : (Wd G E σ μ Y).set 8 (E.1 8, .inr (0, [.int (σ 8 0), .int (σ 8 1), .ref (E.1 9)].set 0 (.int v))) = Wd G E (s2 σ 8 0 v) μ Y := rfl
theorem p_8_1 (v : Int32) : (Wd G E σ μ Y).set 8 (E.1 8, .inr (0, [.int (σ 8 0), .int (σ 8 1), .ref (E.1 9)].set 1 (.int v))) = Wd G E (s2 σ 8 1 v) μ Y := rfl
theorem p_9 (i : Nat) (v : Int32) : (Wd G E σ μ Y).set 9 (E.1 9, .inl (G.2 0, 8, .inl (upd (σ 9) i v))) = Wd G E (s2 σ 9 i v) μ Y := rfl
theorem p_10_0 (v : Int32) : (Wd G E σ μ Y).set 10 (E.1 10, .inr (2, [.int (σ 10 0), .int (σ 10 1), .ref (E.1 11), .ref (E.1 12), .ref (E.1 13), .ref (E.1 14), .ref (E.1 15), .ref (E.1 16), .ref (E.1 17), .ref (E.1 18)].set 0 (.int v))) = Wd G E (s2 σ 10 0 v) μ Y := rfl
theorem p_10_1 (v : Int32) : (Wd G E σ μ Y).set 10 (E.1 10, .inr (2, [.int (σ 10 0), .int (σ 10 1), .ref (E.1 11), .ref (E.1 12), .ref (E.1 13), .ref (E.1 14), .ref (E.1 15), .ref (E.1 16), .ref (E.1 17), .ref (E.1 18)].set 1 (.int v))) = Wd G E (s2 σ 10 1 v) μ Y := rfl
theorem p_11 (i : Nat) (v : Int32) : (Wd G E σ μ Y).set 11 (E.1 11, .inl (G.2 0, 6, .inl (upd (σ 11) i v))) = Wd G E (s2 σ 11 i v) μ Y := rfl
theorem p_12 (i : Nat) (v : Int32) : (Wd G E σ μ Y).set 12 (E.1 12, .inl (G.2 0, 6, .inl (upd (σ 12) i v))) = Wd G E (s2 σ 12 i v) μ Y := rfl
theorem p_13 (i : Nat) (v : Int32) : (Wd G E σ μ Y).set 13 (E.1 13, .inl (G.2 0, 6, .inl (upd (σ 13) i v))) = Wd G E (s2 σ 13 i v) μ Y := rfl
theorem p_14 (i : Nat) (v : Int32) : (Wd G E σ μ Y).set 14 (E.1 14, .inl (G.2 0, 6, .inl (upd (σ 14) i v))) = Wd G E (s2 σ 14 i v) μ Y := rfl
theorem p_15 (i : Nat) (v : Int32) : (Wd G E σ μ Y).set 15 (E.1 15, .inl (G.2 0, 6, .inl (upd (σ 15) i v))) = Wd G E (s2 σ 15 i v) μ Y := rfl
theorem p_16 (i : Nat) (v : Int32) : (Wd G E σ μ Y).set 16 (E.1 16, .inl (G.2 1, 6, .inl (upd (σ 16) i v))) = Wd G E (s2 σ 16 i v) μ Y := rfl
theorem p_17 (i : Nat) (v : Int32) : (Wd G E σ μ Y).set 17 (E.1 17, .inl (G.2 0, 6, .inl (upd (σ 17) i v))) = Wd G E (s2 σ 17 i v) μ Y := rfl
theorem p_18 (i : Nat) (v : Int32) : (Wd G E σ μ Y).set 18 (E.1 18, .inl (G.2 0, 6, .inl (upd (σ 18) i v))) = Wd G E (s2 σ 18 i v) μ Y := rfl
theorem p_19_0 (v : Int32) : (Wd G E σ μ Y).set 19 (E.1 19, .inr (4, [.int (σ 19 0), .int (σ 19 1), .int (σ 19 2), .ref (E.1 20), .ref (E.1 21), .ref (E.1 22), .int (σ 19 3), .ref (E.1 23)].set 0 (.int v))) = Wd G E (s2 σ 19 0 v) μ Y := rfl
theorem p_19_1 (v : Int32) : (Wd G E σ μ Y).set 19 (E.1 19, .inr (4, [.int (σ 19 0), .int (σ 19 1), .int (σ 19 2), .ref (E.1 20), .ref (E.1 21), .ref (E.1 22), .int (σ 19 3), .ref (E.1 23)].set 1 (.int v))) = Wd G E (s2 σ 19 1 v) μ Y := rfl
theorem p_19_2 (v : Int32) : (Wd G E σ μ Y).set 19 (E.1 19, .inr (4, [.int (σ 19 0), .int (σ 19 1), .int (σ 19 2), .ref (E.1 20), .ref (E.1 21), .ref (E.1 22), .int (σ 19 3), .ref (E.1 23)].set 2 (.int v))) = Wd G E (s2 σ 19 2 v) μ Y := rfl
theorem p_19_6 (v : Int32) : (Wd G E σ μ Y).set 19 (E.1 19, .inr (4, [.int (σ 19 0), .int (σ 19 1), .int (σ 19 2), .ref (E.1 20), .ref (E.1 21), .ref (E.1 22), .int (σ 19 3), .ref (E.1 23)].set 6 (.int v))) = Wd G E (s2 σ 19 3 v) μ Y := rfl
theorem p_20 (i : Nat) (v : Int32) : (Wd G E σ μ Y).set 20 (E.1 20, .inl (G.2 0, 14, .inl (upd (σ 20) i v))) = Wd G E (s2 σ 20 i v) μ Y := rfl
theorem p_21 (i : Nat) (v : Int32) : (Wd G E σ μ Y).set 21 (E.1 21, .inl (G.2 0, 14, .inl (upd (σ 21) i v))) = Wd G E (s2 σ 21 i v) μ Y := rfl
theorem p_22 (i : Nat) (v : Int32) : (Wd G E σ μ Y).set 22 (E.1 22, .inl (G.2 0, 14, .inl (upd (σ 22) i v))) = Wd G E (s2 σ 22 i v) μ Y := rfl
theorem p_23 (i : Nat) (v : Int32) : (Wd G E σ μ Y).set 23 (E.1 23, .inl (G.2 0, 40, .inl (upd (σ 23) i v))) = Wd G E (s2 σ 23 i v) μ Y := rfl
theorem p_24_2 (v : Int32) : (Wd G E σ μ Y).set 24 (E.1 24, .inr (9, [.ref (E.1 25), .ref (E.1 26), .int (μ 24 0), .int (μ 24 1), .ref (E.1 27), .int (μ 24 2), .int (μ 24 3), .int (μ 24 4), .int (μ 24 5), .ref (E.1 28), .int (μ 24 6), .ref (E.1 29), .ref (E.1 30), .ref (E.1 31), .ref (E.1 32), .int (μ 24 7), .int (μ 24 8), .int (μ 24 9)].set 2 (.int v))) = Wd G E σ (s2 μ 24 0 v) Y := rfl
theorem p_24_3 (v : Int32) : (Wd G E σ μ Y).set 24 (E.1 24, .inr (9, [.ref (E.1 25), .ref (E.1 26), .int (μ 24 0), .int (μ 24 1), .ref (E.1 27), .int (μ 24 2), .int (μ 24 3), .int (μ 24 4), .int (μ 24 5), .ref (E.1 28), .int (μ 24 6), .ref (E.1 29), .ref (E.1 30), .ref (E.1 31), .ref (E.1 32), .int (μ 24 7), .int (μ 24 8), .int (μ 24 9)].set 3 (.int v))) = Wd G E σ (s2 μ 24 1 v) Y := rfl
theorem p_24_5 (v : Int32) : (Wd G E σ μ Y).set 24 (E.1 24, .inr (9, [.ref (E.1 25), .ref (E.1 26), .int (μ 24 0), .int (μ 24 1), .ref (E.1 27), .int (μ 24 2), .int (μ 24 3), .int (μ 24 4), .int (μ 24 5), .ref (E.1 28), .int (μ 24 6), .ref (E.1 29), .ref (E.1 30), .ref (E.1 31), .ref (E.1 32), .int (μ 24 7), .int (μ 24 8), .int (μ 24 9)].set 5 (.int v))) = Wd G E σ (s2 μ 24 2 v) Y := rfl
theorem p_24_6 (v : Int32) : (Wd G E σ μ Y).set 24 (E.1 24, .inr (9, [.ref (E.1 25), .ref (E.1 26), .int (μ 24 0), .int (μ 24 1), .ref (E.1 27), .int (μ 24 2), .int (μ 24 3), .int (μ 24 4), .int (μ 24 5), .ref (E.1 28), .int (μ 24 6), .ref (E.1 29), .ref (E.1 30), .ref (E.1 31), .ref (E.1 32), .int (μ 24 7), .int (μ 24 8), .int (μ 24 9)].set 6 (.int v))) = Wd G E σ (s2 μ 24 3 v) Y := rfl
theorem p_24_7 (v : Int32) : (Wd G E σ μ Y).set 24 (E.1 24, .inr (9, [.ref (E.1 25), .ref (E.1 26), .int (μ 24 0), .int (μ 24 1), .ref (E.1 27), .int (μ 24 2), .int (μ 24 3), .int (μ 24 4), .int (μ 24 5), .ref (E.1 28), .int (μ 24 6), .ref (E.1 29), .ref (E.1 30), .ref (E.1 31), .ref (E.1 32), .int (μ 24 7), .int (μ 24 8), .int (μ 24 9)].set 7 (.int v))) = Wd G E σ (s2 μ 24 4 v) Y := rfl
theorem p_24_8 (v : Int32) : (Wd G E σ μ Y).set 24 (E.1 24, .inr (9, [.ref (E.1 25), .ref (E.1 26), .int (μ 24 0), .int (μ 24 1), .ref (E.1 27), .int (μ 24 2), .int (μ 24 3), .int (μ 24 4), .int (μ 24 5), .ref (E.1 28), .int (μ 24 6), .ref (E.1 29), .ref (E.1 30), .ref (E.1 31), .ref (E.1 32), .int (μ 24 7), .int (μ 24 8), .int (μ 24 9)].set 8 (.int v))) = Wd G E σ (s2 μ 24 5 v) Y := rfl
theorem p_24_10 (v : Int32) : (Wd G E σ μ Y).set 24 (E.1 24, .inr (9, [.ref (E.1 25), .ref (E.1 26), .int (μ 24 0), .int (μ 24 1), .ref (E.1 27), .int (μ 24 2), .int (μ 24 3), .int (μ 24 4), .int (μ 24 5), .ref (E.1 28), .int (μ 24 6), .ref (E.1 29), .ref (E.1 30), .ref (E.1 31), .ref (E.1 32), .int (μ 24 7), .int (μ 24 8), .int (μ 24 9)].set 10 (.int v))) = Wd G E σ (s2 μ 24 6 v) Y := rfl
theorem p_24_15 (v : Int32) : (Wd G E σ μ Y).set 24 (E.1 24, .inr (9, [.ref (E.1 25), .ref (E.1 26), .int (μ 24 0), .int (μ 24 1), .ref (E.1 27), .int (μ 24 2), .int (μ 24 3), .int (μ 24 4), .int (μ 24 5), .ref (E.1 28), .int (μ 24 6), .ref (E.1 29), .ref (E.1 30), .ref (E.1 31), .ref (E.1 32), .int (μ 24 7), .int (μ 24 8), .int (μ 24 9)].set 15 (.int v))) = Wd G E σ (s2 μ 24 7 v) Y := rfl
theorem p_24_16 (v : Int32) : (Wd G E σ μ Y).set 24 (E.1 24, .inr (9, [.ref (E.1 25), .ref (E.1 26), .int (μ 24 0), .int (μ 24 1), .ref (E.1 27), .int (μ 24 2), .int (μ 24 3), .int (μ 24 4), .int (μ 24 5), .ref (E.1 28), .int (μ 24 6), .ref (E.1 29), .ref (E.1 30), .ref (E.1 31), .ref (E.1 32), .int (μ 24 7), .int (μ 24 8), .int (μ 24 9)].set 16 (.int v))) = Wd G E σ (s2 μ 24 8 v) Y := rfl
theorem p_24_17 (v : Int32) : (Wd G E σ μ Y).set 24 (E.1 24, .inr (9, [.ref (E.1 25), .ref (E.1 26), .int (μ 24 0), .int (μ 24 1), .ref (E.1 27), .int (μ 24 2), .int (μ 24 3), .int (μ 24 4), .int (μ 24 5), .ref (E.1 28), .int (μ 24 6), .ref (E.1 29), .ref (E.1 30), .ref (E.1 31), .ref (E.1 32), .int (μ 24 7), .int (μ 24 8), .int (μ 24 9)].set 17 (.int v))) = Wd G E σ (s2 μ 24 9 v) Y := rfl
theorem p_25 (i : Nat) (v : Int32) : (Wd G E σ μ Y).set 25 (E.1 25, .inl (G.2 0, 1700, .inl (upd (μ 25) i v))) = Wd G E σ (s2 μ 25 i v) Y := rfl
theorem p_26 (i : Nat) (v : Int32) : (Wd G E σ μ Y).set 26 (E.1 26, .inl (G.2 0, 1700, .inl (upd (μ 26) i v))) = Wd G E σ (s2 μ 26 i v) Y := rfl
theorem p_27 (i : Nat) (v : Int32) : (Wd G E σ μ Y).set 27 (E.1 27, .inl (G.2 0, 40, .inl (upd (μ 27) i v))) = Wd G E σ (s2 μ 27 i v) Y := rfl
theorem p_28 (i : Nat) (v : Int32) : (Wd G E σ μ Y).set 28 (E.1 28, .inl (G.2 0, 60, .inl (upd (μ 28) i v))) = Wd G E σ (s2 μ 28 i v) Y := rfl
theorem p_29 (i : Nat) (v : Int32) : (Wd G E σ μ Y).set 29 (E.1 29, .inl (G.2 0, 12, .inl (upd (μ 29) i v))) = Wd G E σ (s2 μ 29 i v) Y := rfl
theorem p_30 (i : Nat) (v : Int32) : (Wd G E σ μ Y).set 30 (E.1 30, .inl (G.2 0, 12, .inl (upd (μ 30) i v))) = Wd G E σ (s2 μ 30 i v) Y := rfl
theorem p_31 (i : Nat) (v : Int32) : (Wd G E σ μ Y).set 31 (E.1 31, .inl (G.2 0, 12, .inl (upd (μ 31) i v))) = Wd G E σ (s2 μ 31 i v) Y := rfl
theorem p_32 (i : Nat) (v : Int32) : (Wd G E σ μ Y).set 32 (E.1 32, .inl (G.2 1, 12, .inl (upd (μ 32) i v))) = Wd G E σ (s2 μ 32 i v) Y := rfl
theorem fxW_len : (fxW G E σ μ).length = 35 := rfl
theorem g_row {i : Nat} (h : i < E.2.2.1) : (Wd G E σ μ Y)[35 + i]? = some (E.2.1 i, .inr (3, rowC σ i)) := by
  have h1 : (rowsW E σ)[i]? = some (E.2.1 i, .inr (3, rowC σ i)) := by
    unfold rowsW
    rw [List.getElem?_map, List.getElem?_range h]; rfl
  unfold Wd
  rw [List.getElem?_append_right (by rw [fxW_len]; omega), List.getElem?_append_left (by rw [fxW_len]; simp [rowsW]; omega), fxW_len, show 35 + i - 35 = i by omega]
  exact h1
theorem rows_set {i : Nat} (h : i < E.2.2.1) {σ' : Sg} (e : va_E) (he : e = .inr (3, rowC σ' i)) (hn : ∀ j, j ≠ i → rowC σ' j = rowC σ j) : (rowsW E σ).set i (E.2.1 i, e) = rowsW E σ' := by
  subst he
  apply List.ext_getElem?
  intro j
  by_cases hj : j = i
  · subst hj
    rw [List.getElem?_set_self (by simp [rowsW]; omega)]
    unfold rowsW
    rw [List.getElem?_map, List.getElem?_range h]; rfl
  · rw [List.getElem?_set_ne (Ne.symm hj)]
    unfold rowsW
    rw [List.getElem?_map, List.getElem?_map]
    cases hr : (List.range E.2.2.1)[j]? with
    | none => rfl
    | some x =>
      have hx : x = j := by
        have := List.getElem?_eq_some_iff.mp hr
        obtain ⟨h1, h2⟩ := this
        simpa using h2.symm
      subst hx
      simp [hn x hj]
theorem p_row {i : Nat} (h : i < E.2.2.1) {σ' : Sg} (fs : List Value) (he : fs = rowC σ' i) (hn : ∀ j, j ≠ i → rowC σ' j = rowC σ j) (hp : fxW G E σ' μ = fxW G E σ μ) : (Wd G E σ μ Y).set (35 + i) (E.2.1 i, .inr (3, fs)) = Wd G E σ' μ Y := by
  have hs := rows_set (E := E) (σ := σ) h (.inr (3, fs)) (by rw [he]) hn
  unfold Wd
  rw [List.set_append_right _ _ (by rw [fxW_len]; omega), fxW_len, show 35 + i - 35 = i by omega, List.set_append_left _ _ (by simp [rowsW]; omega), hs, hp]
theorem p_row_1 {i : Nat} (h : i < E.2.2.1) (v : Int32) : (Wd G E σ μ Y).set (35 + i) (E.2.1 i, .inr (3, (rowC σ i).set 1 (.int v))) = Wd G E (s2 σ 40 i v) μ Y :=
  p_row h _ (by simp [rowC, s2, upd]) (fun j hj => by simp [rowC, s2, upd, hj]) rfl
theorem p_row_2 {i : Nat} (h : i < E.2.2.1) (v : Int32) : (Wd G E σ μ Y).set (35 + i) (E.2.1 i, .inr (3, (rowC σ i).set 2 (.int v))) = Wd G E (s2 σ 41 i v) μ Y :=
  p_row h _ (by simp [rowC, s2, upd]) (fun j hj => by simp [rowC, s2, upd, hj]) rfl
theorem p_row_3 {i : Nat} (h : i < E.2.2.1) (v : Int32) : (Wd G E σ μ Y).set (35 + i) (E.2.1 i, .inr (3, (rowC σ i).set 3 (.int v))) = Wd G E (s2 σ 42 i v) μ Y :=
  p_row h _ (by simp [rowC, s2, upd]) (fun j hj => by simp [rowC, s2, upd, hj]) rfl
theorem p_row_4 {i : Nat} (h : i < E.2.2.1) (v : Int32) : (Wd G E σ μ Y).set (35 + i) (E.2.1 i, .inr (3, (rowC σ i).set 4 (.int v))) = Wd G E (s2 σ 43 i v) μ Y :=
  p_row h _ (by simp [rowC, s2, upd]) (fun j hj => by simp [rowC, s2, upd, hj]) rfl
theorem p_row_5 {i : Nat} (h : i < E.2.2.1) (v : Int32) : (Wd G E σ μ Y).set (35 + i) (E.2.1 i, .inr (3, (rowC σ i).set 5 (.int v))) = Wd G E (s2 σ 44 i v) μ Y :=
  p_row h _ (by simp [rowC, s2, upd]) (fun j hj => by simp [rowC, s2, upd, hj]) rfl
end WG
