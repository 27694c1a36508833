/-! AT THE LAW'S ENTRY -/
theorem t_str : ∀ q ∈ strW, Cond.stringRef RX9 q.1 q.2 ∈ tables_1 := by decide +kernel
theorem t_nestM : ∀ q ∈ nestM, Cond.methodLinkNest q.1 q.2.1 q.2.2 RX9 ∈ tables_1 := by decide +kernel
theorem t_nestF : ∀ q ∈ nestF, Cond.fieldLinkNest RX2 q.1 RX9 q.2.1 "[I" RX9 ∈ tables_1 ∧ Cond.laysStatic RX9 q.2.1 "[I" ∈ tables_1 := by decide +kernel
theorem t_exC : ∀ X ∈ exC, Cond.castable X X ∈ tables_1 := by decide +kernel
theorem t_exD : ∀ y ∈ exD, Cond.declares y ∈ tables_1 := by decide +kernel
theorem t_ls : Cond.laysStatic Bundle.tN "UNASSIGNED_STACK" Bundle.steD ∈ tables_1 ∧ Cond.laysStatic Bundle.tN "SUPPRESSED_SENTINEL" Bundle.listD ∈ tables_1 ∧ Cond.initialized Bundle.tN ∈ tables_1 ∧ Cond.initialized RX9 ∈ tables_1 := by decide +kernel
theorem t_arr : Cond.arrayClass .int ∈ tables_1 ∧ Cond.arrayClass .boolean ∈ tables_1 ∧ Cond.arrayClass .long ∈ tables_1 ∧ Cond.arrayClass .double ∈ tables_1 ∧ Cond.arrayOver (.object RX4) ∈ tables_1 := by decide +kernel
theorem n_nc : ∀ q ∈ ncW, Cond.not (.castable q.1 q.2) ∈ flatC (Cond.and given_1 narrow_1) := by decide +kernel
theorem n_str : ∀ q ∈ strW, Cond.exactly (.string RX9 q.1) "java/lang/String" ∈ flatC (Cond.and given_1 narrow_1) := by decide +kernel
theorem n_ls : Cond.isRef (.static Bundle.tN "UNASSIGNED_STACK" Bundle.steD) ∈ flatC (Cond.and given_1 narrow_1) ∧ Cond.isRef (.static Bundle.tN "SUPPRESSED_SENTINEL" Bundle.listD) ∈ flatC (Cond.and given_1 narrow_1) := by decide +kernel
theorem n_nestF : ∀ q ∈ nestF, Cond.arrayOf (.static RX9 q.2.1 "[I") .int ∈ flatC (Cond.and given_1 narrow_1) ∧ Cond.eq (.length (.static RX9 q.2.1 "[I")) (.int (Int32.ofNat 4)) ∈ flatC (Cond.and given_1 narrow_1) ∧ ∀ j : Fin 4, Cond.eq (.elem (.static RX9 q.2.1 "[I") (.int (Int32.ofNat j.1))) (.int (q.2.2 j.1)) ∈ flatC (Cond.and given_1 narrow_1) := by decide +kernel
