/-! THE FLUSH -/
set_option maxRecDepth 100000 in
theorem geoM_ : ∀ c : Fin 64, ∀ p : Fin 576, (F_X2_cylinderOfPlace (nI p.1) < nI c.1) = (nI p.1 < F_X10_firstOf (nI c.1)) := by decide +kernel
theorem firstN_ : ∀ c : Fin 64, 0 ≤ (F_X10_firstOf (nI c.1)).toInt ∧ (F_X10_firstOf (nI c.1)).toInt ≤ 575 := by decide +kernel
