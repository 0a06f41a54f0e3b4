def apw (a : Nat) : Bool := a &&& (a - 1) == 0
set_option maxRecDepth 100000 in
theorem bc_apw : ∀ a, a < 4097 → (f_K_bitCount (lN a) = 1 ↔ (apw a = true ∧ 0 < a)) := by decide +kernel
