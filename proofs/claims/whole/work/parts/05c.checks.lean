/-! CHECKS of the tables, on -/
set_option maxRecDepth 100000 in
theorem xy_154 : ∀ k, k < 8 → xchkY (154 + k) = true := by decide +kernel
set_option maxRecDepth 100000 in
theorem xy_162 : ∀ k, k < 8 → xchkY (162 + k) = true := by decide +kernel
set_option maxRecDepth 100000 in
theorem xy_170 : ∀ k, k < 8 → xchkY (170 + k) = true := by decide +kernel
set_option maxRecDepth 100000 in
theorem xy_178 : ∀ k, k < 8 → xchkY (178 + k) = true := by decide +kernel
