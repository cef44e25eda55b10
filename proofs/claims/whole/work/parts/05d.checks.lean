/-! CHECKS of the tables, on -/
set_option maxRecDepth 100000 in
theorem xy_186 : ∀ k, k < 8 → xchkY (186 + k) = true := by decide +kernel
set_option maxRecDepth 100000 in
theorem xy_194 : ∀ k, k < 8 → xchkY (194 + k) = true := by decide +kernel
set_option maxRecDepth 100000 in
theorem xy_202 : ∀ k, k < 8 → xchkY (202 + k) = true := by decide +kernel
