/-! CHECKS of the tables, on -/
set_option maxRecDepth 100000 in
theorem xy_91 : ∀ k, k < 8 → xchkY (91 + k) = true := by decide +kernel
set_option maxRecDepth 100000 in
theorem xy_99 : ∀ k, k < 8 → xchkY (99 + k) = true := by decide +kernel
set_option maxRecDepth 100000 in
theorem xy_107 : ∀ k, k < 8 → xchkY (107 + k) = true := by decide +kernel
set_option maxRecDepth 100000 in
theorem xy_115 : ∀ k, k < 8 → xchkY (115 + k) = true := by decide +kernel
set_option maxRecDepth 100000 in
theorem xy_123 : ∀ k, k < 8 → xchkY (123 + k) = true := by decide +kernel
set_option maxRecDepth 100000 in
theorem xy_131 : ∀ k, k < 8 → xchkY (131 + k) = true := by decide +kernel
set_option maxRecDepth 100000 in
theorem xy_139 : ∀ k, k < 8 → xchkY (139 + k) = true := by decide +kernel
set_option maxRecDepth 100000 in
theorem xy_147 : ∀ k, k < 7 → xchkY (147 + k) = true := by decide +kernel
