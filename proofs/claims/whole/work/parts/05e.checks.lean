/-! CHECKS of the tables, on -/
set_option maxRecDepth 100000 in
theorem xy_210 : ∀ k, k < 8 → xchkY (210 + k) = true := by decide +kernel
set_option maxRecDepth 100000 in
theorem xy_218 : ∀ k, k < 8 → xchkY (218 + k) = true := by decide +kernel
set_option maxRecDepth 100000 in
theorem xy_226 : ∀ k, k < 8 → xchkY (226 + k) = true := by decide +kernel
set_option maxRecDepth 100000 in
theorem xy_234 : ∀ k, k < 8 → xchkY (234 + k) = true := by decide +kernel
set_option maxRecDepth 100000 in
theorem xy_242 : ∀ k, k < 4 → xchkY (242 + k) = true := by decide +kernel
set_option maxRecDepth 100000 in
theorem xy_246 : ∀ k, k < 2 → xchkY (246 + k) = true := by decide +kernel
set_option maxRecDepth 100000 in
theorem xy_248 : ∀ k, k < 2 → xchkY (248 + k) = true := by decide +kernel
set_option maxRecDepth 100000 in
theorem xy_250 : ∀ k, k < 2 → xchkY (250 + k) = true := by decide +kernel
