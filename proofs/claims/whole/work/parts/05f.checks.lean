/-! CHECKS of the tables, all -/
theorem xchkY_all {y : Nat} (h : y < 252) : xchkY y = true := by
  rcases Nat.lt_or_ge y 7 with q | q
  · have := xy_0 (y - 0) (by omega)
    rwa [Nat.add_sub_cancel' (by omega)] at this
  rcases Nat.lt_or_ge y 15 with q | q
  · have := xy_7 (y - 7) (by omega)
    rwa [Nat.add_sub_cancel' (by omega)] at this
  rcases Nat.lt_or_ge y 23 with q | q
  · have := xy_15 (y - 15) (by omega)
    rwa [Nat.add_sub_cancel' (by omega)] at this
  rcases Nat.lt_or_ge y 26 with q | q
  · have := xy_23 (y - 23) (by omega)
    rwa [Nat.add_sub_cancel' (by omega)] at this
  rcases Nat.lt_or_ge y 28 with q | q
  · have := xy_26 (y - 26) (by omega)
    rwa [Nat.add_sub_cancel' (by omega)] at this
  rcases Nat.lt_or_ge y 36 with q | q
  · have := xy_28 (y - 28) (by omega)
    rwa [Nat.add_sub_cancel' (by omega)] at this
  rcases Nat.lt_or_ge y 39 with q | q
  · have := xy_36 (y - 36) (by omega)
    rwa [Nat.add_sub_cancel' (by omega)] at this
  rcases Nat.lt_or_ge y 47 with q | q
  · have := xy_39 (y - 39) (by omega)
    rwa [Nat.add_sub_cancel' (by omega)] at this
  rcases Nat.lt_or_ge y 54 with q | q
  · have := xy_47 (y - 47) (by omega)
    rwa [Nat.add_sub_cancel' (by omega)] at this
  rcases Nat.lt_or_ge y 55 with q | q
  · have := xy_54 (y - 54) (by omega)
    rwa [Nat.add_sub_cancel' (by omega)] at this
  rcases Nat.lt_or_ge y 61 with q | q
  · have := xy_55 (y - 55) (by omega)
    rwa [Nat.add_sub_cancel' (by omega)] at this
  rcases Nat.lt_or_ge y 64 with q | q
  · have := xy_61 (y - 61) (by omega)
    rwa [Nat.add_sub_cancel' (by omega)] at this
  rcases Nat.lt_or_ge y 72 with q | q
  · have := xy_64 (y - 64) (by omega)
    rwa [Nat.add_sub_cancel' (by omega)] at this
  rcases Nat.lt_or_ge y 75 with q | q
  · have := xy_72 (y - 72) (by omega)
    rwa [Nat.add_sub_cancel' (by omega)] at this
  rcases Nat.lt_or_ge y 83 with q | q
  · have := xy_75 (y - 75) (by omega)
    rwa [Nat.add_sub_cancel' (by omega)] at this
  rcases Nat.lt_or_ge y 87 with q | q
  · have := xy_83 (y - 83) (by omega)
    rwa [Nat.add_sub_cancel' (by omega)] at this
  rcases Nat.lt_or_ge y 91 with q | q
  · have := xy_87 (y - 87) (by omega)
    rwa [Nat.add_sub_cancel' (by omega)] at this
  rcases Nat.lt_or_ge y 99 with q | q
  · have := xy_91 (y - 91) (by omega)
    rwa [Nat.add_sub_cancel' (by omega)] at this
  rcases Nat.lt_or_ge y 107 with q | q
  · have := xy_99 (y - 99) (by omega)
    rwa [Nat.add_sub_cancel' (by omega)] at this
  rcases Nat.lt_or_ge y 115 with q | q
  · have := xy_107 (y - 107) (by omega)
    rwa [Nat.add_sub_cancel' (by omega)] at this
  rcases Nat.lt_or_ge y 123 with q | q
  · have := xy_115 (y - 115) (by omega)
    rwa [Nat.add_sub_cancel' (by omega)] at this
  rcases Nat.lt_or_ge y 131 with q | q
  · have := xy_123 (y - 123) (by omega)
    rwa [Nat.add_sub_cancel' (by omega)] at this
  rcases Nat.lt_or_ge y 139 with q | q
  · have := xy_131 (y - 131) (by omega)
    rwa [Nat.add_sub_cancel' (by omega)] at this
  rcases Nat.lt_or_ge y 147 with q | q
  · have := xy_139 (y - 139) (by omega)
    rwa [Nat.add_sub_cancel' (by omega)] at this
  rcases Nat.lt_or_ge y 154 with q | q
  · have := xy_147 (y - 147) (by omega)
    rwa [Nat.add_sub_cancel' (by omega)] at this
  rcases Nat.lt_or_ge y 162 with q | q
  · have := xy_154 (y - 154) (by omega)
    rwa [Nat.add_sub_cancel' (by omega)] at this
  rcases Nat.lt_or_ge y 170 with q | q
  · have := xy_162 (y - 162) (by omega)
    rwa [Nat.add_sub_cancel' (by omega)] at this
  rcases Nat.lt_or_ge y 178 with q | q
  · have := xy_170 (y - 170) (by omega)
    rwa [Nat.add_sub_cancel' (by omega)] at this
  rcases Nat.lt_or_ge y 186 with q | q
  · have := xy_178 (y - 178) (by omega)
    rwa [Nat.add_sub_cancel' (by omega)] at this
  rcases Nat.lt_or_ge y 194 with q | q
  · have := xy_186 (y - 186) (by omega)
    rwa [Nat.add_sub_cancel' (by omega)] at this
  rcases Nat.lt_or_ge y 202 with q | q
  · have := xy_194 (y - 194) (by omega)
    rwa [Nat.add_sub_cancel' (by omega)] at this
  rcases Nat.lt_or_ge y 210 with q | q
  · have := xy_202 (y - 202) (by omega)
    rwa [Nat.add_sub_cancel' (by omega)] at this
  rcases Nat.lt_or_ge y 218 with q | q
  · have := xy_210 (y - 210) (by omega)
    rwa [Nat.add_sub_cancel' (by omega)] at this
  rcases Nat.lt_or_ge y 226 with q | q
  · have := xy_218 (y - 218) (by omega)
    rwa [Nat.add_sub_cancel' (by omega)] at this
  rcases Nat.lt_or_ge y 234 with q | q
  · have := xy_226 (y - 226) (by omega)
    rwa [Nat.add_sub_cancel' (by omega)] at this
  rcases Nat.lt_or_ge y 242 with q | q
  · have := xy_234 (y - 234) (by omega)
    rwa [Nat.add_sub_cancel' (by omega)] at this
  rcases Nat.lt_or_ge y 246 with q | q
  · have := xy_242 (y - 242) (by omega)
    rwa [Nat.add_sub_cancel' (by omega)] at this
  rcases Nat.lt_or_ge y 248 with q | q
  · have := xy_246 (y - 246) (by omega)
    rwa [Nat.add_sub_cancel' (by omega)] at this
  rcases Nat.lt_or_ge y 250 with q | q
  · have := xy_248 (y - 248) (by omega)
    rwa [Nat.add_sub_cancel' (by omega)] at this
  have := xy_250 (y - 250) (by omega)
  rwa [Nat.add_sub_cancel' (by omega)] at this
set_option maxRecDepth 100000 in
theorem xm_0 : (xMl 0).all (xchkM 0) = true := by decide +kernel
set_option maxRecDepth 100000 in
theorem xm_1 : (xMl 1).all (xchkM 1) = true := by decide +kernel
set_option maxRecDepth 100000 in
theorem xm_2 : (xMl 2).all (xchkM 2) = true := by decide +kernel
set_option maxRecDepth 100000 in
theorem xm_3 : (xMl 3).all (xchkM 3) = true := by decide +kernel
set_option maxRecDepth 100000 in
theorem xm_4 : (xMl 4).all (xchkM 4) = true := by decide +kernel
set_option maxRecDepth 100000 in
theorem xm_5 : (xMl 5).all (xchkM 5) = true := by decide +kernel
set_option maxRecDepth 100000 in
theorem xm_6 : (xMl 6).all (xchkM 6) = true := by decide +kernel
set_option maxRecDepth 100000 in
theorem xm_7 : (xMl 7).all (xchkM 7) = true := by decide +kernel
set_option maxRecDepth 100000 in
theorem xm_8 : (xMl 8).all (xchkM 8) = true := by decide +kernel
set_option maxRecDepth 100000 in
theorem xm_9 : (xMl 9).all (xchkM 9) = true := by decide +kernel
set_option maxRecDepth 100000 in
theorem xm_10 : (xMl 10).all (xchkM 10) = true := by decide +kernel
set_option maxRecDepth 100000 in
theorem xm_11 : (xMl 11).all (xchkM 11) = true := by decide +kernel
set_option maxRecDepth 100000 in
theorem xm_12 : (xMl 12).all (xchkM 12) = true := by decide +kernel
set_option maxRecDepth 100000 in
theorem xm_13 : (xMl 13).all (xchkM 13) = true := by decide +kernel
set_option maxRecDepth 100000 in
theorem xm_14 : (xMl 14).all (xchkM 14) = true := by decide +kernel
set_option maxRecDepth 100000 in
theorem xm_15 : (xMl 15).all (xchkM 15) = true := by decide +kernel
set_option maxRecDepth 100000 in
theorem xm_16 : (xMl 16).all (xchkM 16) = true := by decide +kernel
set_option maxRecDepth 100000 in
theorem xm_17 : (xMl 17).all (xchkM 17) = true := by decide +kernel
theorem xchkM_all {c : Nat} (h : c < 18) : (xMl c).all (xchkM c) = true := by
  match c, h with
  | 0, _ => exact xm_0
  | 1, _ => exact xm_1
  | 2, _ => exact xm_2
  | 3, _ => exact xm_3
  | 4, _ => exact xm_4
  | 5, _ => exact xm_5
  | 6, _ => exact xm_6
  | 7, _ => exact xm_7
  | 8, _ => exact xm_8
  | 9, _ => exact xm_9
  | 10, _ => exact xm_10
  | 11, _ => exact xm_11
  | 12, _ => exact xm_12
  | 13, _ => exact xm_13
  | 14, _ => exact xm_14
  | 15, _ => exact xm_15
  | 16, _ => exact xm_16
  | 17, _ => exact xm_17
  | k + 18, h => exact absurd h (by omega)
