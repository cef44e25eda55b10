/-! THE REFERENCE's methods, 3: kinds, views, amounts -/
theorem i32_ne {k c : Int32} (h : ¬ k = c) : k.toInt ≠ c.toInt := fun e => h (Int32.toInt_inj.mp e)
theorem sw16 {k : Int32} (h1 : ¬ k = 1) (h2 : ¬ k = 2) (h3 : ¬ k = 3) (h4 : ¬ k = 4) (h5 : ¬ k = 5) (h6 : ¬ k = 6) : k.toInt < 1 ∨ 6 < k.toInt := by
  have a1 := i32_ne h1
  have a2 := i32_ne h2
  have a3 := i32_ne h3
  have a4 := i32_ne h4
  have a5 := i32_ne h5
  have a6 := i32_ne h6
  simp at a1 a2 a3 a4 a5 a6
  omega
theorem sw09 {k : Int32} (h0 : ¬ k = 0) (h1 : ¬ k = 1) (h2 : ¬ k = 2) (h3 : ¬ k = 3) (h4 : ¬ k = 4) (h5 : ¬ k = 5) (h6 : ¬ k = 6) (h7 : ¬ k = 7) (h8 : ¬ k = 8) (h9 : ¬ k = 9) : k.toInt < 0 ∨ 9 < k.toInt := by
  have a0 := i32_ne h0
  have a1 := i32_ne h1
  have a2 := i32_ne h2
  have a3 := i32_ne h3
  have a4 := i32_ne h4
  have a5 := i32_ne h5
  have a6 := i32_ne h6
  have a7 := i32_ne h7
  have a8 := i32_ne h8
  have a9 := i32_ne h9
  simp at a0 a1 a2 a3 a4 a5 a6 a7 a8 a9
  omega
theorem lcmp_eq0 (x y : Int64) : (lg_cmp x y = 0) = (x = y) := by
  unfold lg_cmp
  apply propext
  constructor
  · intro h
    split at h
    · exact absurd h (by decide)
    · split at h
      · assumption
      · exact absurd h (by decide)
  · intro h
    subst h
    rw [if_neg (by simp), if_pos rfl]
/-- whether a kind may be viewed as another one -/
def pMay (k a : Int32) : Bool := if k = a then mWithin k.toInt 0 7 else if k = 1 then mWithin a.toInt 3 7 else if k = 2 then mWithin a.toInt 4 7 else if k = 3 then mWithin a.toInt 4 7 else if k = 4 then mWithin a.toInt 5 7 else if k = 5 then mWithin a.toInt 6 7 else if k = 6 then decide (a = 7) else false
section M3
variable {g : xG} {n kc ks mu s w q : Nat} {S : MS} {h : xH} {i j k a : Int32} {u v : Int64} {d : UInt64} {f : UInt32}
theorem c158 : X g 158 0 [.val (.int k), .val (.int a)] [] h = some (some (.int (xb (pMay k a))), h) := by
  unfold pMay
  by_cases e : k = a
  · rw [if_pos e]
    simp only [x158_0, x158_1, x158_2, x158_5, x158_6, x158_7, x158_8, x158_11, x158_14, x158_15, x158_16_v1, x158_16_v2, x158_16_v3, x158_16_v4, x158_16_v5, x158_16_v6, x158_16_d, x158_56, x158_57, x158_58, x158_61, x158_64, x158_67, x158_68, x158_69, x158_70, x158_73, x158_76, x158_79, x158_80, x158_81, x158_82, x158_85, x158_88, x158_91, x158_92, x158_93, x158_94, x158_97, x158_100, x158_103, x158_104, x158_105, x158_107, x158_110, x158_111, x158_114, x158_115, x158_116, x158_117, c154, i32_64, e, not_true_eq_false, if_false, Option.bind_some, Option.toList_some, Option.toList_none, List.cons_append, List.nil_append, Option.isSome_some, if_true, eq_self, or_true, true_or, xb_01, mcl_cl]
    rfl
  · rw [if_neg e]
    by_cases h1 : k = 1
    · subst h1
      simp only [x158_0, x158_1, x158_2, x158_5, x158_6, x158_7, x158_8, x158_11, x158_14, x158_15, x158_16_v1, x158_16_v2, x158_16_v3, x158_16_v4, x158_16_v5, x158_16_v6, x158_16_d, x158_56, x158_57, x158_58, x158_61, x158_64, x158_67, x158_68, x158_69, x158_70, x158_73, x158_76, x158_79, x158_80, x158_81, x158_82, x158_85, x158_88, x158_91, x158_92, x158_93, x158_94, x158_97, x158_100, x158_103, x158_104, x158_105, x158_107, x158_110, x158_111, x158_114, x158_115, x158_116, x158_117, c154, i32_64, e, not_false_eq_true, Option.bind_some, Option.toList_some, Option.toList_none, List.cons_append, List.nil_append, Option.isSome_some, if_true, eq_self, or_true, true_or, xb_01, mcl_cl]
      rfl
    by_cases h2 : k = 2
    · subst h2
      simp only [x158_0, x158_1, x158_2, x158_5, x158_6, x158_7, x158_8, x158_11, x158_14, x158_15, x158_16_v1, x158_16_v2, x158_16_v3, x158_16_v4, x158_16_v5, x158_16_v6, x158_16_d, x158_56, x158_57, x158_58, x158_61, x158_64, x158_67, x158_68, x158_69, x158_70, x158_73, x158_76, x158_79, x158_80, x158_81, x158_82, x158_85, x158_88, x158_91, x158_92, x158_93, x158_94, x158_97, x158_100, x158_103, x158_104, x158_105, x158_107, x158_110, x158_111, x158_114, x158_115, x158_116, x158_117, c154, i32_64, e, not_false_eq_true, if_false, h1, Option.bind_some, Option.toList_some, Option.toList_none, List.cons_append, List.nil_append, Option.isSome_some, if_true, eq_self, or_true, true_or, xb_01, mcl_cl]
      rfl
    by_cases h3 : k = 3
    · subst h3
      simp only [x158_0, x158_1, x158_2, x158_5, x158_6, x158_7, x158_8, x158_11, x158_14, x158_15, x158_16_v1, x158_16_v2, x158_16_v3, x158_16_v4, x158_16_v5, x158_16_v6, x158_16_d, x158_56, x158_57, x158_58, x158_61, x158_64, x158_67, x158_68, x158_69, x158_70, x158_73, x158_76, x158_79, x158_80, x158_81, x158_82, x158_85, x158_88, x158_91, x158_92, x158_93, x158_94, x158_97, x158_100, x158_103, x158_104, x158_105, x158_107, x158_110, x158_111, x158_114, x158_115, x158_116, x158_117, c154, i32_64, e, not_false_eq_true, if_false, h1, h2, Option.bind_some, Option.toList_some, Option.toList_none, List.cons_append, List.nil_append, Option.isSome_some, if_true, eq_self, or_true, true_or, xb_01, mcl_cl]
      rfl
    by_cases h4 : k = 4
    · subst h4
      simp only [x158_0, x158_1, x158_2, x158_5, x158_6, x158_7, x158_8, x158_11, x158_14, x158_15, x158_16_v1, x158_16_v2, x158_16_v3, x158_16_v4, x158_16_v5, x158_16_v6, x158_16_d, x158_56, x158_57, x158_58, x158_61, x158_64, x158_67, x158_68, x158_69, x158_70, x158_73, x158_76, x158_79, x158_80, x158_81, x158_82, x158_85, x158_88, x158_91, x158_92, x158_93, x158_94, x158_97, x158_100, x158_103, x158_104, x158_105, x158_107, x158_110, x158_111, x158_114, x158_115, x158_116, x158_117, c154, i32_64, e, not_false_eq_true, if_false, h1, h2, h3, Option.bind_some, Option.toList_some, Option.toList_none, List.cons_append, List.nil_append, Option.isSome_some, if_true, eq_self, or_true, true_or, xb_01, mcl_cl]
      rfl
    by_cases h5 : k = 5
    · subst h5
      simp only [x158_0, x158_1, x158_2, x158_5, x158_6, x158_7, x158_8, x158_11, x158_14, x158_15, x158_16_v1, x158_16_v2, x158_16_v3, x158_16_v4, x158_16_v5, x158_16_v6, x158_16_d, x158_56, x158_57, x158_58, x158_61, x158_64, x158_67, x158_68, x158_69, x158_70, x158_73, x158_76, x158_79, x158_80, x158_81, x158_82, x158_85, x158_88, x158_91, x158_92, x158_93, x158_94, x158_97, x158_100, x158_103, x158_104, x158_105, x158_107, x158_110, x158_111, x158_114, x158_115, x158_116, x158_117, c154, i32_64, e, not_false_eq_true, if_false, h1, h2, h3, h4, Option.bind_some, Option.toList_some, Option.toList_none, List.cons_append, List.nil_append, Option.isSome_some, if_true, eq_self, or_true, true_or, xb_01, mcl_cl]
      rfl
    by_cases h6 : k = 6
    · subst h6
      simp only [x158_0, x158_1, x158_2, x158_5, x158_6, x158_7, x158_8, x158_11, x158_14, x158_15, x158_16_v1, x158_16_v2, x158_16_v3, x158_16_v4, x158_16_v5, x158_16_v6, x158_16_d, x158_56, x158_57, x158_58, x158_61, x158_64, x158_67, x158_68, x158_69, x158_70, x158_73, x158_76, x158_79, x158_80, x158_81, x158_82, x158_85, x158_88, x158_91, x158_92, x158_93, x158_94, x158_97, x158_100, x158_103, x158_104, x158_105, x158_107, x158_110, x158_111, x158_114, x158_115, x158_116, x158_117, c154, i32_64, e, not_false_eq_true, if_false, h1, h2, h3, h4, h5, Option.bind_some, Option.toList_some, Option.toList_none, List.cons_append, List.nil_append, Option.isSome_some, if_true, eq_self, or_true, true_or, xb_01, mcl_cl]
      by_cases h7 : a = 7 <;> simp [h7, xb]
    · simp only [x158_0, x158_1, x158_2, x158_5, x158_6, x158_7, x158_8, x158_11, x158_14, x158_15, x158_16_v1, x158_16_v2, x158_16_v3, x158_16_v4, x158_16_v5, x158_16_v6, x158_16_d, x158_56, x158_57, x158_58, x158_61, x158_64, x158_67, x158_68, x158_69, x158_70, x158_73, x158_76, x158_79, x158_80, x158_81, x158_82, x158_85, x158_88, x158_91, x158_92, x158_93, x158_94, x158_97, x158_100, x158_103, x158_104, x158_105, x158_107, x158_110, x158_111, x158_114, x158_115, x158_116, x158_117, x158_16_d (sw16 h1 h2 h3 h4 h5 h6), e, not_false_eq_true, if_false, h1, h2, h3, h4, h5, h6, Option.bind_some, Option.toList_some, Option.toList_none, List.cons_append, List.nil_append, Option.isSome_some, if_true, eq_self, or_true, true_or, xb_01, mcl_cl]
      rfl
/-- no NaN: what compares equal with itself -/
def okD (d : UInt64) : Prop := Op.cmpValue (FP.dcmp d d) .l = 0
def okF (f : UInt32) : Prop := Op.cmpValue (FP.fcmp f f) .l = 0
theorem c247 (hd : okD d) : X g 247 0 [.val (.double d), .second] [] h = some (some (.long d.toInt64), h) := by
  have hd : Op.cmpValue (FP.dcmp d d) .l = 0 := hd
  simp only [x247_0, x247_1, x247_4, x247_7, x247_8, x247_11, x247_12, x247_15, x246_0, x246_1, x246_2, x246_3, x246_6, x246_7, x246_10, x246_11, hd, not_true_eq_false, if_false, Option.bind_some, Option.toList_some, Option.toList_none, List.cons_append, List.nil_append, Option.isSome_some, if_true, eq_self, or_true, true_or, xb_01, mcl_cl]
theorem c249 (hd : okF f) : X g 249 0 [.val (.float f)] [] h = some (some (.int f.toInt32), h) := by
  have hd : Op.cmpValue (FP.fcmp f f) .l = 0 := hd
  simp only [x249_0, x249_1, x249_4, x249_7, x249_8, x249_11, x249_12, x249_14, x248_0, x248_1, x248_2, x248_3, x248_6, x248_7, x248_10, x248_11, hd, not_true_eq_false, if_false, Option.bind_some, Option.toList_some, Option.toList_none, List.cons_append, List.nil_append, Option.isSome_some, if_true, eq_self, or_true, true_or, xb_01, mcl_cl]
/-- the double that a number of a kind is -/
def pReal (k : Int32) (v : Int64) : UInt64 := if k = 6 then FP.f2d v.toInt32.toUInt32 else if k = 7 then v.toUInt64 else FP.l2d v
/-- a number of a kind is no NaN, nor is its double -/
def okN (k : Int32) (v : Int64) : Prop := (k = 6 → vn_sni2f v.toInt32 = false ∧ isNaN64 (FP.f2d v.toInt32.toUInt32) = false) ∧ (k = 7 → vn_snl2d v = false)
theorem c159 (hn : okN k v) : X g 159 0 [.val (.int k), .val (.long v), .second] [] h = some (some (.double (pReal k v)), h) := by
  unfold pReal
  by_cases h6 : k = 6
  · obtain ⟨a1, a2⟩ := hn.1 h6
    simp only [x159_0, x159_1, x159_3, x159_6, x159_7, x159_8, x159_11, x159_12, x159_15, x159_16, x159_18, x159_21, x159_22, x159_25, x159_28, x159_29, x159_30, h6, a1, a2, not_true_eq_false, if_false, Option.bind_some, Option.toList_some, Option.toList_none, List.cons_append, List.nil_append, Option.isSome_some, if_true, eq_self, or_true, true_or, xb_01, mcl_cl]
  · by_cases h7 : k = 7
    · have a1 := hn.2 h7
      simp only [x159_0, x159_1, x159_3, x159_6, x159_7, x159_8, x159_11, x159_12, x159_15, x159_16, x159_18, x159_21, x159_22, x159_25, x159_28, x159_29, x159_30, h6, h7, a1, not_true_eq_false, not_false_eq_true, if_false, Option.bind_some, Option.toList_some, Option.toList_none, List.cons_append, List.nil_append, Option.isSome_some, if_true, eq_self, or_true, true_or, xb_01, mcl_cl]
      rfl
    · simp only [x159_0, x159_1, x159_3, x159_6, x159_7, x159_8, x159_11, x159_12, x159_15, x159_16, x159_18, x159_21, x159_22, x159_25, x159_28, x159_29, x159_30, h6, h7, not_true_eq_false, not_false_eq_true, if_false, Option.bind_some, Option.toList_some, Option.toList_none, List.cons_append, List.nil_append, Option.isSome_some, if_true, eq_self, or_true, true_or, xb_01, mcl_cl]
def pView (k : Int32) (v : Int64) (a : Int32) : Int64 := if k = a then v else if a < 6 then v else if a = 6 then (FP.l2f v).toInt32.toInt64 else (pReal k v).toInt64
theorem i32_nle {a b : Int32} : (¬ a ≤ b) = (b < a) := propext Int32.not_le
theorem c160 (hn : okN k v) (h6 : okF (FP.l2f v)) (h7 : okD (pReal k v)) : X g 160 0 [.val (.int k), .val (.long v), .second, .val (.int a)] [] h = some (some (.long (pView k v a)), h) := by
  unfold pView
  by_cases e1 : k = a
  · simp only [x160_0, x160_1, x160_2, x160_5, x160_6, x160_8, x160_11, x160_12, x160_13, x160_14, x160_16, x160_19, x160_20, x160_21, x160_24, x160_25, x160_28, x160_29, x160_30, x160_33, x160_36, e1, Option.bind_some, Option.toList_some, Option.toList_none, List.cons_append, List.nil_append, Option.isSome_some, if_true, eq_self, or_true, true_or, xb_01, mcl_cl]
  · by_cases e2 : a < 6
    · have e3 : ¬ 6 ≤ a := Int32.not_le.mpr e2
      simp only [x160_0, x160_1, x160_2, x160_5, x160_6, x160_8, x160_11, x160_12, x160_13, x160_14, x160_16, x160_19, x160_20, x160_21, x160_24, x160_25, x160_28, x160_29, x160_30, x160_33, x160_36, e1, e2, e3, if_false, Option.bind_some, Option.toList_some, Option.toList_none, List.cons_append, List.nil_append, Option.isSome_some, if_true, eq_self, or_true, true_or, xb_01, mcl_cl]
    · have e3 : 6 ≤ a := Int32.not_lt.mp e2
      by_cases e4 : a = 6
      · subst e4
        simp only [x160_0, x160_1, x160_2, x160_5, x160_6, x160_8, x160_11, x160_12, x160_13, x160_14, x160_16, x160_19, x160_20, x160_21, x160_24, x160_25, x160_28, x160_29, x160_30, x160_33, x160_36, e1, e2, e3, c249 h6, not_true_eq_false, if_false, Option.bind_some, Option.toList_some, Option.toList_none, List.cons_append, List.nil_append, Option.isSome_some, if_true, eq_self, or_true, true_or, xb_01, mcl_cl]
      · simp only [x160_0, x160_1, x160_2, x160_5, x160_6, x160_8, x160_11, x160_12, x160_13, x160_14, x160_16, x160_19, x160_20, x160_21, x160_24, x160_25, x160_28, x160_29, x160_30, x160_33, x160_36, e1, e2, e3, e4, c159 hn, c247 h7, not_false_eq_true, if_false, Option.bind_some, Option.toList_some, Option.toList_none, List.cons_append, List.nil_append, Option.isSome_some, if_true, eq_self, or_true, true_or, xb_01, mcl_cl]
def pAmt (k : Int32) (v : Int64) : Int64 := if k < 6 then v else if k = 6 then FP.f2l v.toInt32.toUInt32 else FP.d2l v.toUInt64
theorem c161 (h6 : k = 6 → vn_sni2f v.toInt32 = false) (h7 : ¬ k < 6 → k ≠ 6 → vn_snl2d v = false) : X g 161 0 [.val (.int k), .val (.long v), .second] [] h = some (some (.long (pAmt k v)), h) := by
  unfold pAmt
  by_cases e2 : k < 6
  · have e3 : ¬ 6 ≤ k := Int32.not_le.mpr e2
    simp only [x161_0, x161_1, x161_3, x161_6, x161_7, x161_10, x161_11, x161_13, x161_16, x161_17, x161_18, x161_21, x161_22, x161_25, x161_26, x161_29, x161_30, e2, e3, if_false, Option.bind_some, Option.toList_some, Option.toList_none, List.cons_append, List.nil_append, Option.isSome_some, if_true, eq_self, or_true, true_or, xb_01, mcl_cl]
  · have e3 : 6 ≤ k := Int32.not_lt.mp e2
    by_cases e4 : k = 6
    · have := h6 e4
      subst e4
      simp only [x161_0, x161_1, x161_3, x161_6, x161_7, x161_10, x161_11, x161_13, x161_16, x161_17, x161_18, x161_21, x161_22, x161_25, x161_26, x161_29, x161_30, e2, e3, this, not_true_eq_false, if_false, Option.bind_some, Option.toList_some, Option.toList_none, List.cons_append, List.nil_append, Option.isSome_some, if_true, eq_self, or_true, true_or, xb_01, mcl_cl]
    · have := h7 e2 e4
      simp only [x161_0, x161_1, x161_3, x161_6, x161_7, x161_10, x161_11, x161_13, x161_16, x161_17, x161_18, x161_21, x161_22, x161_25, x161_26, x161_29, x161_30, e2, e3, e4, this, not_false_eq_true, if_false, Option.bind_some, Option.toList_some, Option.toList_none, List.cons_append, List.nil_append, Option.isSome_some, if_true, eq_self, or_true, true_or, xb_01, mcl_cl]
def pSame (d e : UInt64) : Bool := decide (Op.cmpValue (FP.dcmp d e) .l = 0)
def pAlike (k : Int32) (v : Int64) (a : Int32) (u : Int64) : Bool := if k = 0 ∨ a = 0 ∨ 7 < k ∨ 7 < a then decide (k = a) && decide (v = u) else if k < 6 ∧ a < 6 then decide (v = u) else pSame (pReal k v) (pReal a u)
theorem c162 (hn : okN k v) (hm : okN a u) : X g 162 0 [.val (.int k), .val (.long v), .second, .val (.int a), .val (.long u), .second] [] h = some (some (.int (xb (pAlike k v a u))), h) := by
  unfold pAlike
  by_cases e : k = 0 ∨ a = 0 ∨ 7 < k ∨ 7 < a
  · rw [if_pos e]
    have hx : X g 162 0 [.val (.int k), .val (.long v), .second, .val (.int a), .val (.long u), .second] [] h = X g 162 20 [.val (.int k), .val (.long v), .second, .val (.int a), .val (.long u), .second] [] h := by
      by_cases e1 : k = 0
      · simp only [x162_0, x162_1, e1, if_true]
      · by_cases e2 : a = 0
        · simp only [x162_0, x162_1, x162_4, x162_5, e1, e2, if_true, if_false]
        · by_cases e3 : 7 < k
          · simp only [x162_0, x162_1, x162_4, x162_5, x162_8, x162_9, x162_11, e1, e2, e3, if_true, if_false]
          · have e4 : ¬ a ≤ 7 := Int32.not_le.mpr (by simpa [e1, e2, e3] using e)
            simp only [x162_0, x162_1, x162_4, x162_5, x162_8, x162_9, x162_11, x162_14, x162_15, x162_17, e1, e2, e3, e4, if_true, if_false]
    rw [hx]
    simp only [x162_0, x162_1, x162_4, x162_5, x162_8, x162_9, x162_11, x162_14, x162_15, x162_17, x162_20, x162_21, x162_22, x162_25, x162_26, x162_28, x162_29, x162_32, x162_33, x162_36, x162_37, x162_38, x162_39, x162_41, x162_44, x162_45, x162_47, x162_50, x162_51, x162_53, x162_54, x162_57, x162_58, x162_61, x162_62, x162_65, x162_66, x162_67, x162_70, x162_71, x162_73, x162_76, x162_77, x162_80, x162_81, x162_84, x162_85, lcmp_eq0, Option.bind_some, Option.toList_some, Option.toList_none, List.cons_append, List.nil_append, Option.isSome_some, if_true, eq_self, or_true, true_or, xb_01, mcl_cl]
    by_cases e1 : k = a <;> by_cases e2 : v = u <;> simp [e1, e2, xb]
  · rw [if_neg e]
    have e1 : ¬ k = 0 := fun z => e (Or.inl z)
    have e2 : ¬ a = 0 := fun z => e (Or.inr (Or.inl z))
    have e3 : ¬ 7 < k := fun z => e (Or.inr (Or.inr (Or.inl z)))
    have e4 : a ≤ 7 := Int32.not_lt.mp fun z => e (Or.inr (Or.inr (Or.inr z)))
    simp only [x162_0, x162_1, x162_4, x162_5, x162_8, x162_9, x162_11, x162_14, x162_15, x162_17, x162_20, x162_21, x162_22, x162_25, x162_26, x162_28, x162_29, x162_32, x162_33, x162_36, x162_37, x162_38, x162_39, x162_41, x162_44, x162_45, x162_47, x162_50, x162_51, x162_53, x162_54, x162_57, x162_58, x162_61, x162_62, x162_65, x162_66, x162_67, x162_70, x162_71, x162_73, x162_76, x162_77, x162_80, x162_81, x162_84, x162_85, lcmp_eq0, c159 hn, c159 hm, e1, e2, e3, e4, if_false, Option.bind_some, Option.toList_some, Option.toList_none, List.cons_append, List.nil_append, Option.isSome_some, if_true, eq_self, or_true, true_or, xb_01, mcl_cl]
    unfold pSame
    by_cases e5 : 6 ≤ k
    · have e6 : ¬ k < 6 := Int32.not_lt.mpr e5
      by_cases e9 : Op.cmpValue (FP.dcmp (pReal k v) (pReal a u)) .l = 0 <;> simp [e5, e6, e9, xb]
    · have e6 : k < 6 := Int32.not_le.mp e5
      by_cases e7 : 6 ≤ a
      · have e8 : ¬ a < 6 := Int32.not_lt.mpr e7
        by_cases e9 : Op.cmpValue (FP.dcmp (pReal k v) (pReal a u)) .l = 0 <;> simp [e5, e6, e7, e8, e9, xb]
      · have e8 : a < 6 := Int32.not_le.mp e7
        by_cases e9 : v = u <;> simp [e5, e6, e7, e8, e9, xb]
/-- the number of a box of a kind by a number -/
def pBy (k : Int32) (v : Int64) : Int64 := if k = 0 then (if v = 0 then 0 else 1) else if k = 1 then v.toInt32.toInt8.toInt32.toInt64 else if k = 2 then (v.toInt32.toUInt32 % 65536).toInt32.toInt64 else if k = 3 then v.toInt32.toInt16.toInt32.toInt64 else if k = 4 then v.toInt32.toInt64 else if k = 6 then (FP.l2f v).toInt32.toInt64 else if k = 7 then (FP.l2d v).toInt64 else if k = 8 then 0 else if k = 9 then v.toInt32.toInt64 else v
def mIs (S : MS) (k : Int32) (v : Int64) : MS := msL (msI S 0 k) 1 v
theorem c155' : X g 155 0 [.val (va_rf (some mu)), .val (.int i), .val (.long u), .second] [] (mH n kc ks mu S) = some (none, mH n kc ks mu (mIs S i u)) := c155
theorem c157 (h6 : okF (FP.l2f v)) (h7 : okD (FP.l2d v)) : X g 157 0 [.val (va_rf (some mu)), .val (.int k), .val (.long v), .second] [] (mH n kc ks mu S) = some (none, mH n kc ks mu (mIs S k (pBy k v))) := by
  unfold pBy
  by_cases e0 : k = 0
  · subst e0
    by_cases ev : v = 0 <;> simp only [x157_0, x157_1_v0, x157_1_v1, x157_1_v2, x157_1_v3, x157_1_v4, x157_1_v5, x157_1_v6, x157_1_v7, x157_1_v8, x157_1_v9, x157_1_d, x157_56, x157_57, x157_58, x157_59, x157_60, x157_61, x157_64, x157_65, x157_68, x157_69, x157_72, x157_75, x157_76, x157_77, x157_78, x157_79, x157_80, x157_81, x157_84, x157_87, x157_88, x157_89, x157_90, x157_91, x157_92, x157_93, x157_96, x157_99, x157_100, x157_101, x157_102, x157_103, x157_104, x157_105, x157_108, x157_111, x157_112, x157_113, x157_114, x157_115, x157_116, x157_119, x157_122, x157_123, x157_124, x157_125, x157_126, x157_129, x157_130, x157_133, x157_136, x157_137, x157_138, x157_139, x157_140, x157_143, x157_146, x157_149, x157_150, x157_151, x157_152, x157_155, x157_158, x157_159, x157_160, x157_161, x157_164, c155', ev, lcmp_eq0, not_true_eq_false, not_false_eq_true, if_false, Option.bind_some, Option.toList_some, Option.toList_none, List.cons_append, List.nil_append, Option.isSome_some, if_true, eq_self, or_true, true_or, xb_01, mcl_cl]
  by_cases e1 : k = 1
  · subst e1
    simp only [x157_0, x157_1_v0, x157_1_v1, x157_1_v2, x157_1_v3, x157_1_v4, x157_1_v5, x157_1_v6, x157_1_v7, x157_1_v8, x157_1_v9, x157_1_d, x157_56, x157_57, x157_58, x157_59, x157_60, x157_61, x157_64, x157_65, x157_68, x157_69, x157_72, x157_75, x157_76, x157_77, x157_78, x157_79, x157_80, x157_81, x157_84, x157_87, x157_88, x157_89, x157_90, x157_91, x157_92, x157_93, x157_96, x157_99, x157_100, x157_101, x157_102, x157_103, x157_104, x157_105, x157_108, x157_111, x157_112, x157_113, x157_114, x157_115, x157_116, x157_119, x157_122, x157_123, x157_124, x157_125, x157_126, x157_129, x157_130, x157_133, x157_136, x157_137, x157_138, x157_139, x157_140, x157_143, x157_146, x157_149, x157_150, x157_151, x157_152, x157_155, x157_158, x157_159, x157_160, x157_161, x157_164, c155', e0, if_false, Option.bind_some, Option.toList_some, Option.toList_none, List.cons_append, List.nil_append, Option.isSome_some, if_true, eq_self, or_true, true_or, xb_01, mcl_cl]
  by_cases e2 : k = 2
  · subst e2
    simp only [x157_0, x157_1_v0, x157_1_v1, x157_1_v2, x157_1_v3, x157_1_v4, x157_1_v5, x157_1_v6, x157_1_v7, x157_1_v8, x157_1_v9, x157_1_d, x157_56, x157_57, x157_58, x157_59, x157_60, x157_61, x157_64, x157_65, x157_68, x157_69, x157_72, x157_75, x157_76, x157_77, x157_78, x157_79, x157_80, x157_81, x157_84, x157_87, x157_88, x157_89, x157_90, x157_91, x157_92, x157_93, x157_96, x157_99, x157_100, x157_101, x157_102, x157_103, x157_104, x157_105, x157_108, x157_111, x157_112, x157_113, x157_114, x157_115, x157_116, x157_119, x157_122, x157_123, x157_124, x157_125, x157_126, x157_129, x157_130, x157_133, x157_136, x157_137, x157_138, x157_139, x157_140, x157_143, x157_146, x157_149, x157_150, x157_151, x157_152, x157_155, x157_158, x157_159, x157_160, x157_161, x157_164, c155', e0, e1, if_false, Option.bind_some, Option.toList_some, Option.toList_none, List.cons_append, List.nil_append, Option.isSome_some, if_true, eq_self, or_true, true_or, xb_01, mcl_cl]
  by_cases e3 : k = 3
  · subst e3
    simp only [x157_0, x157_1_v0, x157_1_v1, x157_1_v2, x157_1_v3, x157_1_v4, x157_1_v5, x157_1_v6, x157_1_v7, x157_1_v8, x157_1_v9, x157_1_d, x157_56, x157_57, x157_58, x157_59, x157_60, x157_61, x157_64, x157_65, x157_68, x157_69, x157_72, x157_75, x157_76, x157_77, x157_78, x157_79, x157_80, x157_81, x157_84, x157_87, x157_88, x157_89, x157_90, x157_91, x157_92, x157_93, x157_96, x157_99, x157_100, x157_101, x157_102, x157_103, x157_104, x157_105, x157_108, x157_111, x157_112, x157_113, x157_114, x157_115, x157_116, x157_119, x157_122, x157_123, x157_124, x157_125, x157_126, x157_129, x157_130, x157_133, x157_136, x157_137, x157_138, x157_139, x157_140, x157_143, x157_146, x157_149, x157_150, x157_151, x157_152, x157_155, x157_158, x157_159, x157_160, x157_161, x157_164, c155', e0, e1, e2, if_false, Option.bind_some, Option.toList_some, Option.toList_none, List.cons_append, List.nil_append, Option.isSome_some, if_true, eq_self, or_true, true_or, xb_01, mcl_cl]
  by_cases e4 : k = 4
  · subst e4
    simp only [x157_0, x157_1_v0, x157_1_v1, x157_1_v2, x157_1_v3, x157_1_v4, x157_1_v5, x157_1_v6, x157_1_v7, x157_1_v8, x157_1_v9, x157_1_d, x157_56, x157_57, x157_58, x157_59, x157_60, x157_61, x157_64, x157_65, x157_68, x157_69, x157_72, x157_75, x157_76, x157_77, x157_78, x157_79, x157_80, x157_81, x157_84, x157_87, x157_88, x157_89, x157_90, x157_91, x157_92, x157_93, x157_96, x157_99, x157_100, x157_101, x157_102, x157_103, x157_104, x157_105, x157_108, x157_111, x157_112, x157_113, x157_114, x157_115, x157_116, x157_119, x157_122, x157_123, x157_124, x157_125, x157_126, x157_129, x157_130, x157_133, x157_136, x157_137, x157_138, x157_139, x157_140, x157_143, x157_146, x157_149, x157_150, x157_151, x157_152, x157_155, x157_158, x157_159, x157_160, x157_161, x157_164, c155', e0, e1, e2, e3, if_false, Option.bind_some, Option.toList_some, Option.toList_none, List.cons_append, List.nil_append, Option.isSome_some, if_true, eq_self, or_true, true_or, xb_01, mcl_cl]
  by_cases e5 : k = 5
  · subst e5
    simp only [x157_0, x157_1_v0, x157_1_v1, x157_1_v2, x157_1_v3, x157_1_v4, x157_1_v5, x157_1_v6, x157_1_v7, x157_1_v8, x157_1_v9, x157_1_d, x157_56, x157_57, x157_58, x157_59, x157_60, x157_61, x157_64, x157_65, x157_68, x157_69, x157_72, x157_75, x157_76, x157_77, x157_78, x157_79, x157_80, x157_81, x157_84, x157_87, x157_88, x157_89, x157_90, x157_91, x157_92, x157_93, x157_96, x157_99, x157_100, x157_101, x157_102, x157_103, x157_104, x157_105, x157_108, x157_111, x157_112, x157_113, x157_114, x157_115, x157_116, x157_119, x157_122, x157_123, x157_124, x157_125, x157_126, x157_129, x157_130, x157_133, x157_136, x157_137, x157_138, x157_139, x157_140, x157_143, x157_146, x157_149, x157_150, x157_151, x157_152, x157_155, x157_158, x157_159, x157_160, x157_161, x157_164, c155', e0, e1, e2, e3, e4, if_false, Option.bind_some, Option.toList_some, Option.toList_none, List.cons_append, List.nil_append, Option.isSome_some, if_true, eq_self, or_true, true_or, xb_01, mcl_cl]
    rfl
  by_cases e6 : k = 6
  · subst e6
    simp only [x157_0, x157_1_v0, x157_1_v1, x157_1_v2, x157_1_v3, x157_1_v4, x157_1_v5, x157_1_v6, x157_1_v7, x157_1_v8, x157_1_v9, x157_1_d, x157_56, x157_57, x157_58, x157_59, x157_60, x157_61, x157_64, x157_65, x157_68, x157_69, x157_72, x157_75, x157_76, x157_77, x157_78, x157_79, x157_80, x157_81, x157_84, x157_87, x157_88, x157_89, x157_90, x157_91, x157_92, x157_93, x157_96, x157_99, x157_100, x157_101, x157_102, x157_103, x157_104, x157_105, x157_108, x157_111, x157_112, x157_113, x157_114, x157_115, x157_116, x157_119, x157_122, x157_123, x157_124, x157_125, x157_126, x157_129, x157_130, x157_133, x157_136, x157_137, x157_138, x157_139, x157_140, x157_143, x157_146, x157_149, x157_150, x157_151, x157_152, x157_155, x157_158, x157_159, x157_160, x157_161, x157_164, c155', c249 h6, e0, e1, e2, e3, e4, e5, if_false, Option.bind_some, Option.toList_some, Option.toList_none, List.cons_append, List.nil_append, Option.isSome_some, if_true, eq_self, or_true, true_or, xb_01, mcl_cl]
  by_cases e7 : k = 7
  · subst e7
    simp only [x157_0, x157_1_v0, x157_1_v1, x157_1_v2, x157_1_v3, x157_1_v4, x157_1_v5, x157_1_v6, x157_1_v7, x157_1_v8, x157_1_v9, x157_1_d, x157_56, x157_57, x157_58, x157_59, x157_60, x157_61, x157_64, x157_65, x157_68, x157_69, x157_72, x157_75, x157_76, x157_77, x157_78, x157_79, x157_80, x157_81, x157_84, x157_87, x157_88, x157_89, x157_90, x157_91, x157_92, x157_93, x157_96, x157_99, x157_100, x157_101, x157_102, x157_103, x157_104, x157_105, x157_108, x157_111, x157_112, x157_113, x157_114, x157_115, x157_116, x157_119, x157_122, x157_123, x157_124, x157_125, x157_126, x157_129, x157_130, x157_133, x157_136, x157_137, x157_138, x157_139, x157_140, x157_143, x157_146, x157_149, x157_150, x157_151, x157_152, x157_155, x157_158, x157_159, x157_160, x157_161, x157_164, c155', c247 h7, e0, e1, e2, e3, e4, e5, e6, if_false, Option.bind_some, Option.toList_some, Option.toList_none, List.cons_append, List.nil_append, Option.isSome_some, if_true, eq_self, or_true, true_or, xb_01, mcl_cl]
  by_cases e8 : k = 8
  · subst e8
    simp only [x157_0, x157_1_v0, x157_1_v1, x157_1_v2, x157_1_v3, x157_1_v4, x157_1_v5, x157_1_v6, x157_1_v7, x157_1_v8, x157_1_v9, x157_1_d, x157_56, x157_57, x157_58, x157_59, x157_60, x157_61, x157_64, x157_65, x157_68, x157_69, x157_72, x157_75, x157_76, x157_77, x157_78, x157_79, x157_80, x157_81, x157_84, x157_87, x157_88, x157_89, x157_90, x157_91, x157_92, x157_93, x157_96, x157_99, x157_100, x157_101, x157_102, x157_103, x157_104, x157_105, x157_108, x157_111, x157_112, x157_113, x157_114, x157_115, x157_116, x157_119, x157_122, x157_123, x157_124, x157_125, x157_126, x157_129, x157_130, x157_133, x157_136, x157_137, x157_138, x157_139, x157_140, x157_143, x157_146, x157_149, x157_150, x157_151, x157_152, x157_155, x157_158, x157_159, x157_160, x157_161, x157_164, c155', e0, e1, e2, e3, e4, e5, e6, e7, if_false, Option.bind_some, Option.toList_some, Option.toList_none, List.cons_append, List.nil_append, Option.isSome_some, if_true, eq_self, or_true, true_or, xb_01, mcl_cl]
  by_cases e9 : k = 9
  · subst e9
    simp only [x157_0, x157_1_v0, x157_1_v1, x157_1_v2, x157_1_v3, x157_1_v4, x157_1_v5, x157_1_v6, x157_1_v7, x157_1_v8, x157_1_v9, x157_1_d, x157_56, x157_57, x157_58, x157_59, x157_60, x157_61, x157_64, x157_65, x157_68, x157_69, x157_72, x157_75, x157_76, x157_77, x157_78, x157_79, x157_80, x157_81, x157_84, x157_87, x157_88, x157_89, x157_90, x157_91, x157_92, x157_93, x157_96, x157_99, x157_100, x157_101, x157_102, x157_103, x157_104, x157_105, x157_108, x157_111, x157_112, x157_113, x157_114, x157_115, x157_116, x157_119, x157_122, x157_123, x157_124, x157_125, x157_126, x157_129, x157_130, x157_133, x157_136, x157_137, x157_138, x157_139, x157_140, x157_143, x157_146, x157_149, x157_150, x157_151, x157_152, x157_155, x157_158, x157_159, x157_160, x157_161, x157_164, c155', e0, e1, e2, e3, e4, e5, e6, e7, e8, if_false, Option.bind_some, Option.toList_some, Option.toList_none, List.cons_append, List.nil_append, Option.isSome_some, if_true, eq_self, or_true, true_or, xb_01, mcl_cl]
  · simp only [x157_0, x157_1_v0, x157_1_v1, x157_1_v2, x157_1_v3, x157_1_v4, x157_1_v5, x157_1_v6, x157_1_v7, x157_1_v8, x157_1_v9, x157_1_d, x157_56, x157_57, x157_58, x157_59, x157_60, x157_61, x157_64, x157_65, x157_68, x157_69, x157_72, x157_75, x157_76, x157_77, x157_78, x157_79, x157_80, x157_81, x157_84, x157_87, x157_88, x157_89, x157_90, x157_91, x157_92, x157_93, x157_96, x157_99, x157_100, x157_101, x157_102, x157_103, x157_104, x157_105, x157_108, x157_111, x157_112, x157_113, x157_114, x157_115, x157_116, x157_119, x157_122, x157_123, x157_124, x157_125, x157_126, x157_129, x157_130, x157_133, x157_136, x157_137, x157_138, x157_139, x157_140, x157_143, x157_146, x157_149, x157_150, x157_151, x157_152, x157_155, x157_158, x157_159, x157_160, x157_161, x157_164, x157_1_d (sw09 e0 e1 e2 e3 e4 e5 e6 e7 e8 e9), c155', e0, e1, e2, e3, e4, e5, e6, e7, e8, e9, if_false, Option.bind_some, Option.toList_some, Option.toList_none, List.cons_append, List.nil_append, Option.isSome_some, if_true, eq_self, or_true, true_or, xb_01, mcl_cl]
end M3
