/-! THE REFERENCE's methods, 5: putting -/
/-- whether a row of a kind takes a box of a kind -/
def sAdm (k bk : Int32) : Bool := if k < 8 then pMay bk k else if k = 9 then (decide (bk = 9) || decide (bk = 8)) else true
/-- why a box can't be put; 0 -/
def sPutBy (S : MS) (s : Nat) (i v bk : Int32) : Int32 := if S.2.2.1 7 s = -11 then -11 else if mRow S s = false then -12 else if v ≠ 8 ∧ 8 ≤ S.2.2.1 2 (mr S s) then -12 else if S.2.2.1 2 (mr S s) < 8 ∧ bk = 8 then -12 else if mIn S (mr S s) i = false then -13 else if sAdm (S.2.2.1 2 (mr S s)) bk = false then -12 else 0
def mNote (S : MS) (p q : Nat) : MS := msI (msB (msA (msA S 13 p (nI q)) 14 p (S.2.2.1 5 q)) 15 p (S.2.2.2 6 q)) 16 (nI (p + 1))
def mPut (S : MS) (p q : Nat) (k : Int32) (v : Int64) : MS := msA (msB (mNote S p q) 6 q v) 5 q k
def sNk (k bk : Int32) : Int32 := if k < 8 then k else bk
def sNv (k bk : Int32) (bv : Int64) : Int64 := if k < 8 then pView bk bv k else bv
def mPutS (S : MS) (p s : Nat) (i v : Int32) : MS := if sPutBy S s i v (S.1 0) = 0 then mPut S p (sAt S s i) (sNk (S.2.2.1 2 (mr S s)) (S.1 0)) (sNv (S.2.2.1 2 (mr S s)) (S.1 0) (S.2.1 1)) else S
section M6
variable {g : xG} {n kc ks mu s w q p : Nat} {S : MS} {h : xH} {i j k v : Int32} {u : Int64}
theorem c200 (hq : q < 320) (hp : p < 64) (e : S.1 16 = nI p) : X g 200 0 [.val (va_rf (some mu)), .val (.int (nI q))] [] (mH n kc ks mu S) = some (none, mH n kc ks mu (mNote S p q)) := by
  simp only [x200_0, x200_1, x200_4, x200_5, x200_8, x200_9, x200_10, x200_11, x200_14, x200_15, x200_18, x200_19, x200_22, x200_23, x200_24, x200_25, x200_26, x200_29, x200_30, x200_33, x200_34, x200_37, x200_38, x200_39, x200_40, x200_41, x200_42, x200_45, x200_46, x200_47, x200_50, mf_13, ms_13, mf_16, mf_14, ms_14, mf_5, ml_5, mf_15, ms_15, mf_6, ml_6, mp_16, e, xin_nI hq (by decide), nI_clamp (lt31 hq (by decide)), xin_nI hp (by decide), nI_clamp (lt31 hp (by decide)), nI_1, if_false, msA1, msA2, msA3, msA4, msB1, msB2, msB3, msB4, msI1, msI2, msI3, msI4, msL1, msL2, msL3, msL4, Nat.reduceEqDiff, false_and, true_and, and_false, and_true, and_self, Option.bind_some, Option.toList_some, Option.toList_none, List.cons_append, List.nil_append, Option.isSome_some, if_true, eq_self, or_true, true_or, xb_01, mcl_cl]
  rfl
theorem c174 (hs : s < 10) (hz : mZ S) (hp : p < 64) (e : S.1 16 = nI p) (hb : okv (S.1 0) (S.2.1 1)) : X g 174 0 [.val (va_rf (some mu)), .val (.int (nI s)), .val (.int i), .unset, .unset, .unset] [] (mH n kc ks mu S) = some (some (.int (sPutBy S s i 8 (S.1 0))), mH n kc ks mu (mPutS S p s i 8)) := by
  unfold mPutS sPutBy
  have a1 := xin_nI hs (n := 10) (by decide)
  have a2 := nI_clamp (lt31 hs (by decide))
  by_cases e1 : S.2.2.1 7 s = -11
  · simp only [x174_0, x174_1, x174_4, x174_5, x174_6, x174_8, x174_11, x174_13, x174_14, x174_15, x174_16, x174_19, x174_22, x174_23, x174_26, x174_27, x174_30, x174_31, x174_32, x174_33, x174_35, x174_38, x174_39, x174_42, x174_44, x174_47, x174_49, x174_50, x174_51, x174_54, x174_55, x174_56, x174_57, x174_58, x174_61, x174_62, x174_63, x174_65, x174_66, x174_67, x174_68, x174_69, x174_72, x174_73, x174_74, x174_75, x174_76, x174_77, x174_80, x174_83, x174_85, x174_86, x174_88, x174_90, x174_93, x174_94, x174_97, x174_99, x174_102, x174_105, x174_107, x174_109, x174_112, x174_113, x174_116, x174_118, x174_121, x174_122, x174_125, x174_127, x174_130, x174_132, x174_133, x174_135, x174_136, x174_137, x174_138, x174_139, x174_141, x174_142, x174_144, x174_147, x174_148, x174_151, x174_153, x174_155, x174_157, x174_160, x174_161, x174_164, x174_165, x174_168, x174_170, x174_173, x174_176, x174_177, x174_180, x174_181, x174_182, x174_185, x174_187, x174_189, x174_191, x174_194, x174_196, x174_199, x174_200, x174_203, x174_204, x174_205, mf_7, ml_7, a1, a2, e1, not_true_eq_false, if_false, Option.bind_some, Option.toList_some, Option.toList_none, List.cons_append, List.nil_append, Option.isSome_some, if_true, eq_self, or_true, true_or, xb_01, mcl_cl]
    rfl
  · by_cases e2 : mRow S s = false
    · simp only [x174_0, x174_1, x174_4, x174_5, x174_6, x174_8, x174_11, x174_13, x174_14, x174_15, x174_16, x174_19, x174_22, x174_23, x174_26, x174_27, x174_30, x174_31, x174_32, x174_33, x174_35, x174_38, x174_39, x174_42, x174_44, x174_47, x174_49, x174_50, x174_51, x174_54, x174_55, x174_56, x174_57, x174_58, x174_61, x174_62, x174_63, x174_65, x174_66, x174_67, x174_68, x174_69, x174_72, x174_73, x174_74, x174_75, x174_76, x174_77, x174_80, x174_83, x174_85, x174_86, x174_88, x174_90, x174_93, x174_94, x174_97, x174_99, x174_102, x174_105, x174_107, x174_109, x174_112, x174_113, x174_116, x174_118, x174_121, x174_122, x174_125, x174_127, x174_130, x174_132, x174_133, x174_135, x174_136, x174_137, x174_138, x174_139, x174_141, x174_142, x174_144, x174_147, x174_148, x174_151, x174_153, x174_155, x174_157, x174_160, x174_161, x174_164, x174_165, x174_168, x174_170, x174_173, x174_176, x174_177, x174_180, x174_181, x174_182, x174_185, x174_187, x174_189, x174_191, x174_194, x174_196, x174_199, x174_200, x174_203, x174_204, x174_205, mf_7, ml_7, a1, a2, e1, c165 hs, e2, xb_f, not_false_eq_true, if_false, Option.bind_some, Option.toList_some, Option.toList_none, List.cons_append, List.nil_append, Option.isSome_some, if_true, eq_self, or_true, true_or, xb_01, mcl_cl]
      rfl
    · have e2 : mRow S s = true := by simpa using e2
      obtain ⟨e3, hr⟩ := mRow_eq e2
      have b1 := xin_nI hr (n := 10) (by decide)
      have b2 := nI_clamp (lt31 hr (by decide))
      have e1' : ¬ nI (mr S s) = -11 := by rw [← e3]; exact e1
      unfold sAt
      generalize mr S s = r at *
      have ht : (true = false) = False := by simp
      have h10 : ((1 : Int32) = 0) = False := by simp
      by_cases e4 : S.2.2.1 2 r < 8
      · have e4' : ¬ (8 : Int32) ≤ S.2.2.1 2 r := Int32.not_le.mpr e4
        by_cases e5 : S.1 0 = 8
        · simp only [x174_0, x174_1, x174_4, x174_5, x174_6, x174_8, x174_11, x174_13, x174_14, x174_15, x174_16, x174_19, x174_22, x174_23, x174_26, x174_27, x174_30, x174_31, x174_32, x174_33, x174_35, x174_38, x174_39, x174_42, x174_44, x174_47, x174_49, x174_50, x174_51, x174_54, x174_55, x174_56, x174_57, x174_58, x174_61, x174_62, x174_63, x174_65, x174_66, x174_67, x174_68, x174_69, x174_72, x174_73, x174_74, x174_75, x174_76, x174_77, x174_80, x174_83, x174_85, x174_86, x174_88, x174_90, x174_93, x174_94, x174_97, x174_99, x174_102, x174_105, x174_107, x174_109, x174_112, x174_113, x174_116, x174_118, x174_121, x174_122, x174_125, x174_127, x174_130, x174_132, x174_133, x174_135, x174_136, x174_137, x174_138, x174_139, x174_141, x174_142, x174_144, x174_147, x174_148, x174_151, x174_153, x174_155, x174_157, x174_160, x174_161, x174_164, x174_165, x174_168, x174_170, x174_173, x174_176, x174_177, x174_180, x174_181, x174_182, x174_185, x174_187, x174_189, x174_191, x174_194, x174_196, x174_199, x174_200, x174_203, x174_204, x174_205, mf_7, ml_7, mf_2, ml_2, mf_0, a1, a2, b1, b2, e1', e3, c165 hs, e2, xb_t, ht, h10, e4, e4', e5, ne_eq, not_true_eq_false, not_false_eq_true, and_self, and_false, false_and, if_false, Option.bind_some, Option.toList_some, Option.toList_none, List.cons_append, List.nil_append, Option.isSome_some, if_true, eq_self, or_true, true_or, xb_01, mcl_cl]
          rfl
        · by_cases e7 : mIn S r i = false
          · have e8 : mWithin i.toInt 0 (S.2.2.1 3 r - 1).toInt = false := e7
            simp only [x174_0, x174_1, x174_4, x174_5, x174_6, x174_8, x174_11, x174_13, x174_14, x174_15, x174_16, x174_19, x174_22, x174_23, x174_26, x174_27, x174_30, x174_31, x174_32, x174_33, x174_35, x174_38, x174_39, x174_42, x174_44, x174_47, x174_49, x174_50, x174_51, x174_54, x174_55, x174_56, x174_57, x174_58, x174_61, x174_62, x174_63, x174_65, x174_66, x174_67, x174_68, x174_69, x174_72, x174_73, x174_74, x174_75, x174_76, x174_77, x174_80, x174_83, x174_85, x174_86, x174_88, x174_90, x174_93, x174_94, x174_97, x174_99, x174_102, x174_105, x174_107, x174_109, x174_112, x174_113, x174_116, x174_118, x174_121, x174_122, x174_125, x174_127, x174_130, x174_132, x174_133, x174_135, x174_136, x174_137, x174_138, x174_139, x174_141, x174_142, x174_144, x174_147, x174_148, x174_151, x174_153, x174_155, x174_157, x174_160, x174_161, x174_164, x174_165, x174_168, x174_170, x174_173, x174_176, x174_177, x174_180, x174_181, x174_182, x174_185, x174_187, x174_189, x174_191, x174_194, x174_196, x174_199, x174_200, x174_203, x174_204, x174_205, mf_7, ml_7, mf_2, ml_2, mf_0, mf_3, ml_3, a1, a2, b1, b2, e1', e3, c165 hs, c154, e2, xb_t, xb_f, i32_64, Int64.toInt_zero, ht, h10, e4, e4', e5, e7, e8, ne_eq, not_true_eq_false, not_false_eq_true, and_self, and_false, false_and, if_false, Option.bind_some, Option.toList_some, Option.toList_none, List.cons_append, List.nil_append, Option.isSome_some, if_true, eq_self, or_true, true_or, xb_01, mcl_cl]
            rfl
          · have e7 : mIn S r i = true := by simpa using e7
            have e8 : mWithin i.toInt 0 (S.2.2.1 3 r - 1).toInt = true := e7
            obtain ⟨z1, z2, _⟩ := mIn_eq hz hr e7
            have c1 : 32 * r + tn i < 320 := by omega
            rw [z1]
            have z9 := tn_nI (n := tn i) (by omega)
            rw [z9]
            rw [z1] at e7 e8
            unfold sAdm sNk sNv
            by_cases y1 : pMay (S.1 0) (S.2.2.1 2 r) = false
            · simp only [x174_0, x174_1, x174_4, x174_5, x174_6, x174_8, x174_11, x174_13, x174_14, x174_15, x174_16, x174_19, x174_22, x174_23, x174_26, x174_27, x174_30, x174_31, x174_32, x174_33, x174_35, x174_38, x174_39, x174_42, x174_44, x174_47, x174_49, x174_50, x174_51, x174_54, x174_55, x174_56, x174_57, x174_58, x174_61, x174_62, x174_63, x174_65, x174_66, x174_67, x174_68, x174_69, x174_72, x174_73, x174_74, x174_75, x174_76, x174_77, x174_80, x174_83, x174_85, x174_86, x174_88, x174_90, x174_93, x174_94, x174_97, x174_99, x174_102, x174_105, x174_107, x174_109, x174_112, x174_113, x174_116, x174_118, x174_121, x174_122, x174_125, x174_127, x174_130, x174_132, x174_133, x174_135, x174_136, x174_137, x174_138, x174_139, x174_141, x174_142, x174_144, x174_147, x174_148, x174_151, x174_153, x174_155, x174_157, x174_160, x174_161, x174_164, x174_165, x174_168, x174_170, x174_173, x174_176, x174_177, x174_180, x174_181, x174_182, x174_185, x174_187, x174_189, x174_191, x174_194, x174_196, x174_199, x174_200, x174_203, x174_204, x174_205, mf_7, ml_7, mf_2, ml_2, mf_0, mf_3, ml_3, a1, a2, b1, b2, e1', e3, c165 hs, c154, c158, e2, xb_t, xb_f, i32_64, Int64.toInt_zero, ht, h10, e4, e4', e5, e7, e8, y1, ne_eq, not_true_eq_false, not_false_eq_true, and_self, and_false, false_and, if_false, Option.bind_some, Option.toList_some, Option.toList_none, List.cons_append, List.nil_append, Option.isSome_some, if_true, eq_self, or_true, true_or, xb_01, mcl_cl]
              rfl
            · have y1 : pMay (S.1 0) (S.2.2.1 2 r) = true := by simpa using y1
              have y9 : ¬ S.2.2.1 2 r = 9 := by
                intro z
                rw [z] at e4
                exact absurd e4 (by decide)
              simp only [x174_0, x174_1, x174_4, x174_5, x174_6, x174_8, x174_11, x174_13, x174_14, x174_15, x174_16, x174_19, x174_22, x174_23, x174_26, x174_27, x174_30, x174_31, x174_32, x174_33, x174_35, x174_38, x174_39, x174_42, x174_44, x174_47, x174_49, x174_50, x174_51, x174_54, x174_55, x174_56, x174_57, x174_58, x174_61, x174_62, x174_63, x174_65, x174_66, x174_67, x174_68, x174_69, x174_72, x174_73, x174_74, x174_75, x174_76, x174_77, x174_80, x174_83, x174_85, x174_86, x174_88, x174_90, x174_93, x174_94, x174_97, x174_99, x174_102, x174_105, x174_107, x174_109, x174_112, x174_113, x174_116, x174_118, x174_121, x174_122, x174_125, x174_127, x174_130, x174_132, x174_133, x174_135, x174_136, x174_137, x174_138, x174_139, x174_141, x174_142, x174_144, x174_147, x174_148, x174_151, x174_153, x174_155, x174_157, x174_160, x174_161, x174_164, x174_165, x174_168, x174_170, x174_173, x174_176, x174_177, x174_180, x174_181, x174_182, x174_185, x174_187, x174_189, x174_191, x174_194, x174_196, x174_199, x174_200, x174_203, x174_204, x174_205, mf_7, ml_7, mf_2, ml_2, mf_0, mf_1, mf_3, ml_3, mf_5, ms_5, mf_6, ms_6, a1, a2, b1, b2, e1', e3, c165 hs, c154, c158, c200 c1 hp e, d160 hb, e2, xb_t, xb_f, i32_64, Int64.toInt_zero, ht, h10, e4, e4', e5, e7, e8, y1, y9, nI_cell, xin_nI c1 (by decide), nI_clamp (lt31 c1 (by decide)), ne_eq, not_true_eq_false, not_false_eq_true, and_self, and_false, false_and, if_false, mPut, mNote, msA1, msA2, msA3, msA4, msB1, msB2, msB3, msB4, msI1, msI2, msI3, msI4, msL1, msL2, msL3, msL4, Nat.reduceEqDiff, false_and, true_and, and_false, and_true, and_self, Option.bind_some, Option.toList_some, Option.toList_none, List.cons_append, List.nil_append, Option.isSome_some, if_true, eq_self, or_true, true_or, xb_01, mcl_cl]
      · have e4' : (8 : Int32) ≤ S.2.2.1 2 r := Int32.not_lt.mp e4
        by_cases e7 : mIn S r i = false
        · have e8 : mWithin i.toInt 0 (S.2.2.1 3 r - 1).toInt = false := e7
          simp only [x174_0, x174_1, x174_4, x174_5, x174_6, x174_8, x174_11, x174_13, x174_14, x174_15, x174_16, x174_19, x174_22, x174_23, x174_26, x174_27, x174_30, x174_31, x174_32, x174_33, x174_35, x174_38, x174_39, x174_42, x174_44, x174_47, x174_49, x174_50, x174_51, x174_54, x174_55, x174_56, x174_57, x174_58, x174_61, x174_62, x174_63, x174_65, x174_66, x174_67, x174_68, x174_69, x174_72, x174_73, x174_74, x174_75, x174_76, x174_77, x174_80, x174_83, x174_85, x174_86, x174_88, x174_90, x174_93, x174_94, x174_97, x174_99, x174_102, x174_105, x174_107, x174_109, x174_112, x174_113, x174_116, x174_118, x174_121, x174_122, x174_125, x174_127, x174_130, x174_132, x174_133, x174_135, x174_136, x174_137, x174_138, x174_139, x174_141, x174_142, x174_144, x174_147, x174_148, x174_151, x174_153, x174_155, x174_157, x174_160, x174_161, x174_164, x174_165, x174_168, x174_170, x174_173, x174_176, x174_177, x174_180, x174_181, x174_182, x174_185, x174_187, x174_189, x174_191, x174_194, x174_196, x174_199, x174_200, x174_203, x174_204, x174_205, mf_7, ml_7, mf_2, ml_2, mf_0, mf_3, ml_3, a1, a2, b1, b2, e1', e3, c165 hs, c154, e2, xb_t, xb_f, i32_64, Int64.toInt_zero, ht, h10, e4, e4', e7, e8, ne_eq, not_true_eq_false, not_false_eq_true, and_self, and_false, false_and, if_false, Option.bind_some, Option.toList_some, Option.toList_none, List.cons_append, List.nil_append, Option.isSome_some, if_true, eq_self, or_true, true_or, xb_01, mcl_cl]
          rfl
        · have e7 : mIn S r i = true := by simpa using e7
          have e8 : mWithin i.toInt 0 (S.2.2.1 3 r - 1).toInt = true := e7
          obtain ⟨z1, z2, _⟩ := mIn_eq hz hr e7
          have c1 : 32 * r + tn i < 320 := by omega
          rw [z1]
          have z9 := tn_nI (n := tn i) (by omega)
          rw [z9]
          rw [z1] at e7 e8
          unfold sAdm sNk sNv
          by_cases y9 : S.2.2.1 2 r = 9
          · have y8 : ¬ ((9 : Int32) < 8) := by decide
            have y7 : (8 : Int32) ≤ 9 := by decide
            by_cases y1 : S.1 0 = 9
            · simp only [x174_0, x174_1, x174_4, x174_5, x174_6, x174_8, x174_11, x174_13, x174_14, x174_15, x174_16, x174_19, x174_22, x174_23, x174_26, x174_27, x174_30, x174_31, x174_32, x174_33, x174_35, x174_38, x174_39, x174_42, x174_44, x174_47, x174_49, x174_50, x174_51, x174_54, x174_55, x174_56, x174_57, x174_58, x174_61, x174_62, x174_63, x174_65, x174_66, x174_67, x174_68, x174_69, x174_72, x174_73, x174_74, x174_75, x174_76, x174_77, x174_80, x174_83, x174_85, x174_86, x174_88, x174_90, x174_93, x174_94, x174_97, x174_99, x174_102, x174_105, x174_107, x174_109, x174_112, x174_113, x174_116, x174_118, x174_121, x174_122, x174_125, x174_127, x174_130, x174_132, x174_133, x174_135, x174_136, x174_137, x174_138, x174_139, x174_141, x174_142, x174_144, x174_147, x174_148, x174_151, x174_153, x174_155, x174_157, x174_160, x174_161, x174_164, x174_165, x174_168, x174_170, x174_173, x174_176, x174_177, x174_180, x174_181, x174_182, x174_185, x174_187, x174_189, x174_191, x174_194, x174_196, x174_199, x174_200, x174_203, x174_204, x174_205, mf_7, ml_7, mf_2, ml_2, mf_0, mf_1, mf_3, ml_3, mf_5, ms_5, mf_6, ms_6, a1, a2, b1, b2, e1', e3, c165 hs, c154, c158, c200 c1 hp e, e2, xb_t, xb_f, i32_64, Int64.toInt_zero, ht, h10, e7, e8, y1, y8, y7, y9, nI_cell, xin_nI c1 (by decide), nI_clamp (lt31 c1 (by decide)), ne_eq, not_true_eq_false, not_false_eq_true, and_self, and_false, false_and, if_false, decide_true, Bool.true_or, mPut, mNote, msA1, msA2, msA3, msA4, msB1, msB2, msB3, msB4, msI1, msI2, msI3, msI4, msL1, msL2, msL3, msL4, Nat.reduceEqDiff, false_and, true_and, and_false, and_true, and_self, Option.bind_some, Option.toList_some, Option.toList_none, List.cons_append, List.nil_append, Option.isSome_some, if_true, eq_self, or_true, true_or, xb_01, mcl_cl]
            · by_cases y2 : S.1 0 = 8
              · have y3 : ¬ ((8 : Int32) = 9) := by decide
                simp only [x174_0, x174_1, x174_4, x174_5, x174_6, x174_8, x174_11, x174_13, x174_14, x174_15, x174_16, x174_19, x174_22, x174_23, x174_26, x174_27, x174_30, x174_31, x174_32, x174_33, x174_35, x174_38, x174_39, x174_42, x174_44, x174_47, x174_49, x174_50, x174_51, x174_54, x174_55, x174_56, x174_57, x174_58, x174_61, x174_62, x174_63, x174_65, x174_66, x174_67, x174_68, x174_69, x174_72, x174_73, x174_74, x174_75, x174_76, x174_77, x174_80, x174_83, x174_85, x174_86, x174_88, x174_90, x174_93, x174_94, x174_97, x174_99, x174_102, x174_105, x174_107, x174_109, x174_112, x174_113, x174_116, x174_118, x174_121, x174_122, x174_125, x174_127, x174_130, x174_132, x174_133, x174_135, x174_136, x174_137, x174_138, x174_139, x174_141, x174_142, x174_144, x174_147, x174_148, x174_151, x174_153, x174_155, x174_157, x174_160, x174_161, x174_164, x174_165, x174_168, x174_170, x174_173, x174_176, x174_177, x174_180, x174_181, x174_182, x174_185, x174_187, x174_189, x174_191, x174_194, x174_196, x174_199, x174_200, x174_203, x174_204, x174_205, mf_7, ml_7, mf_2, ml_2, mf_0, mf_1, mf_3, ml_3, mf_5, ms_5, mf_6, ms_6, a1, a2, b1, b2, e1', e3, c165 hs, c154, c158, c200 c1 hp e, e2, xb_t, xb_f, i32_64, Int64.toInt_zero, ht, h10, e7, e8, y2, y3, y8, y7, y9, nI_cell, xin_nI c1 (by decide), nI_clamp (lt31 c1 (by decide)), ne_eq, not_true_eq_false, not_false_eq_true, and_self, and_false, false_and, if_false, decide_true, Bool.or_true, mPut, mNote, msA1, msA2, msA3, msA4, msB1, msB2, msB3, msB4, msI1, msI2, msI3, msI4, msL1, msL2, msL3, msL4, Nat.reduceEqDiff, false_and, true_and, and_false, and_true, and_self, Option.bind_some, Option.toList_some, Option.toList_none, List.cons_append, List.nil_append, Option.isSome_some, if_true, eq_self, or_true, true_or, xb_01, mcl_cl]
              · simp only [x174_0, x174_1, x174_4, x174_5, x174_6, x174_8, x174_11, x174_13, x174_14, x174_15, x174_16, x174_19, x174_22, x174_23, x174_26, x174_27, x174_30, x174_31, x174_32, x174_33, x174_35, x174_38, x174_39, x174_42, x174_44, x174_47, x174_49, x174_50, x174_51, x174_54, x174_55, x174_56, x174_57, x174_58, x174_61, x174_62, x174_63, x174_65, x174_66, x174_67, x174_68, x174_69, x174_72, x174_73, x174_74, x174_75, x174_76, x174_77, x174_80, x174_83, x174_85, x174_86, x174_88, x174_90, x174_93, x174_94, x174_97, x174_99, x174_102, x174_105, x174_107, x174_109, x174_112, x174_113, x174_116, x174_118, x174_121, x174_122, x174_125, x174_127, x174_130, x174_132, x174_133, x174_135, x174_136, x174_137, x174_138, x174_139, x174_141, x174_142, x174_144, x174_147, x174_148, x174_151, x174_153, x174_155, x174_157, x174_160, x174_161, x174_164, x174_165, x174_168, x174_170, x174_173, x174_176, x174_177, x174_180, x174_181, x174_182, x174_185, x174_187, x174_189, x174_191, x174_194, x174_196, x174_199, x174_200, x174_203, x174_204, x174_205, mf_7, ml_7, mf_2, ml_2, mf_0, mf_1, mf_3, ml_3, mf_5, ms_5, mf_6, ms_6, a1, a2, b1, b2, e1', e3, c165 hs, c154, c158, e2, xb_t, xb_f, i32_64, Int64.toInt_zero, ht, h10, e7, e8, y1, y2, y8, y7, y9, ne_eq, not_true_eq_false, not_false_eq_true, and_self, and_false, false_and, if_false, decide_false, Bool.or_false, Option.bind_some, Option.toList_some, Option.toList_none, List.cons_append, List.nil_append, Option.isSome_some, if_true, eq_self, or_true, true_or, xb_01, mcl_cl]
                rfl
          · simp only [x174_0, x174_1, x174_4, x174_5, x174_6, x174_8, x174_11, x174_13, x174_14, x174_15, x174_16, x174_19, x174_22, x174_23, x174_26, x174_27, x174_30, x174_31, x174_32, x174_33, x174_35, x174_38, x174_39, x174_42, x174_44, x174_47, x174_49, x174_50, x174_51, x174_54, x174_55, x174_56, x174_57, x174_58, x174_61, x174_62, x174_63, x174_65, x174_66, x174_67, x174_68, x174_69, x174_72, x174_73, x174_74, x174_75, x174_76, x174_77, x174_80, x174_83, x174_85, x174_86, x174_88, x174_90, x174_93, x174_94, x174_97, x174_99, x174_102, x174_105, x174_107, x174_109, x174_112, x174_113, x174_116, x174_118, x174_121, x174_122, x174_125, x174_127, x174_130, x174_132, x174_133, x174_135, x174_136, x174_137, x174_138, x174_139, x174_141, x174_142, x174_144, x174_147, x174_148, x174_151, x174_153, x174_155, x174_157, x174_160, x174_161, x174_164, x174_165, x174_168, x174_170, x174_173, x174_176, x174_177, x174_180, x174_181, x174_182, x174_185, x174_187, x174_189, x174_191, x174_194, x174_196, x174_199, x174_200, x174_203, x174_204, x174_205, mf_7, ml_7, mf_2, ml_2, mf_0, mf_1, mf_3, ml_3, mf_5, ms_5, mf_6, ms_6, a1, a2, b1, b2, e1', e3, c165 hs, c154, c158, c200 c1 hp e, e2, xb_t, xb_f, i32_64, Int64.toInt_zero, ht, h10, e4, e4', e7, e8, y9, nI_cell, xin_nI c1 (by decide), nI_clamp (lt31 c1 (by decide)), ne_eq, not_true_eq_false, not_false_eq_true, and_self, and_false, false_and, if_false, mPut, mNote, msA1, msA2, msA3, msA4, msB1, msB2, msB3, msB4, msI1, msI2, msI3, msI4, msL1, msL2, msL3, msL4, Nat.reduceEqDiff, false_and, true_and, and_false, and_true, and_self, Option.bind_some, Option.toList_some, Option.toList_none, List.cons_append, List.nil_append, Option.isSome_some, if_true, eq_self, or_true, true_or, xb_01, mcl_cl]
theorem sPutBy_8 {bk : Int32} (hv : v ≠ 8) (h2 : mRow S s = true) (h8 : 8 ≤ S.2.2.1 2 (mr S s)) : sPutBy S s i v bk = -12 := by
  unfold sPutBy
  obtain ⟨e3, hr⟩ := mRow_eq h2
  have e1 : ¬ S.2.2.1 7 s = -11 := by
    rw [e3]
    intro z
    have := congrArg Int32.toInt z
    rw [nI_toInt (by omega)] at this
    have e : (-11 : Int32).toInt = -11 := rfl
    rw [e] at this
    omega
  rw [if_neg e1, if_neg (by simp [h2]), if_pos ⟨hv, h8⟩]
theorem sPutBy_n {bk : Int32} (h2 : ¬ (v ≠ 8 ∧ mRow S s = true ∧ 8 ≤ S.2.2.1 2 (mr S s))) : sPutBy S s i v bk = sPutBy S s i 8 bk := by
  unfold sPutBy
  by_cases e1 : S.2.2.1 7 s = -11
  · rw [if_pos e1, if_pos e1]
  · rw [if_neg e1, if_neg e1]
    by_cases e2 : mRow S s = false
    · rw [if_pos e2, if_pos e2]
    · have n1 : ¬ (v ≠ 8 ∧ 8 ≤ S.2.2.1 2 (mr S s)) := fun z => h2 ⟨z.1, by simpa using e2, z.2⟩
      have n2 : ¬ ((8 : Int32) ≠ 8 ∧ 8 ≤ S.2.2.1 2 (mr S s)) := fun z => z.1 rfl
      rw [if_neg e2, if_neg e2, if_neg n1, if_neg n2]
theorem mPutS_n (h2 : ¬ (v ≠ 8 ∧ mRow S s = true ∧ 8 ≤ S.2.2.1 2 (mr S s))) : mPutS S p s i v = mPutS S p s i 8 := by
  unfold mPutS
  rw [sPutBy_n h2]
theorem c175 (hs : s < 10) (hz : mZ S) (hp : p < 64) (e : S.1 16 = nI p) (hb : okv (S.1 0) (S.2.1 1)) : X g 175 0 [.val (va_rf (some mu)), .val (.int (nI s)), .val (.int i), .val (.int v)] [] (mH n kc ks mu S) = some (some (.int (sPutBy S s i v (S.1 0))), mH n kc ks mu (mPutS S p s i v)) := by
  have a1 := xin_nI hs (n := 10) (by decide)
  have a2 := nI_clamp (lt31 hs (by decide))
  by_cases e4 : v = 8
  · subst e4
    simp only [x175_0, x175_1, x175_3, x175_6, x175_7, x175_8, x175_11, x175_14, x175_15, x175_18, x175_19, x175_22, x175_23, x175_24, x175_25, x175_27, x175_30, x175_32, x175_33, x175_34, x175_35, x175_36, x175_39, c174 hs hz hp e hb, Option.bind_some, Option.toList_some, Option.toList_none, List.cons_append, List.nil_append, Option.isSome_some, if_true, eq_self, or_true, true_or, xb_01, mcl_cl]
  · by_cases e2 : mRow S s = false
    · have hn : ¬ (v ≠ 8 ∧ mRow S s = true ∧ 8 ≤ S.2.2.1 2 (mr S s)) := fun z => by
        rw [e2] at z
        exact absurd z.2.1 (by simp)
      rw [sPutBy_n hn, mPutS_n hn]
      simp only [x175_0, x175_1, x175_3, x175_6, x175_7, x175_8, x175_11, x175_14, x175_15, x175_18, x175_19, x175_22, x175_23, x175_24, x175_25, x175_27, x175_30, x175_32, x175_33, x175_34, x175_35, x175_36, x175_39, c174 hs hz hp e hb, c165 hs, e2, e4, xb_f, if_false, Option.bind_some, Option.toList_some, Option.toList_none, List.cons_append, List.nil_append, Option.isSome_some, if_true, eq_self, or_true, true_or, xb_01, mcl_cl]
    · have e2 : mRow S s = true := by simpa using e2
      obtain ⟨e3, hr⟩ := mRow_eq e2
      have b1 := xin_nI hr (n := 10) (by decide)
      have b2 := nI_clamp (lt31 hr (by decide))
      have h10 : ((1 : Int32) = 0) = False := by simp
      by_cases e5 : S.2.2.1 2 (mr S s) < 8
      · have hn : ¬ (v ≠ 8 ∧ mRow S s = true ∧ 8 ≤ S.2.2.1 2 (mr S s)) := fun z => absurd z.2.2 (Int32.not_le.mpr e5)
        rw [sPutBy_n hn, mPutS_n hn]
        simp only [x175_0, x175_1, x175_3, x175_6, x175_7, x175_8, x175_11, x175_14, x175_15, x175_18, x175_19, x175_22, x175_23, x175_24, x175_25, x175_27, x175_30, x175_32, x175_33, x175_34, x175_35, x175_36, x175_39, c174 hs hz hp e hb, c165 hs, mf_7, ml_7, mf_2, ml_2, a1, a2, b1, b2, e2, e3, e4, e5, h10, xb_t, if_false, Option.bind_some, Option.toList_some, Option.toList_none, List.cons_append, List.nil_append, Option.isSome_some, if_true, eq_self, or_true, true_or, xb_01, mcl_cl]
      · have e6 : 8 ≤ S.2.2.1 2 (mr S s) := Int32.not_lt.mp e5
        have z := sPutBy_8 (S := S) (s := s) (i := i) (v := v) (bk := S.1 0) e4 e2 e6
        unfold mPutS
        rw [z]
        simp only [x175_0, x175_1, x175_3, x175_6, x175_7, x175_8, x175_11, x175_14, x175_15, x175_18, x175_19, x175_22, x175_23, x175_24, x175_25, x175_27, x175_30, x175_32, x175_33, x175_34, x175_35, x175_36, x175_39, c165 hs, mf_7, ml_7, mf_2, ml_2, a1, a2, b1, b2, e2, e3, e4, e5, h10, xb_t, if_false, Option.bind_some, Option.toList_some, Option.toList_none, List.cons_append, List.nil_append, Option.isSome_some, if_true, eq_self, or_true, true_or, xb_01, mcl_cl]
        rfl
end M6
