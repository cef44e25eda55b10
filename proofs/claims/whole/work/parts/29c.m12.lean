/-! THE REFERENCE's methods, 11: alike, digests, small answers -/
section M12
variable {g : xG} {n kc ks mu s w q p r t : Nat} {S : MS} {h : xH} {i j k m v x : Int32} {u : Int64} {a : Int32} {b : Int64}
def sEqv (S : MS) (r t p : Nat) : Bool := pAlike (S.2.2.1 5 (32 * r + p)) (S.2.2.2 6 (32 * r + p)) (S.2.2.1 5 (32 * t + p)) (S.2.2.2 6 (32 * t + p))
theorem l219 (hz : mZ S) (hv : mV S) (hr : r < 10) (ht : t < 10) (i0 i1 : Int32) : ∀ d p, p + d = min (mz S r) (mz S t) → X g 219 78 [.val (va_rf (some mu)), .val (.int i0), .val (.int i1), .val (.int (nI r)), .val (.int (nI t)), .val (.int (nI p))] [] (mH n kc ks mu S) = X g 219 163 [.val (va_rf (some mu)), .val (.int i0), .val (.int i1), .val (.int (nI r)), .val (.int (nI t)), .val (.int (nI (mUnl (sEqv S r t) p d)))] [] (mH n kc ks mu S) := by
  obtain ⟨z1, z2⟩ := mz_eq hz hr
  obtain ⟨z3, z4⟩ := mz_eq hz ht
  intro d
  induction d with
  | zero =>
    intro p hp
    by_cases h1 : mz S r ≤ p
    · have h2 : nI (mz S r) ≤ nI p := nI_le (by omega) (by omega)
      simp only [x219_78, x219_80, x219_81, x219_84, x219_85, x219_86, x219_89, x219_91, x219_92, x219_95, x219_97, x219_98, x219_101, x219_102, x219_105, x219_107, x219_108, x219_109, x219_111, x219_112, x219_113, x219_114, x219_117, x219_119, x219_120, x219_121, x219_123, x219_124, x219_125, x219_126, x219_129, x219_131, x219_133, x219_134, x219_136, x219_137, x219_138, x219_139, x219_142, x219_144, x219_146, x219_147, x219_149, x219_150, x219_151, x219_154, x219_157, mf_3, ml_3, xin_nI hr (by decide), nI_clamp (lt31 hr (by decide)), z1, h2, mUnl, Option.bind_some, Option.toList_some, Option.toList_none, List.cons_append, List.nil_append, Option.isSome_some, if_true, eq_self, or_true, true_or, xb_01, mcl_cl, not_true_eq_false, not_false_eq_true, if_false]
    · have h2 : ¬ nI (mz S r) ≤ nI p := nI_ge (by omega) (by omega)
      have h3 : nI (mz S t) ≤ nI p := nI_le (by omega) (by omega)
      simp only [x219_78, x219_80, x219_81, x219_84, x219_85, x219_86, x219_89, x219_91, x219_92, x219_95, x219_97, x219_98, x219_101, x219_102, x219_105, x219_107, x219_108, x219_109, x219_111, x219_112, x219_113, x219_114, x219_117, x219_119, x219_120, x219_121, x219_123, x219_124, x219_125, x219_126, x219_129, x219_131, x219_133, x219_134, x219_136, x219_137, x219_138, x219_139, x219_142, x219_144, x219_146, x219_147, x219_149, x219_150, x219_151, x219_154, x219_157, mf_3, ml_3, xin_nI hr (by decide), nI_clamp (lt31 hr (by decide)), xin_nI ht (by decide), nI_clamp (lt31 ht (by decide)), z1, z3, h2, h3, mUnl, Option.bind_some, Option.toList_some, Option.toList_none, List.cons_append, List.nil_append, Option.isSome_some, if_true, eq_self, or_true, true_or, xb_01, mcl_cl, not_true_eq_false, not_false_eq_true, if_false]
  | succ d ih =>
    intro p hp
    have h1 : ¬ nI (mz S r) ≤ nI p := nI_ge (by omega) (by omega)
    have h2 : ¬ nI (mz S t) ≤ nI p := nI_ge (by omega) (by omega)
    have c1 : 32 * r + p < 320 := by omega
    have c2 : 32 * t + p < 320 := by omega
    have hx : sEqv S r t p = pAlike (S.2.2.1 5 (32 * r + p)) (S.2.2.2 6 (32 * r + p)) (S.2.2.1 5 (32 * t + p)) (S.2.2.2 6 (32 * t + p)) := rfl
    cases e : pAlike (S.2.2.1 5 (32 * r + p)) (S.2.2.2 6 (32 * r + p)) (S.2.2.1 5 (32 * t + p)) (S.2.2.2 6 (32 * t + p)) with
    | true =>
      simp only [x219_78, x219_80, x219_81, x219_84, x219_85, x219_86, x219_89, x219_91, x219_92, x219_95, x219_97, x219_98, x219_101, x219_102, x219_105, x219_107, x219_108, x219_109, x219_111, x219_112, x219_113, x219_114, x219_117, x219_119, x219_120, x219_121, x219_123, x219_124, x219_125, x219_126, x219_129, x219_131, x219_133, x219_134, x219_136, x219_137, x219_138, x219_139, x219_142, x219_144, x219_146, x219_147, x219_149, x219_150, x219_151, x219_154, x219_157, mf_3, ml_3, mf_5, ml_5, mf_6, ml_6, xin_nI hr (by decide), nI_clamp (lt31 hr (by decide)), xin_nI ht (by decide), nI_clamp (lt31 ht (by decide)), z1, z3, h1, h2, nI_cell, xin_nI c1 (by decide), nI_clamp (lt31 c1 (by decide)), xin_nI c2 (by decide), nI_clamp (lt31 c2 (by decide)), d162 (hv _ c1) (hv _ c2), e, xb_t, i32_10, Option.bind_some, Option.toList_some, Option.toList_none, List.cons_append, List.nil_append, Option.isSome_some, if_true, eq_self, or_true, true_or, xb_01, mcl_cl, not_true_eq_false, not_false_eq_true, if_false]
      simp only [x219_160, nI_1]
      rw [ih (p + 1) (by omega), mUnl, hx, e, if_pos rfl]
    | false =>
      simp only [x219_78, x219_80, x219_81, x219_84, x219_85, x219_86, x219_89, x219_91, x219_92, x219_95, x219_97, x219_98, x219_101, x219_102, x219_105, x219_107, x219_108, x219_109, x219_111, x219_112, x219_113, x219_114, x219_117, x219_119, x219_120, x219_121, x219_123, x219_124, x219_125, x219_126, x219_129, x219_131, x219_133, x219_134, x219_136, x219_137, x219_138, x219_139, x219_142, x219_144, x219_146, x219_147, x219_149, x219_150, x219_151, x219_154, x219_157, mf_3, ml_3, mf_5, ml_5, mf_6, ml_6, xin_nI hr (by decide), nI_clamp (lt31 hr (by decide)), xin_nI ht (by decide), nI_clamp (lt31 ht (by decide)), z1, z3, h1, h2, nI_cell, xin_nI c1 (by decide), nI_clamp (lt31 c1 (by decide)), xin_nI c2 (by decide), nI_clamp (lt31 c2 (by decide)), d162 (hv _ c1) (hv _ c2), e, xb_f, i32_10, Option.bind_some, Option.toList_some, Option.toList_none, List.cons_append, List.nil_append, Option.isSome_some, if_true, eq_self, or_true, true_or, xb_01, mcl_cl, not_true_eq_false, not_false_eq_true, if_false]
      rw [mUnl, hx, e, if_neg (by simp)]
theorem mUnl_le {f : Nat → Bool} : ∀ d s, s ≤ mUnl f s d ∧ mUnl f s d ≤ s + d := by
  intro d
  induction d with
  | zero => intro s; exact ⟨Nat.le_refl _, Nat.le_refl _⟩
  | succ d ih =>
    intro s
    unfold mUnl
    split
    · have := ih (s + 1)
      omega
    · omega
def sDf (S : MS) (r t : Nat) : Int32 := if mUnl (sEqv S r t) 0 (min (mz S r) (mz S t)) = mz S r ∧ mUnl (sEqv S r t) 0 (min (mz S r) (mz S t)) = mz S t then -5 else nI (mUnl (sEqv S r t) 0 (min (mz S r) (mz S t)))
def fAlike (S : MS) (i j : Int32) : Int32 := if mSlot i = false then -1 else if mSlot j = false then -1 else if S.2.2.1 7 (tn i) = -11 then -11 else if S.2.2.1 7 (tn j) = -11 then -11 else if mRow S (tn i) = false then -12 else if mRow S (tn j) = false then -12 else sDf S (mr S (tn i)) (mr S (tn j))
theorem e219 (hz : mZ S) (hv : mV S) : X g 219 0 [.val (va_rf (some mu)), .val (.int i), .val (.int j), .unset, .unset, .unset] [] (mH n kc ks mu S) = some (some (.int (fAlike S i j)), mH n kc ks mu S) := by
  unfold fAlike
  by_cases e1 : mSlot i = false
  · rw [if_pos e1]
    simp only [x219_0, x219_1, x219_4, x219_7, x219_8, x219_11, x219_14, x219_15, x219_16, x219_17, x219_20, x219_21, x219_22, x219_24, x219_27, x219_28, x219_31, x219_32, x219_33, x219_35, x219_38, x219_40, x219_41, x219_42, x219_43, x219_46, x219_49, x219_50, x219_51, x219_54, x219_57, x219_59, x219_60, x219_61, x219_64, x219_65, x219_66, x219_67, x219_68, x219_71, x219_72, x219_73, x219_75, x219_76, c164, e1, xb_f, Option.bind_some, Option.toList_some, Option.toList_none, List.cons_append, List.nil_append, Option.isSome_some, if_true, eq_self, or_true, true_or, xb_01, mcl_cl, not_true_eq_false, not_false_eq_true, if_false]
  · have e1 : mSlot i = true := by simpa using e1
    rw [if_neg (by rw [e1]; simp)]
    by_cases f1 : mSlot j = false
    · rw [if_pos f1]
      simp only [x219_0, x219_1, x219_4, x219_7, x219_8, x219_11, x219_14, x219_15, x219_16, x219_17, x219_20, x219_21, x219_22, x219_24, x219_27, x219_28, x219_31, x219_32, x219_33, x219_35, x219_38, x219_40, x219_41, x219_42, x219_43, x219_46, x219_49, x219_50, x219_51, x219_54, x219_57, x219_59, x219_60, x219_61, x219_64, x219_65, x219_66, x219_67, x219_68, x219_71, x219_72, x219_73, x219_75, x219_76, c164, e1, f1, xb_t, xb_f, i32_10, Option.bind_some, Option.toList_some, Option.toList_none, List.cons_append, List.nil_append, Option.isSome_some, if_true, eq_self, or_true, true_or, xb_01, mcl_cl, not_true_eq_false, not_false_eq_true, if_false]
    · have f1 : mSlot j = true := by simpa using f1
      rw [if_neg (by rw [f1]; simp)]
      obtain ⟨e2, e3⟩ := mSlot_eq e1
      obtain ⟨f2, f3⟩ := mSlot_eq f1
      rw [e2] at e1
      rw [f2] at f1
      generalize tn i = s at *
      generalize tn j = y at *
      subst e2
      subst f2
      by_cases e4 : S.2.2.1 7 s = -11
      · rw [if_pos e4]
        simp only [x219_0, x219_1, x219_4, x219_7, x219_8, x219_11, x219_14, x219_15, x219_16, x219_17, x219_20, x219_21, x219_22, x219_24, x219_27, x219_28, x219_31, x219_32, x219_33, x219_35, x219_38, x219_40, x219_41, x219_42, x219_43, x219_46, x219_49, x219_50, x219_51, x219_54, x219_57, x219_59, x219_60, x219_61, x219_64, x219_65, x219_66, x219_67, x219_68, x219_71, x219_72, x219_73, x219_75, x219_76, c164, e1, f1, mf_7, ml_7, xin_nI e3 (by decide), nI_clamp (lt31 e3 (by decide)), e4, xb_t, i32_10, Option.bind_some, Option.toList_some, Option.toList_none, List.cons_append, List.nil_append, Option.isSome_some, if_true, eq_self, or_true, true_or, xb_01, mcl_cl, not_true_eq_false, not_false_eq_true, if_false]
      · rw [if_neg e4]
        by_cases f4 : S.2.2.1 7 y = -11
        · rw [if_pos f4]
          simp only [x219_0, x219_1, x219_4, x219_7, x219_8, x219_11, x219_14, x219_15, x219_16, x219_17, x219_20, x219_21, x219_22, x219_24, x219_27, x219_28, x219_31, x219_32, x219_33, x219_35, x219_38, x219_40, x219_41, x219_42, x219_43, x219_46, x219_49, x219_50, x219_51, x219_54, x219_57, x219_59, x219_60, x219_61, x219_64, x219_65, x219_66, x219_67, x219_68, x219_71, x219_72, x219_73, x219_75, x219_76, c164, e1, f1, mf_7, ml_7, xin_nI e3 (by decide), nI_clamp (lt31 e3 (by decide)), xin_nI f3 (by decide), nI_clamp (lt31 f3 (by decide)), e4, f4, xb_t, i32_10, Option.bind_some, Option.toList_some, Option.toList_none, List.cons_append, List.nil_append, Option.isSome_some, if_true, eq_self, or_true, true_or, xb_01, mcl_cl, not_true_eq_false, not_false_eq_true, if_false]
        · rw [if_neg f4]
          by_cases e5 : mRow S s = false
          · rw [if_pos e5]
            simp only [x219_0, x219_1, x219_4, x219_7, x219_8, x219_11, x219_14, x219_15, x219_16, x219_17, x219_20, x219_21, x219_22, x219_24, x219_27, x219_28, x219_31, x219_32, x219_33, x219_35, x219_38, x219_40, x219_41, x219_42, x219_43, x219_46, x219_49, x219_50, x219_51, x219_54, x219_57, x219_59, x219_60, x219_61, x219_64, x219_65, x219_66, x219_67, x219_68, x219_71, x219_72, x219_73, x219_75, x219_76, c164, c165 e3, e1, f1, mf_7, ml_7, xin_nI e3 (by decide), nI_clamp (lt31 e3 (by decide)), xin_nI f3 (by decide), nI_clamp (lt31 f3 (by decide)), e4, f4, e5, xb_t, xb_f, i32_10, Option.bind_some, Option.toList_some, Option.toList_none, List.cons_append, List.nil_append, Option.isSome_some, if_true, eq_self, or_true, true_or, xb_01, mcl_cl, not_true_eq_false, not_false_eq_true, if_false]
          · have e5 : mRow S s = true := by simpa using e5
            rw [if_neg (by rw [e5]; simp)]
            by_cases f5 : mRow S y = false
            · rw [if_pos f5]
              simp only [x219_0, x219_1, x219_4, x219_7, x219_8, x219_11, x219_14, x219_15, x219_16, x219_17, x219_20, x219_21, x219_22, x219_24, x219_27, x219_28, x219_31, x219_32, x219_33, x219_35, x219_38, x219_40, x219_41, x219_42, x219_43, x219_46, x219_49, x219_50, x219_51, x219_54, x219_57, x219_59, x219_60, x219_61, x219_64, x219_65, x219_66, x219_67, x219_68, x219_71, x219_72, x219_73, x219_75, x219_76, c164, c165 e3, c165 f3, e1, f1, mf_7, ml_7, xin_nI e3 (by decide), nI_clamp (lt31 e3 (by decide)), xin_nI f3 (by decide), nI_clamp (lt31 f3 (by decide)), e4, f4, e5, f5, xb_t, xb_f, i32_10, Option.bind_some, Option.toList_some, Option.toList_none, List.cons_append, List.nil_append, Option.isSome_some, if_true, eq_self, or_true, true_or, xb_01, mcl_cl, not_true_eq_false, not_false_eq_true, if_false]
            · have f5 : mRow S y = true := by simpa using f5
              rw [if_neg (by rw [f5]; simp)]
              obtain ⟨e6, hr⟩ := mRow_eq e5
              obtain ⟨f6, ht⟩ := mRow_eq f5
              have h1 := l219 (g := g) (n := n) (kc := kc) (ks := ks) (mu := mu) hz hv hr ht (nI s) (nI y) (min (mz S (mr S s)) (mz S (mr S y))) 0 (by omega)
              have h1' : X g 219 78 [.val (va_rf (some mu)), .val (.int (nI s)), .val (.int (nI y)), .val (.int (nI (mr S s))), .val (.int (nI (mr S y))), .val (.int 0)] [] (mH n kc ks mu S) = _ := h1
              rw [e6] at e4
              rw [f6] at f4
              simp only [x219_0, x219_1, x219_4, x219_7, x219_8, x219_11, x219_14, x219_15, x219_16, x219_17, x219_20, x219_21, x219_22, x219_24, x219_27, x219_28, x219_31, x219_32, x219_33, x219_35, x219_38, x219_40, x219_41, x219_42, x219_43, x219_46, x219_49, x219_50, x219_51, x219_54, x219_57, x219_59, x219_60, x219_61, x219_64, x219_65, x219_66, x219_67, x219_68, x219_71, x219_72, x219_73, x219_75, x219_76, c164, c165 e3, c165 f3, e1, f1, mf_7, ml_7, xin_nI e3 (by decide), nI_clamp (lt31 e3 (by decide)), xin_nI f3 (by decide), nI_clamp (lt31 f3 (by decide)), e4, f4, e5, f5, e6, f6, xb_t, i32_10, h1', Option.bind_some, Option.toList_some, Option.toList_none, List.cons_append, List.nil_append, Option.isSome_some, if_true, eq_self, or_true, true_or, xb_01, mcl_cl, not_true_eq_false, not_false_eq_true, if_false]
              obtain ⟨z1, z2⟩ := mz_eq hz hr
              obtain ⟨z3, z4⟩ := mz_eq hz ht
              have hm := mUnl_le (f := sEqv S (mr S s) (mr S y)) (min (mz S (mr S s)) (mz S (mr S y))) 0
              unfold sDf
              generalize mUnl (sEqv S (mr S s) (mr S y)) 0 (min (mz S (mr S s)) (mz S (mr S y))) = o at *
              have q1 : (nI o = nI (mz S (mr S s))) = (o = mz S (mr S s)) := propext (nI_eq (by omega) (by omega))
              have q2 : (nI o = nI (mz S (mr S y))) = (o = mz S (mr S y)) := propext (nI_eq (by omega) (by omega))
              by_cases y1 : o = mz S (mr S s)
              · by_cases y2 : o = mz S (mr S y)
                · rw [if_pos ⟨y1, y2⟩]
                  simp only [x219_163, x219_165, x219_166, x219_169, x219_170, x219_171, x219_174, x219_176, x219_177, x219_180, x219_182, x219_183, x219_186, x219_188, x219_191, x219_193, mf_3, ml_3, xin_nI hr (by decide), nI_clamp (lt31 hr (by decide)), xin_nI ht (by decide), nI_clamp (lt31 ht (by decide)), z1, z3, q1, q2, eq_true y1, eq_true y2, Option.bind_some, Option.toList_some, Option.toList_none, List.cons_append, List.nil_append, Option.isSome_some, if_true, eq_self, or_true, true_or, xb_01, mcl_cl, not_true_eq_false, not_false_eq_true, if_false]
                · rw [if_neg (fun z => y2 z.2)]
                  simp only [x219_163, x219_165, x219_166, x219_169, x219_170, x219_171, x219_174, x219_176, x219_177, x219_180, x219_182, x219_183, x219_186, x219_188, x219_191, x219_193, mf_3, ml_3, xin_nI hr (by decide), nI_clamp (lt31 hr (by decide)), xin_nI ht (by decide), nI_clamp (lt31 ht (by decide)), z1, z3, q1, q2, eq_true y1, y2, Option.bind_some, Option.toList_some, Option.toList_none, List.cons_append, List.nil_append, Option.isSome_some, if_true, eq_self, or_true, true_or, xb_01, mcl_cl, not_true_eq_false, not_false_eq_true, if_false]
              · rw [if_neg (fun z => y1 z.1)]
                simp only [x219_163, x219_165, x219_166, x219_169, x219_170, x219_171, x219_174, x219_176, x219_177, x219_180, x219_182, x219_183, x219_186, x219_188, x219_191, x219_193, mf_3, ml_3, xin_nI hr (by decide), nI_clamp (lt31 hr (by decide)), xin_nI ht (by decide), nI_clamp (lt31 ht (by decide)), z1, z3, q1, q2, y1, Option.bind_some, Option.toList_some, Option.toList_none, List.cons_append, List.nil_append, Option.isSome_some, if_true, eq_self, or_true, true_or, xb_01, mcl_cl, not_true_eq_false, not_false_eq_true, if_false]
-- digests
def sDgR (S : MS) (r : Nat) : Int64 := mDig (fun p => S.2.2.1 5 (32 * r + p)) (fun p => S.2.2.2 6 (32 * r + p)) 0 (mz S r) (31 * (220 + (S.2.2.1 2 r).toInt64) + (nI (mz S r)).toInt64)
def sDg (S : MS) (s : Nat) : Int64 := if S.2.2.1 7 s = -11 then 218 else if mRow S s = false then 6789 + (S.2.2.1 8 s).toInt64 else sDgR S (mr S s)
theorem l220 (hz : mZ S) (hr : r < 10) (i0 : Int32) : ∀ d p z, p + d = mz S r → X g 220 69 [.val (va_rf (some mu)), .val (.int i0), .val (.int (nI r)), .val (.long z), .second, .val (.int (nI p))] [] (mH n kc ks mu S) = some (some (.long (mDig (fun p => S.2.2.1 5 (32 * r + p)) (fun p => S.2.2.2 6 (32 * r + p)) p d z)), mH n kc ks mu S) := by
  obtain ⟨z1, z2⟩ := mz_eq hz hr
  intro d
  induction d with
  | zero =>
    intro p z hp
    have h1 : nI (mz S r) ≤ nI p := nI_le (by omega) (by omega)
    simp only [x220_0, x220_1, x220_4, x220_5, x220_6, x220_8, x220_11, x220_14, x220_15, x220_16, x220_17, x220_20, x220_23, x220_26, x220_27, x220_30, x220_31, x220_32, x220_33, x220_34, x220_35, x220_36, x220_39, x220_40, x220_41, x220_42, x220_45, x220_48, x220_49, x220_52, x220_53, x220_54, x220_55, x220_56, x220_57, x220_58, x220_61, x220_62, x220_63, x220_64, x220_65, x220_66, x220_67, x220_69, x220_71, x220_72, x220_75, x220_76, x220_77, x220_80, x220_83, x220_84, x220_85, x220_86, x220_89, x220_91, x220_92, x220_93, x220_95, x220_96, x220_97, x220_98, x220_99, x220_100, x220_103, x220_104, x220_105, x220_106, x220_109, x220_111, x220_112, x220_113, x220_115, x220_116, x220_117, x220_118, x220_119, x220_125, x220_126, mf_3, ml_3, xin_nI hr (by decide), nI_clamp (lt31 hr (by decide)), z1, h1, mDig, Option.bind_some, Option.toList_some, Option.toList_none, List.cons_append, List.nil_append, Option.isSome_some, if_true, eq_self, or_true, true_or, xb_01, mcl_cl, not_true_eq_false, not_false_eq_true, if_false]
  | succ d ih =>
    intro p z hp
    have h1 : ¬ nI (mz S r) ≤ nI p := nI_ge (by omega) (by omega)
    have c1 : 32 * r + p < 320 := by omega
    simp only [x220_0, x220_1, x220_4, x220_5, x220_6, x220_8, x220_11, x220_14, x220_15, x220_16, x220_17, x220_20, x220_23, x220_26, x220_27, x220_30, x220_31, x220_32, x220_33, x220_34, x220_35, x220_36, x220_39, x220_40, x220_41, x220_42, x220_45, x220_48, x220_49, x220_52, x220_53, x220_54, x220_55, x220_56, x220_57, x220_58, x220_61, x220_62, x220_63, x220_64, x220_65, x220_66, x220_67, x220_69, x220_71, x220_72, x220_75, x220_76, x220_77, x220_80, x220_83, x220_84, x220_85, x220_86, x220_89, x220_91, x220_92, x220_93, x220_95, x220_96, x220_97, x220_98, x220_99, x220_100, x220_103, x220_104, x220_105, x220_106, x220_109, x220_111, x220_112, x220_113, x220_115, x220_116, x220_117, x220_118, x220_119, x220_125, x220_126, mf_3, ml_3, mf_5, ml_5, mf_6, ml_6, xin_nI hr (by decide), nI_clamp (lt31 hr (by decide)), z1, h1, nI_cell, xin_nI c1 (by decide), nI_clamp (lt31 c1 (by decide)), Option.bind_some, Option.toList_some, Option.toList_none, List.cons_append, List.nil_append, Option.isSome_some, if_true, eq_self, or_true, true_or, xb_01, mcl_cl, not_true_eq_false, not_false_eq_true, if_false]
    simp only [x220_122, nI_1]
    rw [ih (p + 1) _ (by omega), mDig]
theorem e220 (hz : mZ S) (hs : s < 10) : X g 220 0 [.val (va_rf (some mu)), .val (.int (nI s)), .unset, .unset, .unset, .unset] [] (mH n kc ks mu S) = some (some (.long (sDg S s)), mH n kc ks mu S) := by
  unfold sDg
  by_cases e4 : S.2.2.1 7 s = -11
  · rw [if_pos e4]
    simp only [x220_0, x220_1, x220_4, x220_5, x220_6, x220_8, x220_11, x220_14, x220_15, x220_16, x220_17, x220_20, x220_23, x220_26, x220_27, x220_30, x220_31, x220_32, x220_33, x220_34, x220_35, x220_36, x220_39, x220_40, x220_41, x220_42, x220_45, x220_48, x220_49, x220_52, x220_53, x220_54, x220_55, x220_56, x220_57, x220_58, x220_61, x220_62, x220_63, x220_64, x220_65, x220_66, x220_67, mf_7, ml_7, xin_nI hs (by decide), nI_clamp (lt31 hs (by decide)), e4, Option.bind_some, Option.toList_some, Option.toList_none, List.cons_append, List.nil_append, Option.isSome_some, if_true, eq_self, or_true, true_or, xb_01, mcl_cl, not_true_eq_false, not_false_eq_true, if_false]
  · rw [if_neg e4]
    by_cases e5 : mRow S s = false
    · rw [if_pos e5]
      simp only [x220_0, x220_1, x220_4, x220_5, x220_6, x220_8, x220_11, x220_14, x220_15, x220_16, x220_17, x220_20, x220_23, x220_26, x220_27, x220_30, x220_31, x220_32, x220_33, x220_34, x220_35, x220_36, x220_39, x220_40, x220_41, x220_42, x220_45, x220_48, x220_49, x220_52, x220_53, x220_54, x220_55, x220_56, x220_57, x220_58, x220_61, x220_62, x220_63, x220_64, x220_65, x220_66, x220_67, c165 hs, mf_7, ml_7, mf_8, ml_8, xin_nI hs (by decide), nI_clamp (lt31 hs (by decide)), e4, e5, xb_f, Option.bind_some, Option.toList_some, Option.toList_none, List.cons_append, List.nil_append, Option.isSome_some, if_true, eq_self, or_true, true_or, xb_01, mcl_cl, not_true_eq_false, not_false_eq_true, if_false]
    · have e5 : mRow S s = true := by simpa using e5
      rw [if_neg (by rw [e5]; simp)]
      obtain ⟨e6, hr⟩ := mRow_eq e5
      obtain ⟨z1, z2⟩ := mz_eq hz hr
      have h1 := l220 (g := g) (n := n) (kc := kc) (ks := ks) (mu := mu) hz hr (nI s) (mz S (mr S s)) 0 (31 * (220 + (S.2.2.1 2 (mr S s)).toInt64) + (nI (mz S (mr S s))).toInt64) (by omega)
      have h1' : X g 220 69 [.val (va_rf (some mu)), .val (.int (nI s)), .val (.int (nI (mr S s))), .val (.long (31 * (220 + (S.2.2.1 2 (mr S s)).toInt64) + (nI (mz S (mr S s))).toInt64)), .second, .val (.int 0)] [] (mH n kc ks mu S) = some (some (.long (sDgR S (mr S s))), mH n kc ks mu S) := h1
      rw [e6] at e4
      simp only [x220_0, x220_1, x220_4, x220_5, x220_6, x220_8, x220_11, x220_14, x220_15, x220_16, x220_17, x220_20, x220_23, x220_26, x220_27, x220_30, x220_31, x220_32, x220_33, x220_34, x220_35, x220_36, x220_39, x220_40, x220_41, x220_42, x220_45, x220_48, x220_49, x220_52, x220_53, x220_54, x220_55, x220_56, x220_57, x220_58, x220_61, x220_62, x220_63, x220_64, x220_65, x220_66, x220_67, c165 hs, mf_7, ml_7, mf_2, ml_2, mf_3, ml_3, xin_nI hs (by decide), nI_clamp (lt31 hs (by decide)), xin_nI hr (by decide), nI_clamp (lt31 hr (by decide)), e4, e5, e6, z1, xb_t, i32_10, h1', Option.bind_some, Option.toList_some, Option.toList_none, List.cons_append, List.nil_append, Option.isSome_some, if_true, eq_self, or_true, true_or, xb_01, mcl_cl, not_true_eq_false, not_false_eq_true, if_false]
theorem l221 (hz : mZ S) (i0 : Int32) : ∀ d s z, s + d = 10 → X g 221 27 [.val (va_rf (some mu)), .val (.int i0), .val (.long z), .second, .val (.int (nI s))] [] (mH n kc ks mu S) = some (some (.long (mFold (sDg S) s d z)), mH n kc ks mu S) := by
  intro d
  induction d with
  | zero =>
    intro s z hs
    have h1 : (10 : Int32) ≤ nI s := nI_le (a := 10) (by omega) (by omega)
    simp only [x221_0, x221_1, x221_4, x221_7, x221_8, x221_9, x221_12, x221_13, x221_14, x221_15, x221_18, x221_21, x221_22, x221_23, x221_24, x221_25, x221_27, x221_29, x221_31, x221_34, x221_37, x221_38, x221_39, x221_40, x221_42, x221_45, x221_46, x221_47, x221_53, x221_54, h1, mFold, Option.bind_some, Option.toList_some, Option.toList_none, List.cons_append, List.nil_append, Option.isSome_some, if_true, eq_self, or_true, true_or, xb_01, mcl_cl, not_true_eq_false, not_false_eq_true, if_false]
  | succ d ih =>
    intro s z hs
    have h1 : ¬ (10 : Int32) ≤ nI s := nI_ge (b := 10) (by omega) (by decide)
    have h0 : s < 10 := by omega
    simp only [x221_0, x221_1, x221_4, x221_7, x221_8, x221_9, x221_12, x221_13, x221_14, x221_15, x221_18, x221_21, x221_22, x221_23, x221_24, x221_25, x221_27, x221_29, x221_31, x221_34, x221_37, x221_38, x221_39, x221_40, x221_42, x221_45, x221_46, x221_47, x221_53, x221_54, h1, e220 hz h0, Option.bind_some, Option.toList_some, Option.toList_none, List.cons_append, List.nil_append, Option.isSome_some, if_true, eq_self, or_true, true_or, xb_01, mcl_cl, not_true_eq_false, not_false_eq_true, if_false]
    simp only [x221_50, nI_1]
    rw [ih (s + 1) _ (by omega), mFold]
def fDig (S : MS) (i : Int32) : Int64 := if mSlot i = true then sDg S (tn i) else if ¬ i = -1 then -9223372036854775808 else mFold (sDg S) 0 10 1
theorem e221 (hz : mZ S) : X g 221 0 [.val (va_rf (some mu)), .val (.int i), .unset, .unset, .unset] [] (mH n kc ks mu S) = some (some (.long (fDig S i)), mH n kc ks mu S) := by
  unfold fDig
  by_cases e1 : mSlot i = true
  · obtain ⟨e2, e3⟩ := mSlot_eq e1
    rw [if_pos e1]
    rw [e2] at e1
    generalize tn i = s at *
    subst e2
    simp only [x221_0, x221_1, x221_4, x221_7, x221_8, x221_9, x221_12, x221_13, x221_14, x221_15, x221_18, x221_21, x221_22, x221_23, x221_24, x221_25, c164, e1, e220 hz e3, xb_t, i32_10, Option.bind_some, Option.toList_some, Option.toList_none, List.cons_append, List.nil_append, Option.isSome_some, if_true, eq_self, or_true, true_or, xb_01, mcl_cl, not_true_eq_false, not_false_eq_true, if_false]
  · have e1 : mSlot i = false := by simpa using e1
    rw [if_neg (by rw [e1]; simp)]
    by_cases e2 : i = -1
    · rw [if_neg (fun z => z e2)]
      have h1 := l221 (g := g) (n := n) (kc := kc) (ks := ks) (mu := mu) (S := S) hz i 10 0 1 rfl
      have h1' : X g 221 27 [.val (va_rf (some mu)), .val (.int i), .val (.long 1), .second, .val (.int 0)] [] (mH n kc ks mu S) = some (some (.long (mFold (sDg S) 0 10 1)), mH n kc ks mu S) := h1
      subst e2
      simp only [x221_0, x221_1, x221_4, x221_7, x221_8, x221_9, x221_12, x221_13, x221_14, x221_15, x221_18, x221_21, x221_22, x221_23, x221_24, x221_25, c164, e1, xb_f, h1', Option.bind_some, Option.toList_some, Option.toList_none, List.cons_append, List.nil_append, Option.isSome_some, if_true, eq_self, or_true, true_or, xb_01, mcl_cl, not_true_eq_false, not_false_eq_true, if_false]
    · rw [if_pos e2]
      simp only [x221_0, x221_1, x221_4, x221_7, x221_8, x221_9, x221_12, x221_13, x221_14, x221_15, x221_18, x221_21, x221_22, x221_23, x221_24, x221_25, c164, e1, e2, xb_f, Option.bind_some, Option.toList_some, Option.toList_none, List.cons_append, List.nil_append, Option.isSome_some, if_true, eq_self, or_true, true_or, xb_01, mcl_cl, not_true_eq_false, not_false_eq_true, if_false]
-- stop, act, paper, feed
def fStop (S : MS) (i : Int32) : Int32 := if mWithin i.toInt 0 2 = false then -1 else if S.1 25 = 0 then -3 else S.2.2.1 26 (tn i)
theorem e209 : X g 209 0 [.val (va_rf (some mu)), .val (.int i)] [] (mH n kc ks mu S) = some (some (.int (fStop S i)), mH n kc ks mu S) := by
  unfold fStop
  by_cases e6 : mWithin i.toInt 0 2 = false
  · have e7 : mWithin i.toInt (Int64.toInt 0) (Int64.toInt 2) = false := e6
    rw [if_pos e6]
    simp only [x209_0, x209_1, x209_2, x209_3, x209_6, x209_9, x209_12, x209_13, x209_14, x209_15, x209_18, x209_21, x209_22, x209_25, x209_26, x209_27, x209_30, x209_32, c154, i32_64, e7, xb_f, Option.bind_some, Option.toList_some, Option.toList_none, List.cons_append, List.nil_append, Option.isSome_some, if_true, eq_self, or_true, true_or, xb_01, mcl_cl, not_true_eq_false, not_false_eq_true, if_false]
  · have e6 : mWithin i.toInt 0 2 = true := by simpa using e6
    have e7 : mWithin i.toInt (Int64.toInt 0) (Int64.toInt 2) = true := e6
    rw [if_neg (by rw [e6]; simp)]
    have hi := mWithin_iff.mp e6
    have e8 := nI_tn hi.1
    have e9 : tn i < 3 := by unfold tn; omega
    rw [e8] at e7
    generalize tn i = z at *
    subst e8
    by_cases e : S.1 25 = 0 <;> simp only [x209_0, x209_1, x209_2, x209_3, x209_6, x209_9, x209_12, x209_13, x209_14, x209_15, x209_18, x209_21, x209_22, x209_25, x209_26, x209_27, x209_30, x209_32, c154, i32_64, e7, mf_25, mf_26, ml_26, xin_nI e9 (by decide), nI_clamp (lt31 e9 (by decide)), e, xb_t, i32_10, Option.bind_some, Option.toList_some, Option.toList_none, List.cons_append, List.nil_append, Option.isSome_some, if_true, eq_self, or_true, true_or, xb_01, mcl_cl, not_true_eq_false, not_false_eq_true, if_false]
def fPaper (S : MS) (i : Int32) : Int32 := if mWithin i.toInt 0 (S.1 30 - 1).toInt = false then -1 else S.2.2.1 29 (tn i)
theorem e225 (h0 : 0 ≤ (S.1 30).toInt) (h8 : (S.1 30).toInt ≤ 800) : X g 225 0 [.val (va_rf (some mu)), .val (.int i)] [] (mH n kc ks mu S) = some (some (.int (fPaper S i)), mH n kc ks mu S) := by
  unfold fPaper
  by_cases e6 : mWithin i.toInt 0 (S.1 30 - 1).toInt = false
  · have e7 : mWithin i.toInt (Int64.toInt 0) (S.1 30 - 1).toInt = false := e6
    rw [if_pos e6]
    simp only [x225_0, x225_1, x225_2, x225_3, x225_4, x225_7, x225_8, x225_9, x225_10, x225_13, x225_16, x225_17, x225_20, x225_21, x225_22, x225_25, x225_26, mf_30, c154, i32_64, e7, xb_f, Option.bind_some, Option.toList_some, Option.toList_none, List.cons_append, List.nil_append, Option.isSome_some, if_true, eq_self, or_true, true_or, xb_01, mcl_cl, not_true_eq_false, not_false_eq_true, if_false]
  · have e6 : mWithin i.toInt 0 (S.1 30 - 1).toInt = true := by simpa using e6
    have e7 : mWithin i.toInt (Int64.toInt 0) (S.1 30 - 1).toInt = true := e6
    rw [if_neg (by rw [e6]; simp)]
    have hi := mWithin_iff.mp e6
    rw [i32_pred h0] at hi
    have e8 := nI_tn hi.1
    have e9 : tn i < 800 := by unfold tn; omega
    rw [e8] at e7
    generalize tn i = z at *
    subst e8
    simp only [x225_0, x225_1, x225_2, x225_3, x225_4, x225_7, x225_8, x225_9, x225_10, x225_13, x225_16, x225_17, x225_20, x225_21, x225_22, x225_25, x225_26, mf_30, mf_29, ml_29, c154, i32_64, e7, xin_nI e9 (by decide), nI_clamp (lt31 e9 (by decide)), xb_t, i32_10, Option.bind_some, Option.toList_some, Option.toList_none, List.cons_append, List.nil_append, Option.isSome_some, if_true, eq_self, or_true, true_or, xb_01, mcl_cl, not_true_eq_false, not_false_eq_true, if_false]
def fFeed (S : MS) (i : Int32) : Int32 × MS := if mWithin i.toInt 1 127 = false then (-2, S) else if S.1 34 = 120 then (-4, S) else (S.1 34 + 1, msI (msA S 33 (tn (S.1 34)) i) 34 (S.1 34 + 1))
theorem e226 {l : Nat} (hl : S.1 34 = nI l) (h8 : l ≤ 120) : X g 226 0 [.val (va_rf (some mu)), .val (.int i)] [] (mH n kc ks mu S) = some (some (.int (fFeed S i).1), mH n kc ks mu (fFeed S i).2) := by
  unfold fFeed
  by_cases e6 : mWithin i.toInt 1 127 = false
  · have e7 : mWithin i.toInt (Int64.toInt 1) (Int64.toInt 127) = false := e6
    rw [if_pos e6]
    simp only [x226_0, x226_1, x226_2, x226_3, x226_6, x226_9, x226_12, x226_14, x226_15, x226_16, x226_19, x226_21, x226_24, x226_26, x226_27, x226_28, x226_31, x226_32, x226_35, x226_36, x226_37, x226_38, x226_39, x226_42, x226_43, x226_44, x226_47, x226_48, x226_51, c154, i32_64, e7, xb_f, Option.bind_some, Option.toList_some, Option.toList_none, List.cons_append, List.nil_append, Option.isSome_some, if_true, eq_self, or_true, true_or, xb_01, mcl_cl, not_true_eq_false, not_false_eq_true, if_false]
  · have e6 : mWithin i.toInt 1 127 = true := by simpa using e6
    have e7 : mWithin i.toInt (Int64.toInt 1) (Int64.toInt 127) = true := e6
    rw [if_neg (by rw [e6]; simp)]
    by_cases e : S.1 34 = 120
    · rw [if_pos e]
      simp only [x226_0, x226_1, x226_2, x226_3, x226_6, x226_9, x226_12, x226_14, x226_15, x226_16, x226_19, x226_21, x226_24, x226_26, x226_27, x226_28, x226_31, x226_32, x226_35, x226_36, x226_37, x226_38, x226_39, x226_42, x226_43, x226_44, x226_47, x226_48, x226_51, c154, i32_64, e7, mf_34, e, xb_t, i32_10, Option.bind_some, Option.toList_some, Option.toList_none, List.cons_append, List.nil_append, Option.isSome_some, if_true, eq_self, or_true, true_or, xb_01, mcl_cl, not_true_eq_false, not_false_eq_true, if_false]
    · rw [if_neg e]
      have e9 : l < 120 := by
        rcases Nat.lt_or_ge l 120 with z | z
        · exact z
        · have : l = 120 := by omega
          subst this
          exact absurd hl e
      rw [hl] at e
      rw [hl, tn_nI (by omega)]
      simp only [x226_0, x226_1, x226_2, x226_3, x226_6, x226_9, x226_12, x226_14, x226_15, x226_16, x226_19, x226_21, x226_24, x226_26, x226_27, x226_28, x226_31, x226_32, x226_35, x226_36, x226_37, x226_38, x226_39, x226_42, x226_43, x226_44, x226_47, x226_48, x226_51, c154, i32_64, e7, mf_34, mf_33, ms_33, mp_34, hl, e, xin_nI e9 (by decide), nI_clamp (lt31 e9 (by decide)), nI_1, xb_t, i32_10, msA1, msA2, msA3, msA4, msB1, msB2, msB3, msB4, msI1, msI2, msI3, msI4, msL1, msL2, msL3, msL4, Nat.reduceEqDiff, false_and, true_and, and_false, and_true, and_self, Option.bind_some, Option.toList_some, Option.toList_none, List.cons_append, List.nil_append, Option.isSome_some, if_true, eq_self, or_true, true_or, xb_01, mcl_cl, not_true_eq_false, not_false_eq_true, if_false]
end M12
