/-! THE CLASS's methods, 6: kinds -/
section K6
variable {g : xG} {h : xH} {E F P Q s c : Nat} {d : UInt64} {f : UInt32} {a k i j m : Int32} {u v b x y : Int64}
/-- the class's way from a float's value to its bits -/
theorem flt2 (hf : f.toNat = 0 ∨ (95 * 2 ^ 23 ≤ f.toNat % 2 ^ 31 ∧ f.toNat % 2 ^ 31 < 191 * 2 ^ 23)) : isNaN64 (FP.f2d f) = false ∧ ∃ D, X g 50 0 [.val (.double (FP.f2d f)), .second, .unset, .unset, .unset, .unset, .unset, .unset, .unset] [] h = some (some (.long D), h) ∧ X g 51 0 [.val (.long D), .second, .unset, .unset, .unset, .unset, .unset] [] h = some (some (.long f.toInt32.toInt64), h) := by
  have hlt := f.toNat_lt
  have hfin : FP.Core.FFin f := by rw [FP.Core.fin_bits32]; omega
  have hcore : FP.f2d f = FP.Core.f2d f := f2d_core hfin
  refine ⟨by rw [hcore]; exact fin64 (FP.Core.f2d_fin hfin), ?_⟩
  rcases hf with hz | ⟨h1, h2⟩
  · have e : f = 0 := UInt32.toNat_inj.mp hz
    subst e
    refine ⟨0, ?_, c51z⟩
    rw [hcore]
    exact c50z (by decide +kernel)
  · obtain ⟨s, E, F, hs, hE, hE2, hF, hn⟩ : ∃ s E F, s ≤ 1 ∧ 95 ≤ E ∧ E ≤ 190 ∧ F < 2 ^ 23 ∧ f.toNat = s * 2 ^ 31 + (E * 2 ^ 23 + F) := ⟨f.toNat / 2 ^ 31, f.toNat % 2 ^ 31 / 2 ^ 23, f.toNat % 2 ^ 23, by omega, by omega, by omega, Nat.mod_lt _ (by decide), by omega⟩
    have hb := f2d_bits hn hs hF (by omega) (by omega)
    refine ⟨(FP.Core.f2d f).toInt64, ?_, ?_⟩
    · rw [hcore]
      exact c50 (E := E + 896) (F := F * 2 ^ 29) (by omega) (by omega) (by omega) (by omega)
    · have hn64 : n64 (FP.Core.f2d f).toInt64 = s * 2 ^ 63 + ((E + 896) * 2 ^ 52 + F * 2 ^ 29) := hb
      rw [c51 (P := E + 896) (Q := F) hn64 hs hF (by omega) (by omega), show E + 896 - 896 = E by omega]
      have : UInt32.ofNat (s * 2 ^ 31 + (E * 2 ^ 23 + F)) = f := by
        apply UInt32.toNat_inj.mp
        rw [UInt32.toNat_ofNat', hn]
        exact Nat.mod_eq_of_lt (by omega)
      rw [this]
theorem flt_l (v : Int64) : (FP.l2f v).toNat = 0 ∨ (95 * 2 ^ 23 ≤ (FP.l2f v).toNat % 2 ^ 31 ∧ (FP.l2f v).toNat % 2 ^ 31 < 191 * 2 ^ 23) := by
  by_cases e : v.toInt = 0
  · left
    have : v = 0 := Int64.toInt_inj.mp e
    subst this
    decide +kernel
  · right
    have h1 : 127 * 2 ^ 23 ≤ (FP.l2f v).toNat % 2 ^ 31 := (FP.Core.l2f_big e).1
    have h2 : (FP.l2f v).toNat % 2 ^ 31 ≤ 190 * 2 ^ 23 := FP.Core.fromInt_mag32 (FP.Core.toNat_l2f v) (FP.Core.int64_abs v) (by decide) (by decide)
    omega
theorem dbl_l (v : Int64) : X g 50 0 [.val (.double (FP.l2d v)), .second, .unset, .unset, .unset, .unset, .unset, .unset, .unset] [] h = some (some (.long (FP.l2d v).toInt64), h) := by
  by_cases e : v.toInt = 0
  · have : v = 0 := Int64.toInt_inj.mp e
    subst this
    rw [c50z (by decide +kernel), show (FP.l2d 0).toInt64 = 0 from by decide +kernel]
  · have h1 : 1023 * 2 ^ 52 ≤ (FP.l2d v).toNat % 2 ^ 63 := (FP.Core.l2d_big e).1
    have h2 : (FP.l2d v).toNat % 2 ^ 63 ≤ 1086 * 2 ^ 52 := FP.Core.fromInt_mag (FP.Core.toNat_l2d v) (FP.Core.int64_abs v) (by decide) (by decide)
    exact c50 (E := (FP.l2d v).toNat % 2 ^ 63 / 2 ^ 52) (F := (FP.l2d v).toNat % 2 ^ 63 % 2 ^ 52) (by omega) (by omega) (by omega) (Nat.mod_lt _ (by decide))
theorem okv_6 (hv : okv 6 v) : v = v.toInt32.toUInt32.toInt32.toInt64 ∧ (v.toInt32.toUInt32.toNat % 2 ^ 31 = 0 ∨ (2 ^ 23 ≤ v.toInt32.toUInt32.toNat % 2 ^ 31 ∧ v.toInt32.toUInt32.toNat % 2 ^ 31 < 255 * 2 ^ 23)) := hv.1 rfl
theorem c40 (hv : okv k v) (ha : a < 8) : X g 40 0 [.val (.int k), .val (.long v), .second, .val (.int a)] [] h = some (some (.long (pView k v a)), h) := by
  unfold pView
  by_cases e1 : a = k
  · rw [if_pos e1.symm]
    simp only [x40_0, x40_1, x40_2, x40_5, x40_6, x40_8, x40_11, x40_12, x40_13, x40_14, x40_16, x40_19, x40_20, x40_21, x40_22, x40_25, x40_28, x40_29, x40_30, x40_32, x40_35, x40_36, x40_39, x40_42, x40_43, x40_44, x40_47, e1, Option.bind_some, Option.toList_some, Option.toList_none, List.cons_append, List.nil_append, Option.isSome_some, if_true, eq_self, or_true, true_or, xb_01, mcl_cl, not_true_eq_false, not_false_eq_true, if_false]
  · rw [if_neg (fun z => e1 z.symm)]
    by_cases e2 : a < 6
    · rw [if_pos e2]
      have e2' : ¬ (6 : Int32) ≤ a := Int32.not_le.mpr e2
      simp only [x40_0, x40_1, x40_2, x40_5, x40_6, x40_8, x40_11, x40_12, x40_13, x40_14, x40_16, x40_19, x40_20, x40_21, x40_22, x40_25, x40_28, x40_29, x40_30, x40_32, x40_35, x40_36, x40_39, x40_42, x40_43, x40_44, x40_47, e1, e2', Option.bind_some, Option.toList_some, Option.toList_none, List.cons_append, List.nil_append, Option.isSome_some, if_true, eq_self, or_true, true_or, xb_01, mcl_cl, not_true_eq_false, not_false_eq_true, if_false]
    · rw [if_neg e2]
      have e2' : (6 : Int32) ≤ a := Int32.not_lt.mp e2
      by_cases e3 : a = 6
      · rw [if_pos e3]
        obtain ⟨n1, D, n2, n3⟩ := flt2 (g := g) (h := h) (flt_l v)
        subst e3
        simp only [x40_0, x40_1, x40_2, x40_5, x40_6, x40_8, x40_11, x40_12, x40_13, x40_14, x40_16, x40_19, x40_20, x40_21, x40_22, x40_25, x40_28, x40_29, x40_30, x40_32, x40_35, x40_36, x40_39, x40_42, x40_43, x40_44, x40_47, e1, e2', x40_21 n1, n2, n3, Option.bind_some, Option.toList_some, Option.toList_none, List.cons_append, List.nil_append, Option.isSome_some, if_true, eq_self, or_true, true_or, xb_01, mcl_cl, not_true_eq_false, not_false_eq_true, if_false]
      · rw [if_neg e3]
        unfold pReal
        by_cases e4 : k = 6
        · rw [if_pos e4]
          subst e4
          obtain ⟨o1, o2⟩ := okv_6 hv
          have h1 := c52 (g := g) (h := h) o1 o2
          have hfin := okv_f6 hv
          rw [f2d_core hfin]
          simp only [x40_0, x40_1, x40_2, x40_5, x40_6, x40_8, x40_11, x40_12, x40_13, x40_14, x40_16, x40_19, x40_20, x40_21, x40_22, x40_25, x40_28, x40_29, x40_30, x40_32, x40_35, x40_36, x40_39, x40_42, x40_43, x40_44, x40_47, e1, e2', e3, h1, Option.bind_some, Option.toList_some, Option.toList_none, List.cons_append, List.nil_append, Option.isSome_some, if_true, eq_self, or_true, true_or, xb_01, mcl_cl, not_true_eq_false, not_false_eq_true, if_false]
        · rw [if_neg e4]
          have e5 : ¬ k = 7 := by
            intro z
            apply e1
            rw [z]
            apply Int32.toInt_inj.mp
            have h1 := i32_le ▸ e2'
            have h2 := i32_lt ▸ ha
            have h3 : a.toInt ≠ (6 : Int32).toInt := fun y => e3 (Int32.toInt_inj.mp y)
            rw [show (6 : Int32).toInt = 6 from rfl] at h1 h3
            rw [show (8 : Int32).toInt = 8 from rfl] at h2
            rw [show (7 : Int32).toInt = 7 from rfl]
            omega
          rw [if_neg e5]
          simp only [x40_0, x40_1, x40_2, x40_5, x40_6, x40_8, x40_11, x40_12, x40_13, x40_14, x40_16, x40_19, x40_20, x40_21, x40_22, x40_25, x40_28, x40_29, x40_30, x40_32, x40_35, x40_36, x40_39, x40_42, x40_43, x40_44, x40_47, e1, e2', e3, e4, dbl_l, Option.bind_some, Option.toList_some, Option.toList_none, List.cons_append, List.nil_append, Option.isSome_some, if_true, eq_self, or_true, true_or, xb_01, mcl_cl, not_true_eq_false, not_false_eq_true, if_false]
theorem c41 : X g 41 0 [.val (.int k), .val (.long v), .second] [] h = some (some (.long (pBy k v)), h) := by
  unfold pBy
  by_cases e0 : k = 0
  · rw [if_pos e0]
    subst e0
    by_cases z : v = 0
    · rw [if_pos z]
      simp only [x41_0, x41_1_v0, x41_1_v1, x41_1_v2, x41_1_v3, x41_1_v4, x41_1_v5, x41_1_v6, x41_1_v7, x41_1_v8, x41_1_v9, x41_1_d, x41_56, x41_57, x41_58, x41_59, x41_62, x41_63, x41_66, x41_67, x41_68, x41_69, x41_70, x41_71, x41_72, x41_73, x41_74, x41_75, x41_76, x41_77, x41_78, x41_79, x41_80, x41_81, x41_82, x41_83, x41_84, x41_85, x41_86, x41_87, x41_88, x41_89, x41_90, x41_93, x41_96, x41_97, x41_98, x41_99, x41_102, x41_103, x41_104, x41_105, x41_106, x41_107, x41_108, x41_109, x41_110, lcmp_eq0, z, Option.bind_some, Option.toList_some, Option.toList_none, List.cons_append, List.nil_append, Option.isSome_some, if_true, eq_self, or_true, true_or, xb_01, mcl_cl, not_true_eq_false, not_false_eq_true, if_false]
    · rw [if_neg z]
      simp only [x41_0, x41_1_v0, x41_1_v1, x41_1_v2, x41_1_v3, x41_1_v4, x41_1_v5, x41_1_v6, x41_1_v7, x41_1_v8, x41_1_v9, x41_1_d, x41_56, x41_57, x41_58, x41_59, x41_62, x41_63, x41_66, x41_67, x41_68, x41_69, x41_70, x41_71, x41_72, x41_73, x41_74, x41_75, x41_76, x41_77, x41_78, x41_79, x41_80, x41_81, x41_82, x41_83, x41_84, x41_85, x41_86, x41_87, x41_88, x41_89, x41_90, x41_93, x41_96, x41_97, x41_98, x41_99, x41_102, x41_103, x41_104, x41_105, x41_106, x41_107, x41_108, x41_109, x41_110, lcmp_eq0, z, Option.bind_some, Option.toList_some, Option.toList_none, List.cons_append, List.nil_append, Option.isSome_some, if_true, eq_self, or_true, true_or, xb_01, mcl_cl, not_true_eq_false, not_false_eq_true, if_false]
  · rw [if_neg e0]
    by_cases e1 : k = 1
    · rw [if_pos e1]
      subst e1
      simp only [x41_0, x41_1_v0, x41_1_v1, x41_1_v2, x41_1_v3, x41_1_v4, x41_1_v5, x41_1_v6, x41_1_v7, x41_1_v8, x41_1_v9, x41_1_d, x41_56, x41_57, x41_58, x41_59, x41_62, x41_63, x41_66, x41_67, x41_68, x41_69, x41_70, x41_71, x41_72, x41_73, x41_74, x41_75, x41_76, x41_77, x41_78, x41_79, x41_80, x41_81, x41_82, x41_83, x41_84, x41_85, x41_86, x41_87, x41_88, x41_89, x41_90, x41_93, x41_96, x41_97, x41_98, x41_99, x41_102, x41_103, x41_104, x41_105, x41_106, x41_107, x41_108, x41_109, x41_110, Option.bind_some, Option.toList_some, Option.toList_none, List.cons_append, List.nil_append, Option.isSome_some, if_true, eq_self, or_true, true_or, xb_01, mcl_cl, not_true_eq_false, not_false_eq_true, if_false]
    · rw [if_neg e1]
      by_cases e2 : k = 2
      · rw [if_pos e2]
        subst e2
        simp only [x41_0, x41_1_v0, x41_1_v1, x41_1_v2, x41_1_v3, x41_1_v4, x41_1_v5, x41_1_v6, x41_1_v7, x41_1_v8, x41_1_v9, x41_1_d, x41_56, x41_57, x41_58, x41_59, x41_62, x41_63, x41_66, x41_67, x41_68, x41_69, x41_70, x41_71, x41_72, x41_73, x41_74, x41_75, x41_76, x41_77, x41_78, x41_79, x41_80, x41_81, x41_82, x41_83, x41_84, x41_85, x41_86, x41_87, x41_88, x41_89, x41_90, x41_93, x41_96, x41_97, x41_98, x41_99, x41_102, x41_103, x41_104, x41_105, x41_106, x41_107, x41_108, x41_109, x41_110, Option.bind_some, Option.toList_some, Option.toList_none, List.cons_append, List.nil_append, Option.isSome_some, if_true, eq_self, or_true, true_or, xb_01, mcl_cl, not_true_eq_false, not_false_eq_true, if_false]
      · rw [if_neg e2]
        by_cases e3 : k = 3
        · rw [if_pos e3]
          subst e3
          simp only [x41_0, x41_1_v0, x41_1_v1, x41_1_v2, x41_1_v3, x41_1_v4, x41_1_v5, x41_1_v6, x41_1_v7, x41_1_v8, x41_1_v9, x41_1_d, x41_56, x41_57, x41_58, x41_59, x41_62, x41_63, x41_66, x41_67, x41_68, x41_69, x41_70, x41_71, x41_72, x41_73, x41_74, x41_75, x41_76, x41_77, x41_78, x41_79, x41_80, x41_81, x41_82, x41_83, x41_84, x41_85, x41_86, x41_87, x41_88, x41_89, x41_90, x41_93, x41_96, x41_97, x41_98, x41_99, x41_102, x41_103, x41_104, x41_105, x41_106, x41_107, x41_108, x41_109, x41_110, Option.bind_some, Option.toList_some, Option.toList_none, List.cons_append, List.nil_append, Option.isSome_some, if_true, eq_self, or_true, true_or, xb_01, mcl_cl, not_true_eq_false, not_false_eq_true, if_false]
        · rw [if_neg e3]
          by_cases e4 : k = 4
          · rw [if_pos e4]
            subst e4
            simp only [x41_0, x41_1_v0, x41_1_v1, x41_1_v2, x41_1_v3, x41_1_v4, x41_1_v5, x41_1_v6, x41_1_v7, x41_1_v8, x41_1_v9, x41_1_d, x41_56, x41_57, x41_58, x41_59, x41_62, x41_63, x41_66, x41_67, x41_68, x41_69, x41_70, x41_71, x41_72, x41_73, x41_74, x41_75, x41_76, x41_77, x41_78, x41_79, x41_80, x41_81, x41_82, x41_83, x41_84, x41_85, x41_86, x41_87, x41_88, x41_89, x41_90, x41_93, x41_96, x41_97, x41_98, x41_99, x41_102, x41_103, x41_104, x41_105, x41_106, x41_107, x41_108, x41_109, x41_110, Option.bind_some, Option.toList_some, Option.toList_none, List.cons_append, List.nil_append, Option.isSome_some, if_true, eq_self, or_true, true_or, xb_01, mcl_cl, not_true_eq_false, not_false_eq_true, if_false]
          · rw [if_neg e4]
            by_cases e6 : k = 6
            · rw [if_pos e6]
              subst e6
              obtain ⟨n1, D, n2, n3⟩ := flt2 (g := g) (h := h) (flt_l v)
              simp only [x41_0, x41_1_v0, x41_1_v1, x41_1_v2, x41_1_v3, x41_1_v4, x41_1_v5, x41_1_v6, x41_1_v7, x41_1_v8, x41_1_v9, x41_1_d, x41_56, x41_57, x41_58, x41_59, x41_62, x41_63, x41_66, x41_67, x41_68, x41_69, x41_70, x41_71, x41_72, x41_73, x41_74, x41_75, x41_76, x41_77, x41_78, x41_79, x41_80, x41_81, x41_82, x41_83, x41_84, x41_85, x41_86, x41_87, x41_88, x41_89, x41_90, x41_93, x41_96, x41_97, x41_98, x41_99, x41_102, x41_103, x41_104, x41_105, x41_106, x41_107, x41_108, x41_109, x41_110, x41_89 n1, n2, n3, Option.bind_some, Option.toList_some, Option.toList_none, List.cons_append, List.nil_append, Option.isSome_some, if_true, eq_self, or_true, true_or, xb_01, mcl_cl, not_true_eq_false, not_false_eq_true, if_false]
            · rw [if_neg e6]
              by_cases e7 : k = 7
              · rw [if_pos e7]
                subst e7
                simp only [x41_0, x41_1_v0, x41_1_v1, x41_1_v2, x41_1_v3, x41_1_v4, x41_1_v5, x41_1_v6, x41_1_v7, x41_1_v8, x41_1_v9, x41_1_d, x41_56, x41_57, x41_58, x41_59, x41_62, x41_63, x41_66, x41_67, x41_68, x41_69, x41_70, x41_71, x41_72, x41_73, x41_74, x41_75, x41_76, x41_77, x41_78, x41_79, x41_80, x41_81, x41_82, x41_83, x41_84, x41_85, x41_86, x41_87, x41_88, x41_89, x41_90, x41_93, x41_96, x41_97, x41_98, x41_99, x41_102, x41_103, x41_104, x41_105, x41_106, x41_107, x41_108, x41_109, x41_110, dbl_l, Option.bind_some, Option.toList_some, Option.toList_none, List.cons_append, List.nil_append, Option.isSome_some, if_true, eq_self, or_true, true_or, xb_01, mcl_cl, not_true_eq_false, not_false_eq_true, if_false]
              · rw [if_neg e7]
                by_cases e8 : k = 8
                · rw [if_pos e8]
                  subst e8
                  simp only [x41_0, x41_1_v0, x41_1_v1, x41_1_v2, x41_1_v3, x41_1_v4, x41_1_v5, x41_1_v6, x41_1_v7, x41_1_v8, x41_1_v9, x41_1_d, x41_56, x41_57, x41_58, x41_59, x41_62, x41_63, x41_66, x41_67, x41_68, x41_69, x41_70, x41_71, x41_72, x41_73, x41_74, x41_75, x41_76, x41_77, x41_78, x41_79, x41_80, x41_81, x41_82, x41_83, x41_84, x41_85, x41_86, x41_87, x41_88, x41_89, x41_90, x41_93, x41_96, x41_97, x41_98, x41_99, x41_102, x41_103, x41_104, x41_105, x41_106, x41_107, x41_108, x41_109, x41_110, Option.bind_some, Option.toList_some, Option.toList_none, List.cons_append, List.nil_append, Option.isSome_some, if_true, eq_self, or_true, true_or, xb_01, mcl_cl, not_true_eq_false, not_false_eq_true, if_false]
                · rw [if_neg e8]
                  by_cases e9 : k = 9
                  · rw [if_pos e9]
                    subst e9
                    simp only [x41_0, x41_1_v0, x41_1_v1, x41_1_v2, x41_1_v3, x41_1_v4, x41_1_v5, x41_1_v6, x41_1_v7, x41_1_v8, x41_1_v9, x41_1_d, x41_56, x41_57, x41_58, x41_59, x41_62, x41_63, x41_66, x41_67, x41_68, x41_69, x41_70, x41_71, x41_72, x41_73, x41_74, x41_75, x41_76, x41_77, x41_78, x41_79, x41_80, x41_81, x41_82, x41_83, x41_84, x41_85, x41_86, x41_87, x41_88, x41_89, x41_90, x41_93, x41_96, x41_97, x41_98, x41_99, x41_102, x41_103, x41_104, x41_105, x41_106, x41_107, x41_108, x41_109, x41_110, Option.bind_some, Option.toList_some, Option.toList_none, List.cons_append, List.nil_append, Option.isSome_some, if_true, eq_self, or_true, true_or, xb_01, mcl_cl, not_true_eq_false, not_false_eq_true, if_false]
                  · rw [if_neg e9]
                    by_cases e5 : k = 5
                    · subst e5
                      simp only [x41_0, x41_1_v0, x41_1_v1, x41_1_v2, x41_1_v3, x41_1_v4, x41_1_v5, x41_1_v6, x41_1_v7, x41_1_v8, x41_1_v9, x41_1_d, x41_56, x41_57, x41_58, x41_59, x41_62, x41_63, x41_66, x41_67, x41_68, x41_69, x41_70, x41_71, x41_72, x41_73, x41_74, x41_75, x41_76, x41_77, x41_78, x41_79, x41_80, x41_81, x41_82, x41_83, x41_84, x41_85, x41_86, x41_87, x41_88, x41_89, x41_90, x41_93, x41_96, x41_97, x41_98, x41_99, x41_102, x41_103, x41_104, x41_105, x41_106, x41_107, x41_108, x41_109, x41_110, Option.bind_some, Option.toList_some, Option.toList_none, List.cons_append, List.nil_append, Option.isSome_some, if_true, eq_self, or_true, true_or, xb_01, mcl_cl, not_true_eq_false, not_false_eq_true, if_false]
                    · have hx : k.toInt < 0 ∨ 9 < k.toInt := by
                        have hn : ∀ c : Int32, ¬ k = c → k.toInt ≠ c.toInt := fun c hc y => hc (Int32.toInt_inj.mp y)
                        have n0 := hn _ e0
                        have n1 := hn _ e1
                        have n2 := hn _ e2
                        have n3 := hn _ e3
                        have n4 := hn _ e4
                        have n5 := hn _ e5
                        have n6 := hn _ e6
                        have n7 := hn _ e7
                        have n8 := hn _ e8
                        have n9 := hn _ e9
                        rw [show (0 : Int32).toInt = 0 from rfl] at n0
                        rw [show (1 : Int32).toInt = 1 from rfl] at n1
                        rw [show (2 : Int32).toInt = 2 from rfl] at n2
                        rw [show (3 : Int32).toInt = 3 from rfl] at n3
                        rw [show (4 : Int32).toInt = 4 from rfl] at n4
                        rw [show (5 : Int32).toInt = 5 from rfl] at n5
                        rw [show (6 : Int32).toInt = 6 from rfl] at n6
                        rw [show (7 : Int32).toInt = 7 from rfl] at n7
                        rw [show (8 : Int32).toInt = 8 from rfl] at n8
                        rw [show (9 : Int32).toInt = 9 from rfl] at n9
                        omega
                      simp only [x41_0, x41_1_d hx, x41_109, x41_110, Option.bind_some, Option.toList_some, Option.toList_none, List.cons_append, List.nil_append, Option.isSome_some, if_true, eq_self, or_true, true_or, xb_01, mcl_cl, not_true_eq_false, not_false_eq_true, if_false]
theorem c43 : X g 43 0 [.val (.int k)] [] h = some (some (.int (xb (mWithin k.toInt 0 7))), h) := by
  by_cases e1 : k < 0
  · have e2 : mWithin k.toInt 0 7 = false := by
      have h1 := i32_lt ▸ e1
      rw [show (0 : Int32).toInt = 0 from rfl] at h1
      unfold mWithin
      rw [decide_eq_false (by omega)]
      rfl
    simp only [x43_0, x43_1, x43_4, x43_5, x43_7, x43_10, x43_11, x43_14, x43_15, e1, e2, xb_f, Option.bind_some, Option.toList_some, Option.toList_none, List.cons_append, List.nil_append, Option.isSome_some, if_true, eq_self, or_true, true_or, xb_01, mcl_cl, not_true_eq_false, not_false_eq_true, if_false]
  · have h1 := Int32.not_lt.mp e1
    rw [i32_le, show (0 : Int32).toInt = 0 from rfl] at h1
    by_cases e3 : 7 < k
    · have e2 : mWithin k.toInt 0 7 = false := by
        have h2 := i32_lt ▸ e3
        rw [show (7 : Int32).toInt = 7 from rfl] at h2
        unfold mWithin
        rw [decide_eq_false (p := k.toInt ≤ 7) (by omega), Bool.and_false]
      simp only [x43_0, x43_1, x43_4, x43_5, x43_7, x43_10, x43_11, x43_14, x43_15, e1, e3, e2, xb_f, Option.bind_some, Option.toList_some, Option.toList_none, List.cons_append, List.nil_append, Option.isSome_some, if_true, eq_self, or_true, true_or, xb_01, mcl_cl, not_true_eq_false, not_false_eq_true, if_false]
    · have h2 := Int32.not_lt.mp e3
      rw [i32_le, show (7 : Int32).toInt = 7 from rfl] at h2
      have e2 : mWithin k.toInt 0 7 = true := mWithin_iff.mpr ⟨h1, h2⟩
      simp only [x43_0, x43_1, x43_4, x43_5, x43_7, x43_10, x43_11, x43_14, x43_15, e1, e3, e2, xb_t, Option.bind_some, Option.toList_some, Option.toList_none, List.cons_append, List.nil_append, Option.isSome_some, if_true, eq_self, or_true, true_or, xb_01, mcl_cl, not_true_eq_false, not_false_eq_true, if_false]
theorem c49 (hv : okv k v) : X g 49 0 [.val (.int k), .val (.long v), .second] [] h = some (some (.long (pView k v 7)), h) := by
  simp only [x49_0, x49_1, x49_2, x49_4, x49_7, c40 hv (show (7 : Int32) < 8 by decide), Option.bind_some, Option.toList_some, Option.toList_none, List.cons_append, List.nil_append, Option.isSome_some, if_true, eq_self, or_true, true_or, xb_01, mcl_cl, not_true_eq_false, not_false_eq_true, if_false]
/-- a float's whole part is its double's -/
theorem d2l_f2d (hf : FP.Core.FFin f) (hn : f.toNat % 2 ^ 31 = 0 ∨ (2 ^ 23 ≤ f.toNat % 2 ^ 31 ∧ f.toNat % 2 ^ 31 < 255 * 2 ^ 23)) : FP.Core.d2l (FP.Core.f2d f) = FP.Core.f2l f := by
  obtain ⟨h1, h2, h3⟩ := cv_units hf
  have hm : FP.Core.mag FP.Core.b32 f.toNat < FP.Core.infBits FP.Core.b32 := by
    rw [FP.Core.fin_bits32] at hf
    rw [FP.Core.mag_toNat32, FP.Core.infBits_b32]
    exact hf
  have fin2 := FP.Core.f2d_fin hf
  have z32 : FP.Core.zmag FP.Core.b32 (FP.Core.val32 f) = FP.Core.unitsOf FP.Core.b32 (FP.Core.mag FP.Core.b32 f.toNat) := FP.Core.zmag_decode FP.Core.good_b32 (Nat.le_of_lt hm)
  have z64 : FP.Core.zmag FP.Core.b64 (FP.Core.val64 (FP.Core.f2d f)) = FP.Core.unitsOf FP.Core.b32 (FP.Core.mag FP.Core.b32 f.toNat) * p2 925 := by
    show FP.Core.zmag FP.Core.b64 (FP.Core.decode FP.Core.b64 (FP.Core.f2d f).toNat) = _
    rw [FP.Core.zmag_decode FP.Core.good_b64 (Nat.le_of_lt h1)]
    rcases hn with hz | ⟨g1, g2⟩
    · have e : FP.Core.mag FP.Core.b32 f.toNat = 0 := by rw [FP.Core.mag_toNat32]; exact hz
      have u32 : FP.Core.unitsOf FP.Core.b32 0 = 0 := rfl
      have u64 : FP.Core.unitsOf FP.Core.b64 0 = 0 := rfl
      have := h3 0 (by rw [FP.Core.infBits_b64]; decide) (by rw [e, u32, u64, Nat.zero_mul])
      rw [this, e, u32, u64, Nat.zero_mul]
    · obtain ⟨E, F, hE, hE2, hF, hEF⟩ : ∃ E F, 1 ≤ E ∧ E < 255 ∧ F < 2 ^ 23 ∧ f.toNat % 2 ^ 31 = E * 2 ^ 23 + F := ⟨f.toNat % 2 ^ 31 / 2 ^ 23, f.toNat % 2 ^ 31 % 2 ^ 23, by omega, by omega, Nat.mod_lt _ (by decide), by omega⟩
      have hm2 : FP.Core.mag FP.Core.b32 f.toNat = E * 2 ^ 23 + F := by rw [FP.Core.mag_toNat32]; exact hEF
      have key : FP.Core.unitsOf FP.Core.b32 (FP.Core.mag FP.Core.b32 f.toNat) * p2 925 = FP.Core.unitsOf FP.Core.b64 ((E + 896) * 2 ^ 52 + F * 2 ^ 29) := by
        rw [hm2, units32 hE hF, units64 (by omega) (by omega), Nat.mul_assoc, ← p2_add]
        have e : 2 ^ 52 + F * 2 ^ 29 = (2 ^ 23 + F) * p2 29 := by
          rw [show p2 29 = 2 ^ 29 from rfl, Nat.add_mul]
        rw [e, Nat.mul_assoc, ← p2_add]
        refine congrArg ((2 ^ 23 + F) * ·) (p2_eq ?_)
        omega
      have h4 := h3 ((E + 896) * 2 ^ 52 + F * 2 ^ 29) (by rw [FP.Core.infBits_b64]; omega) key
      rw [h4, key]
  have o : FP.Core.one64 = FP.Core.one32 * p2 925 := by
    rw [one_p2, show FP.Core.one32 = p2 149 from rfl, ← p2_add]
  apply Int64.toInt_inj.mp
  have n32 : FP.Core.val32 f ≠ .nan := by
    obtain ⟨s, c, q, hx⟩ := hf
    rw [hx]
    intro z
    cases z
  rw [FP.Core.d2l_val (FP.Core.DFin.ne_nan fin2), FP.Core.f2l_val n32, z64, z32, o, Nat.mul_div_mul_right _ _ (p2_pos _)]
  have hs : FP.Core.sgn (FP.Core.val64 (FP.Core.f2d f)) = FP.Core.sgn (FP.Core.val32 f) := h2
  rw [hs]
theorem c44 (hv : okv k v) (hk : k < 8) : X g 44 0 [.val (.int k), .val (.long v), .second] [] h = some (some (.long (pAmt k v)), h) := by
  unfold pAmt
  by_cases e1 : k = 6
  · rw [if_neg (by rw [e1]; decide), if_pos e1]
    subst e1
    obtain ⟨o1, o2⟩ := okv_6 hv
    have hfin := okv_f6 hv
    have hp : pView 6 v 7 = (FP.Core.f2d v.toInt32.toUInt32).toInt64 := by
      unfold pView
      rw [if_neg (by decide), if_neg (by decide), if_neg (by decide)]
      unfold pReal
      rw [if_pos rfl, f2d_core hfin]
    have h1 := c49 (g := g) (h := h) hv
    rw [hp] at h1
    have h2 := c53 (g := g) (h := h) (FP.Core.f2d_fin hfin)
    rw [d2l_f2d hfin o2] at h2
    simp only [x44_0, x44_1, x44_3, x44_6, x44_7, x44_9, x44_12, x44_13, x44_14, x44_17, x44_20, x44_21, x44_22, h1, h2, Option.bind_some, Option.toList_some, Option.toList_none, List.cons_append, List.nil_append, Option.isSome_some, if_true, eq_self, or_true, true_or, xb_01, mcl_cl, not_true_eq_false, not_false_eq_true, if_false]
  · by_cases e2 : k = 7
    · rw [if_neg (by rw [e2]; decide), if_neg e1]
      subst e2
      have hp : pView 7 v 7 = v := by unfold pView; rw [if_pos rfl]
      have h1 := c49 (g := g) (h := h) hv
      rw [hp] at h1
      have h2 := c53 (g := g) (h := h) (d := v.toUInt64) (okv_d7 hv)
      have h2' : X g 53 0 [.val (.long v), .second, .unset, .unset, .unset, .unset, .unset, .unset] [] h = some (some (.long (FP.d2l v.toUInt64)), h) := h2
      simp only [x44_0, x44_1, x44_3, x44_6, x44_7, x44_9, x44_12, x44_13, x44_14, x44_17, x44_20, x44_21, x44_22, e1, h1, h2', Option.bind_some, Option.toList_some, Option.toList_none, List.cons_append, List.nil_append, Option.isSome_some, if_true, eq_self, or_true, true_or, xb_01, mcl_cl, not_true_eq_false, not_false_eq_true, if_false]
    · have e3 : k < 6 := by
        rw [i32_lt, show (6 : Int32).toInt = 6 from rfl]
        rw [i32_lt, show (8 : Int32).toInt = 8 from rfl] at hk
        have n1 : k.toInt ≠ (6 : Int32).toInt := fun y => e1 (Int32.toInt_inj.mp y)
        have n2 : k.toInt ≠ (7 : Int32).toInt := fun y => e2 (Int32.toInt_inj.mp y)
        rw [show (6 : Int32).toInt = 6 from rfl] at n1
        rw [show (7 : Int32).toInt = 7 from rfl] at n2
        omega
      rw [if_pos e3]
      simp only [x44_0, x44_1, x44_3, x44_6, x44_7, x44_9, x44_12, x44_13, x44_14, x44_17, x44_20, x44_21, x44_22, e1, e2, Option.bind_some, Option.toList_some, Option.toList_none, List.cons_append, List.nil_append, Option.isSome_some, if_true, eq_self, or_true, true_or, xb_01, mcl_cl, not_true_eq_false, not_false_eq_true, if_false]
end K6
