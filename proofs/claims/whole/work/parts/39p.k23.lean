/-! THE CLASS beside the reference, 10: small calls, 3 -/
section K23
variable {g : xG} {n kc ks a b c s t w q l x y jn d r p n' e : Nat} {G T U : GS} {h : xH} {i j k m v lo hi : Int32} {u z : Int64} {o : Option Nat} {S S1 S' : MS} {ρ κ : Nat → Nat} {L L' : List Nat} {cnt : Nat} {at' wk ik : Nat → Int32} {wv iv : Nat → Int64}
theorem wi_1 (c1 : i < lo) : mWithin i.toInt lo.toInt hi.toInt = false := by
  rw [i32_lt] at c1
  exact Bool.eq_false_iff.mpr (fun z => by have := mWithin_iff.mp z; omega)
theorem wi_2 (c1 : hi < i) : mWithin i.toInt lo.toInt hi.toInt = false := by
  rw [i32_lt] at c1
  exact Bool.eq_false_iff.mpr (fun z => by have := mWithin_iff.mp z; omega)
theorem wi_3 (c1 : ¬ i < lo) (c2 : ¬ hi < i) : mWithin i.toInt lo.toInt hi.toInt = true := by
  rw [i32_lt] at c1 c2
  exact mWithin_iff.mpr ⟨by omega, by omega⟩
theorem c128 : X g 128 0 [.val (.int i)] [] h = some (some (.int (xb (mWithin i.toInt 0 8))), h) := by
  by_cases c1 : i < 0
  · simp only [x128_0, x128_1, x128_4, x128_5, x128_7, x128_10, x128_11, x128_14, x128_15, c1, show mWithin i.toInt 0 8 = false from wi_1 (lo := 0) (hi := 8) c1, xb_f, Option.bind_some, Option.toList_some, Option.toList_none, List.cons_append, List.nil_append, Option.isSome_some, if_true, eq_self, or_true, true_or, xb_01, mcl_cl, not_true_eq_false, not_false_eq_true, if_false]
  · by_cases c2 : 8 < i
    · simp only [x128_0, x128_1, x128_4, x128_5, x128_7, x128_10, x128_11, x128_14, x128_15, c1, c2, show mWithin i.toInt 0 8 = false from wi_2 (lo := 0) (hi := 8) c2, xb_f, Option.bind_some, Option.toList_some, Option.toList_none, List.cons_append, List.nil_append, Option.isSome_some, if_true, eq_self, or_true, true_or, xb_01, mcl_cl, not_true_eq_false, not_false_eq_true, if_false]
    · simp only [x128_0, x128_1, x128_4, x128_5, x128_7, x128_10, x128_11, x128_14, x128_15, c1, c2, show mWithin i.toInt 0 8 = true from wi_3 (lo := 0) (hi := 8) c1 c2, xb_t, Option.bind_some, Option.toList_some, Option.toList_none, List.cons_append, List.nil_append, Option.isSome_some, if_true, eq_self, or_true, true_or, xb_01, mcl_cl, not_true_eq_false, not_false_eq_true, if_false]
theorem c129 : X g 129 0 [.val (.int i)] [] h = some (some (.int (xb (mWithin i.toInt 0 7))), h) := by
  by_cases c1 : i < 0
  · simp only [x129_0, x129_1, x129_4, x129_5, x129_7, x129_10, x129_11, x129_14, x129_15, c1, show mWithin i.toInt 0 7 = false from wi_1 (lo := 0) (hi := 7) c1, xb_f, Option.bind_some, Option.toList_some, Option.toList_none, List.cons_append, List.nil_append, Option.isSome_some, if_true, eq_self, or_true, true_or, xb_01, mcl_cl, not_true_eq_false, not_false_eq_true, if_false]
  · by_cases c2 : 7 < i
    · simp only [x129_0, x129_1, x129_4, x129_5, x129_7, x129_10, x129_11, x129_14, x129_15, c1, c2, show mWithin i.toInt 0 7 = false from wi_2 (lo := 0) (hi := 7) c2, xb_f, Option.bind_some, Option.toList_some, Option.toList_none, List.cons_append, List.nil_append, Option.isSome_some, if_true, eq_self, or_true, true_or, xb_01, mcl_cl, not_true_eq_false, not_false_eq_true, if_false]
    · simp only [x129_0, x129_1, x129_4, x129_5, x129_7, x129_10, x129_11, x129_14, x129_15, c1, c2, show mWithin i.toInt 0 7 = true from wi_3 (lo := 0) (hi := 7) c1 c2, xb_t, Option.bind_some, Option.toList_some, Option.toList_none, List.cons_append, List.nil_append, Option.isSome_some, if_true, eq_self, or_true, true_or, xb_01, mcl_cl, not_true_eq_false, not_false_eq_true, if_false]
theorem c130 : X g 130 0 [.val (.int i)] [] h = some (some (.int (xb (mWithin i.toInt 0 10))), h) := by
  by_cases c1 : i < 0
  · simp only [x130_0, x130_1, x130_4, x130_5, x130_7, x130_10, x130_11, x130_14, x130_15, c1, show mWithin i.toInt 0 10 = false from wi_1 (lo := 0) (hi := 10) c1, xb_f, Option.bind_some, Option.toList_some, Option.toList_none, List.cons_append, List.nil_append, Option.isSome_some, if_true, eq_self, or_true, true_or, xb_01, mcl_cl, not_true_eq_false, not_false_eq_true, if_false]
  · by_cases c2 : 10 < i
    · simp only [x130_0, x130_1, x130_4, x130_5, x130_7, x130_10, x130_11, x130_14, x130_15, c1, c2, show mWithin i.toInt 0 10 = false from wi_2 (lo := 0) (hi := 10) c2, xb_f, Option.bind_some, Option.toList_some, Option.toList_none, List.cons_append, List.nil_append, Option.isSome_some, if_true, eq_self, or_true, true_or, xb_01, mcl_cl, not_true_eq_false, not_false_eq_true, if_false]
    · simp only [x130_0, x130_1, x130_4, x130_5, x130_7, x130_10, x130_11, x130_14, x130_15, c1, c2, show mWithin i.toInt 0 10 = true from wi_3 (lo := 0) (hi := 10) c1 c2, xb_t, Option.bind_some, Option.toList_some, Option.toList_none, List.cons_append, List.nil_append, Option.isSome_some, if_true, eq_self, or_true, true_or, xb_01, mcl_cl, not_true_eq_false, not_false_eq_true, if_false]
theorem c131 : X g 131 0 [.val (.long u), .second] [] h = some (some (.int (xb (mWithin u.toInt 0 9))), h) := by
  have e0 : (0 : Int64).toInt = 0 := rfl
  have e9 : (9 : Int64).toInt = 9 := rfl
  by_cases c1 : u.toInt < 0
  · have hw : mWithin u.toInt 0 9 = false := Bool.eq_false_iff.mpr (fun z => by have := mWithin_iff.mp z; omega)
    simp only [x131_0, x131_1, x131_2, x131_3, x131_6, x131_7, x131_10, x131_11, x131_14, x131_15, x131_18, x131_19, lcmp_lt0, e0, c1, hw, xb_f, Option.bind_some, Option.toList_some, Option.toList_none, List.cons_append, List.nil_append, Option.isSome_some, if_true, eq_self, or_true, true_or, xb_01, mcl_cl, not_true_eq_false, not_false_eq_true, if_false]
  · by_cases c2 : 9 < u.toInt
    · have hw : mWithin u.toInt 0 9 = false := Bool.eq_false_iff.mpr (fun z => by have := mWithin_iff.mp z; omega)
      simp only [x131_0, x131_1, x131_2, x131_3, x131_6, x131_7, x131_10, x131_11, x131_14, x131_15, x131_18, x131_19, lcmp_lt0, lcmp_0lt, e0, e9, c1, c2, hw, xb_f, Option.bind_some, Option.toList_some, Option.toList_none, List.cons_append, List.nil_append, Option.isSome_some, if_true, eq_self, or_true, true_or, xb_01, mcl_cl, not_true_eq_false, not_false_eq_true, if_false]
    · have hw : mWithin u.toInt 0 9 = true := mWithin_iff.mpr ⟨by omega, by omega⟩
      simp only [x131_0, x131_1, x131_2, x131_3, x131_6, x131_7, x131_10, x131_11, x131_14, x131_15, x131_18, x131_19, lcmp_lt0, lcmp_0lt, e0, e9, c1, c2, hw, xb_t, Option.bind_some, Option.toList_some, Option.toList_none, List.cons_append, List.nil_append, Option.isSome_some, if_true, eq_self, or_true, true_or, xb_01, mcl_cl, not_true_eq_false, not_false_eq_true, if_false]
theorem c132 : X g 132 0 [.val (.int k), .val (.long u), .second] [] h = some (some (.int (xb (!mNone k u))), h) := by
  unfold mNone
  by_cases e : k = 10
  · cases hw : mWithin u.toInt 0 9 with
    | true => simp [x132_0, x132_1, x132_3, x132_6, x132_7, x132_10, x132_13, x132_14, x132_17, x132_18, e, c131, hw, xb]
    | false => simp [x132_0, x132_1, x132_3, x132_6, x132_7, x132_10, x132_13, x132_14, x132_17, x132_18, e, c131, hw, xb]
  · simp [x132_0, x132_1, x132_3, x132_6, x132_7, x132_10, x132_13, x132_14, x132_17, x132_18, e, c131, xb]
theorem s97 (hA : rA g G c n b ρ S) (hp : G.2.2.1 (c + 7) 1 = 0) : sim g c n kc ks G 97 [.val (va_rf (some c)), .val (.int i)] (.long (fLatch S i)) S := by
  refine sim_same hA hp ?_
  have k0 : G.1 c = 15 := hA.1.2.1.1
  have k1 : G.1 (c + 1) = 16 := hA.1.2.1.2.1
  obtain ⟨r1, r2, _⟩ := hA.2.2.2.2.2.2.2.1
  obtain ⟨o1, o2⟩ := hA.2.2.2.2.2.2.2.2.2.1
  unfold fLatch
  by_cases i0 : i = 0
  · subst i0
    simp only [x97_0, x97_1_v0, x97_1_v1, x97_1_v2, x97_1_d, x97_28, x97_29, x97_32, x97_35, x97_36, x97_37, x97_38, x97_41, x97_44, x97_45, x97_46, x97_49, x97_52, x97_55, x97_58, x97_59, x97_62, x97_65, x97_66, x97_69, x97_72, x97_75, x97_78, x97_81, x97_82, x97_85, gf_15_0 k0, gf_16_0 k1, r1, Option.bind_some, Option.toList_some, Option.toList_none, List.cons_append, List.nil_append, Option.isSome_some, if_true, eq_self, or_true, true_or, xb_01, mcl_cl, not_true_eq_false, not_false_eq_true, if_false]
  · by_cases i1 : i = 1
    · subst i1
      rw [if_neg i0]
      simp only [x97_0, x97_1_v0, x97_1_v1, x97_1_v2, x97_1_d, x97_28, x97_29, x97_32, x97_35, x97_36, x97_37, x97_38, x97_41, x97_44, x97_45, x97_46, x97_49, x97_52, x97_55, x97_58, x97_59, x97_62, x97_65, x97_66, x97_69, x97_72, x97_75, x97_78, x97_81, x97_82, x97_85, gf_15_0 k0, gf_16_1 k1, r2, Option.bind_some, Option.toList_some, Option.toList_none, List.cons_append, List.nil_append, Option.isSome_some, if_true, eq_self, or_true, true_or, xb_01, mcl_cl, not_true_eq_false, not_false_eq_true, if_false]
    · by_cases i2 : i = 2
      · subst i2
        rw [if_neg i0, if_neg i1, if_pos rfl]
        by_cases k8 : S.1 10 < 8
        · have hw : mWithin (S.1 10).toInt 0 7 = true := by
            rw [i32_lt, show (8 : Int32).toInt = 8 from rfl] at k8
            have := o2.1
            exact mWithin_iff.mpr ⟨by omega, by omega⟩
          rw [if_pos k8]
          simp only [x97_0, x97_1_v0, x97_1_v1, x97_1_v2, x97_1_d, x97_28, x97_29, x97_32, x97_35, x97_36, x97_37, x97_38, x97_41, x97_44, x97_45, x97_46, x97_49, x97_52, x97_55, x97_58, x97_59, x97_62, x97_65, x97_66, x97_69, x97_72, x97_75, x97_78, x97_81, x97_82, x97_85, gf_15_0 k0, gf_16_0 k1, gf_16_1 k1, r1, r2, c43, hw, xb_t, c44 o1 k8, show ¬ (1 : Int32) = 0 by decide, Option.bind_some, Option.toList_some, Option.toList_none, List.cons_append, List.nil_append, Option.isSome_some, if_true, eq_self, or_true, true_or, xb_01, mcl_cl, not_true_eq_false, not_false_eq_true, if_false]
        · have hw : mWithin (S.1 10).toInt 0 7 = false := by
            rw [i32_lt, show (8 : Int32).toInt = 8 from rfl] at k8
            exact Bool.eq_false_iff.mpr (fun z => by have := mWithin_iff.mp z; omega)
          rw [if_neg k8]
          simp only [x97_0, x97_1_v0, x97_1_v1, x97_1_v2, x97_1_d, x97_28, x97_29, x97_32, x97_35, x97_36, x97_37, x97_38, x97_41, x97_44, x97_45, x97_46, x97_49, x97_52, x97_55, x97_58, x97_59, x97_62, x97_65, x97_66, x97_69, x97_72, x97_75, x97_78, x97_81, x97_82, x97_85, gf_15_0 k0, gf_16_0 k1, gf_16_1 k1, r1, r2, c43, hw, xb_f, Option.bind_some, Option.toList_some, Option.toList_none, List.cons_append, List.nil_append, Option.isSome_some, if_true, eq_self, or_true, true_or, xb_01, mcl_cl, not_true_eq_false, not_false_eq_true, if_false]
      · rw [if_neg i0, if_neg i1, if_neg i2]
        simp only [x97_0, x97_1_v0, x97_1_v1, x97_1_v2, x97_1_d, x97_28, x97_29, x97_32, x97_35, x97_36, x97_37, x97_38, x97_41, x97_44, x97_45, x97_46, x97_49, x97_52, x97_55, x97_58, x97_59, x97_62, x97_65, x97_66, x97_69, x97_72, x97_75, x97_78, x97_81, x97_82, x97_85, x97_1_d (sw02 i0 i1 i2), Option.bind_some, Option.toList_some, Option.toList_none, List.cons_append, List.nil_append, Option.isSome_some, if_true, eq_self, or_true, true_or, xb_01, mcl_cl, not_true_eq_false, not_false_eq_true, if_false]
theorem sw04 (h0 : ¬ k = 0) (h1 : ¬ k = 1) (h2 : ¬ k = 2) (h3 : ¬ k = 3) (h4 : ¬ k = 4) : k.toInt < 0 ∨ 4 < k.toInt := by
  have a0 := i32_ne h0
  have a1 := i32_ne h1
  have a2 := i32_ne h2
  have a3 := i32_ne h3
  have a4 := i32_ne h4
  have e0 : (0 : Int32).toInt = 0 := rfl
  have e1 : (1 : Int32).toInt = 1 := rfl
  have e2 : (2 : Int32).toInt = 2 := rfl
  have e3 : (3 : Int32).toInt = 3 := rfl
  have e4 : (4 : Int32).toInt = 4 := rfl
  omega
theorem s102 (hA : rA g G c n b ρ S) (hp : G.2.2.1 (c + 7) 1 = 0) : sim g c n kc ks G 102 [.val (va_rf (some c)), .val (.int i), .val (.int j), .unset] (.int (fWinOf S i j)) S := by
  refine sim_same hA hp ?_
  have k0 : G.1 c = 15 := hA.1.2.1.1
  have hb := hA.2.1
  have hB := hA.2.2.1
  have k13 := c13 (g := g) (n := n) (kc := kc) (ks := ks) (i := i) hA.1.1 hB.1
  unfold bWin at k13
  unfold fWinOf
  cases e1 : mSl i with
  | false =>
    rw [e1, if_neg (by simp)] at k13
    rw [if_pos rfl]
    simp only [x102_0, x102_1, x102_4, x102_5, x102_8, x102_9, x102_10, x102_13, x102_14, x102_15, x102_16_v0, x102_16_v1, x102_16_v2, x102_16_v3, x102_16_v4, x102_16_d, x102_52, x102_53, x102_56, x102_57, x102_58, x102_61, x102_62, x102_63, x102_66, x102_67, x102_68, x102_71, x102_72, x102_73, x102_76, x102_77, x102_78, gf_15_9 k0, hb, gc_9 hB.1, k13, Option.bind_some, Option.toList_some, Option.toList_none, List.cons_append, List.nil_append, Option.isSome_some, if_true, eq_self, or_true, true_or, xb_01, mcl_cl, not_true_eq_false, not_false_eq_true, if_false]
  | true =>
    rw [e1, if_pos rfl] at k13
    rw [if_neg (by simp)]
    have hi : tn i < 6 := (xin_tn (sl_x e1)).2
    have h14 : G.1 (b + 5 + tn i) = 14 := (gW9 hA.1.1 hB.1).2.2.2.2.2.2.2.2 (tn i) hi
    have hv := fun k hk => hB.2.2 (tn i) k hi hk
    have hne : ¬ (some (b + 5 + tn i) = none) := by simp
    by_cases j0 : j = 0
    · subst j0
      rw [if_neg (by decide)]
      simp only [x102_0, x102_1, x102_4, x102_5, x102_8, x102_9, x102_10, x102_13, x102_14, x102_15, x102_16_v0, x102_16_v1, x102_16_v2, x102_16_v3, x102_16_v4, x102_16_d, x102_52, x102_53, x102_56, x102_57, x102_58, x102_61, x102_62, x102_63, x102_66, x102_67, x102_68, x102_71, x102_72, x102_73, x102_76, x102_77, x102_78, gf_15_9 k0, hb, gc_9 hB.1, k13, hne, gf_14_0 h14, hv 0 (by decide), Option.bind_some, Option.toList_some, Option.toList_none, List.cons_append, List.nil_append, Option.isSome_some, if_true, eq_self, or_true, true_or, xb_01, mcl_cl, not_true_eq_false, not_false_eq_true, if_false]
      rfl
    · by_cases j1 : j = 1
      · subst j1
        rw [if_neg (by decide)]
        simp only [x102_0, x102_1, x102_4, x102_5, x102_8, x102_9, x102_10, x102_13, x102_14, x102_15, x102_16_v0, x102_16_v1, x102_16_v2, x102_16_v3, x102_16_v4, x102_16_d, x102_52, x102_53, x102_56, x102_57, x102_58, x102_61, x102_62, x102_63, x102_66, x102_67, x102_68, x102_71, x102_72, x102_73, x102_76, x102_77, x102_78, gf_15_9 k0, hb, gc_9 hB.1, k13, hne, gf_14_1 h14, hv 1 (by decide), Option.bind_some, Option.toList_some, Option.toList_none, List.cons_append, List.nil_append, Option.isSome_some, if_true, eq_self, or_true, true_or, xb_01, mcl_cl, not_true_eq_false, not_false_eq_true, if_false]
        rfl
      · by_cases j2 : j = 2
        · subst j2
          rw [if_neg (by decide)]
          simp only [x102_0, x102_1, x102_4, x102_5, x102_8, x102_9, x102_10, x102_13, x102_14, x102_15, x102_16_v0, x102_16_v1, x102_16_v2, x102_16_v3, x102_16_v4, x102_16_d, x102_52, x102_53, x102_56, x102_57, x102_58, x102_61, x102_62, x102_63, x102_66, x102_67, x102_68, x102_71, x102_72, x102_73, x102_76, x102_77, x102_78, gf_15_9 k0, hb, gc_9 hB.1, k13, hne, gf_14_2 h14, hv 2 (by decide), Option.bind_some, Option.toList_some, Option.toList_none, List.cons_append, List.nil_append, Option.isSome_some, if_true, eq_self, or_true, true_or, xb_01, mcl_cl, not_true_eq_false, not_false_eq_true, if_false]
          rfl
        · by_cases j3 : j = 3
          · subst j3
            rw [if_neg (by decide)]
            simp only [x102_0, x102_1, x102_4, x102_5, x102_8, x102_9, x102_10, x102_13, x102_14, x102_15, x102_16_v0, x102_16_v1, x102_16_v2, x102_16_v3, x102_16_v4, x102_16_d, x102_52, x102_53, x102_56, x102_57, x102_58, x102_61, x102_62, x102_63, x102_66, x102_67, x102_68, x102_71, x102_72, x102_73, x102_76, x102_77, x102_78, gf_15_9 k0, hb, gc_9 hB.1, k13, hne, gf_14_3 h14, hv 3 (by decide), Option.bind_some, Option.toList_some, Option.toList_none, List.cons_append, List.nil_append, Option.isSome_some, if_true, eq_self, or_true, true_or, xb_01, mcl_cl, not_true_eq_false, not_false_eq_true, if_false]
            rfl
          · by_cases j4 : j = 4
            · subst j4
              rw [if_neg (by decide)]
              simp only [x102_0, x102_1, x102_4, x102_5, x102_8, x102_9, x102_10, x102_13, x102_14, x102_15, x102_16_v0, x102_16_v1, x102_16_v2, x102_16_v3, x102_16_v4, x102_16_d, x102_52, x102_53, x102_56, x102_57, x102_58, x102_61, x102_62, x102_63, x102_66, x102_67, x102_68, x102_71, x102_72, x102_73, x102_76, x102_77, x102_78, gf_15_9 k0, hb, gc_9 hB.1, k13, hne, gf_14_4 h14, hv 4 (by decide), Option.bind_some, Option.toList_some, Option.toList_none, List.cons_append, List.nil_append, Option.isSome_some, if_true, eq_self, or_true, true_or, xb_01, mcl_cl, not_true_eq_false, not_false_eq_true, if_false]
              rfl
            · have hx := sw04 j0 j1 j2 j3 j4
              have hw : mWithin j.toInt 0 4 = false := Bool.eq_false_iff.mpr (fun z => by have := mWithin_iff.mp z; omega)
              rw [hw, if_pos rfl]
              simp only [x102_0, x102_1, x102_4, x102_5, x102_8, x102_9, x102_10, x102_13, x102_14, x102_15, x102_16_v0, x102_16_v1, x102_16_v2, x102_16_v3, x102_16_v4, x102_16_d, x102_52, x102_53, x102_56, x102_57, x102_58, x102_61, x102_62, x102_63, x102_66, x102_67, x102_68, x102_71, x102_72, x102_73, x102_76, x102_77, x102_78, gf_15_9 k0, hb, gc_9 hB.1, k13, hne, x102_16_d hx, Option.bind_some, Option.toList_some, Option.toList_none, List.cons_append, List.nil_append, Option.isSome_some, if_true, eq_self, or_true, true_or, xb_01, mcl_cl, not_true_eq_false, not_false_eq_true, if_false]
theorem c56 (hk : gK G c) (hl : G.2.2.1 (c + 13) 2 = nI l) (h6 : l ≤ 673) : X g 56 0 [.val (va_rf (some (c + 13))), .val (.int i)] [] (gH n kc ks G) = some (some (.int (if xin i l = true then G.2.2.1 (c + 14) (tn i) else -1)), gH n kc ks G) := by
  obtain ⟨k0, k1, k2, k3, k4, k5, k6, k7, k8, k9, k10, k11, k12, k13, ⟨k14, k14'⟩, k15⟩ := hk
  have k14a : G.1 (c + 13 + 1) = 27 := k14
  have k14b : G.2.1 (c + 13 + 1) = 673 := k14'
  by_cases c1 : i < 0
  · simp only [x56_0, x56_1, x56_4, x56_5, x56_6, x56_9, x56_12, x56_13, x56_14, x56_17, x56_18, x56_21, x56_22, x56_25, x56_26, x56_27, x56_30, x56_31, c1, xin_neg c1, Option.bind_some, Option.toList_some, Option.toList_none, List.cons_append, List.nil_append, Option.isSome_some, if_true, eq_self, or_true, true_or, xb_01, mcl_cl, not_true_eq_false, not_false_eq_true, if_false]
    rfl
  · by_cases c2 : nI l ≤ i
    · simp only [x56_0, x56_1, x56_4, x56_5, x56_6, x56_9, x56_12, x56_13, x56_14, x56_17, x56_18, x56_21, x56_22, x56_25, x56_26, x56_27, x56_30, x56_31, c1, gf_26_2 k13, hl, c2, xin_ge (show l < 2 ^ 31 by omega) c2, Option.bind_some, Option.toList_some, Option.toList_none, List.cons_append, List.nil_append, Option.isSome_some, if_true, eq_self, or_true, true_or, xb_01, mcl_cl, not_true_eq_false, not_false_eq_true, if_false]
      rfl
    · have hx := xin_lt (show l < 2 ^ 31 by omega) c1 c2
      obtain ⟨z1, z2⟩ := xin_tn hx
      have c3 : ¬ nI 673 ≤ i := by rw [z1]; exact nI_ge (by omega) (by omega)
      have hx2 : xin i 673 = true := by rw [z1]; exact xin_nI (by omega) (by omega)
      rw [hx, if_pos rfl]
      simp only [x56_0, x56_1, x56_4, x56_5, x56_6, x56_9, x56_12, x56_13, x56_14, x56_17, x56_18, x56_21, x56_22, x56_25, x56_26, x56_27, x56_30, x56_31, c1, gf_26_2 k13, hl, c2, gf_26_0 k13, gN_27 k14a, gl_27 k14a, k14b, c3, hx2, cl_tn, Option.bind_some, Option.toList_some, Option.toList_none, List.cons_append, List.nil_append, Option.isSome_some, if_true, eq_self, or_true, true_or, xb_01, mcl_cl, not_true_eq_false, not_false_eq_true, if_false]
theorem s121 (hA : rA g G c n b ρ S) (hp : G.2.2.1 (c + 7) 1 = 0) : sim g c n kc ks G 121 [.val (va_rf (some c)), .val (.int i)] (.int (fPaper S i)) S := by
  refine sim_same hA hp ?_
  have k0 : G.1 c = 15 := hA.1.2.1.1
  have k13 : G.1 (c + 13) = 26 := hA.1.2.1.2.2.2.2.2.2.2.2.2.2.2.2.2.1
  obtain ⟨_, _, _, _, _, r6, r7, _⟩ := hA.2.2.2.2.2.2.2.1
  obtain ⟨l, l1, l2⟩ := hA.2.2.2.2.2.2.2.2.2.2.2.1
  have k56 := c56 (g := g) (n := n) (kc := kc) (ks := ks) (i := i) hA.1.2.1 (by rw [r6]; exact l1) l2
  unfold fPaper
  rw [l1, ← xin_wi (i := i) (d := l) (by omega)]
  cases e : xin i l with
  | false =>
    rw [e, if_neg (by simp)] at k56
    simp only [x121_0, x121_1, x121_4, x121_5, x121_8, gf_15_8 k0, gc_26 k13, k56, Option.bind_some, Option.toList_some, Option.toList_none, List.cons_append, List.nil_append, Option.isSome_some, if_true, eq_self, or_true, true_or, xb_01, mcl_cl, not_true_eq_false, not_false_eq_true, if_false]
  | true =>
    have := (xin_tn e).2
    rw [e, if_pos rfl, r7 (tn i) (by rw [l1, tn_nI (by omega)]; omega)] at k56
    rw [if_neg (by simp)]
    simp only [x121_0, x121_1, x121_4, x121_5, x121_8, gf_15_8 k0, gc_26 k13, k56, Option.bind_some, Option.toList_some, Option.toList_none, List.cons_append, List.nil_append, Option.isSome_some, if_true, eq_self, or_true, true_or, xb_01, mcl_cl, not_true_eq_false, not_false_eq_true, if_false]
end K23
