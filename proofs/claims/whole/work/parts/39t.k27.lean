/-! THE CLASS beside the reference, 14: sums, what is found -/
section K27
variable {g : xG} {n kc ks a b c s t w q l x y jn d r p n' e kb : Nat} {G T U : GS} {h : xH} {i j k m v i1 i2 : Int32} {u z : Int64} {o : Option Nat} {S S1 S' : MS} {ρ κ : Nat → Nat} {L L' : List Nat} {cnt : Nat} {at' wk ik : Nat → Int32} {wv iv : Nat → Int64}
theorem mFst_nn {f : Nat → Bool} : ∀ d s, s + d < 2 ^ 31 → mFst f s d = -5 → ∀ q, s ≤ q → q < s + d → f q = false := by
  intro d
  induction d with
  | zero => intro s _ _ q h1 h2; omega
  | succ d ih =>
    intro s hs h q h1 h2
    rw [mFst] at h
    by_cases e : f s = true
    · rw [if_pos e] at h
      exfalso
      have := congrArg Int32.toInt h
      rw [nI_toInt (by omega), show (-5 : Int32).toInt = -5 from rfl] at this
      omega
    · rw [if_neg e] at h
      by_cases c : q = s
      · rw [c]
        exact Bool.eq_false_iff.mpr e
      · exact ih (s + 1) (by omega) h q (by omega) (by omega)
theorem sFf_ok (h32 : sMany S w ≤ 32) (e : sFf S w = -5) (hq : q < sMany S w) : sLook S w (nI q) (sVw S w) = 0 ∧ sLk S w (nI q) (sVw S w) < 8 := by
  have h := mFst_nn (sMany S w) 0 (by omega) e q (by omega) (by omega)
  have h2 : sFa S w (nI q) = 0 := by simpa using h
  unfold sFa at h2
  rw [show S.2.2.1 12 (5 * w + 4) = sVw S w from rfl] at h2
  by_cases c1 : sLook S w (nI q) (sVw S w) = 0 ∧ 8 ≤ sLk S w (nI q) (sVw S w)
  · rw [if_pos c1] at h2
    exact absurd h2 (by decide)
  · rw [if_neg c1] at h2
    refine ⟨h2, ?_⟩
    have := fun z => c1 ⟨h2, z⟩
    exact Int32.not_le.mp this
theorem l104 (hA : rA g G c n b ρ S) (hw6 : w < 6) (hf : sFf S w = -5) : ∀ d s (T : GS) z, bq T G c → s + d = sMany S w → ∃ U, X g 104 32 [.val (va_rf (some c)), .val (.int i), .val (va_rf (some (b + 5 + w))), .val (.long z), .second, .val (.int (nI s))] [] (gH n kc ks T) = some (some (.long (mSum (sAm S w) s d z)), gH n kc ks U) ∧ bq U G c := by
  intro d
  induction d with
  | zero =>
    intro s T z hq hs
    have hT := rA_bq hA hq
    obtain ⟨w1, w2, w3, w4, w5, w6, w7, w8, w9, w10⟩ := rA_w hT hw6
    have h1 : nI (sMany S w) ≤ nI s := nI_le (by omega) (by omega)
    refine ⟨T, ?_, hq⟩
    simp only [x104_0, x104_1, x104_4, x104_5, x104_8, x104_9, x104_10, x104_13, x104_14, x104_15, x104_18, x104_20, x104_23, x104_26, x104_27, x104_28, x104_29, x104_30, x104_32, x104_34, x104_35, x104_38, x104_41, x104_42, x104_43, x104_45, x104_46, x104_49, x104_50, x104_53, x104_56, x104_57, x104_60, x104_61, x104_62, x104_65, x104_68, x104_69, x104_72, x104_75, x104_78, x104_79, x104_80, x104_86, x104_87, gf_14_3 w1, w6, h1, Option.bind_some, Option.toList_some, Option.toList_none, List.cons_append, List.nil_append, Option.isSome_some, if_true, eq_self, or_true, true_or, xb_01, mcl_cl, not_true_eq_false, not_false_eq_true, if_false, mSum]
  | succ d ih =>
    intro s T z hq hs
    have hT := rA_bq hA hq
    obtain ⟨w1, w2, w3, w4, w5, w6, w7, w8, w9, w10⟩ := rA_w hT hw6
    have k0 : T.1 c = 15 := hT.1.2.1.1
    have k2 : T.1 (c + 2) = 16 := hT.1.2.1.2.2.1
    have h1 : ¬ nI (sMany S w) ≤ nI s := nI_ge (by omega) (by omega)
    obtain ⟨f1, f2⟩ := sFf_ok (q := s) w7 hf (by omega)
    have k139 := c139 (g := g) (n := n) (kc := kc) (ks := ks) (j := nI s) hT hw6 w9 w10 k2
    rw [if_pos f1, f1] at k139
    have hb := okb_look hT.2.2.2.2.2.2.2.2.1 f1
    generalize hV : bxS T (c + 2) (sLk S w (nI s) (sVw S w)) (sLv S w (nI s) (sVw S w)) = V at *
    have hqV : bq V T c := by rw [← hV]; exact bq_x (Or.inl rfl)
    have k2' : V.1 (c + 2) = 16 := by rw [hqV.1]; exact k2
    have k0' : V.1 c = 15 := by rw [hqV.1]; exact k0
    have e0 : V.2.2.1 (c + 2) 0 = sLk S w (nI s) (sVw S w) := by rw [← hV]; simp [bxS, gsI, gsJ]
    have e1 : V.2.2.2.1 (c + 2) 1 = sLv S w (nI s) (sVw S w) := by rw [← hV]; simp [bxS, gsI, gsJ]
    obtain ⟨U, v1, v2⟩ := ih (s + 1) V (z + sAm S w s) (bq_trans hq hqV) (by omega)
    refine ⟨U, ?_, v2⟩
    have ha : sAns 0 = 1 := rfl
    have hm : pAmt (sLk S w (nI s) (sVw S w)) (sLv S w (nI s) (sVw S w)) = sAm S w s := rfl
    simp only [x104_0, x104_1, x104_4, x104_5, x104_8, x104_9, x104_10, x104_13, x104_14, x104_15, x104_18, x104_20, x104_23, x104_26, x104_27, x104_28, x104_29, x104_30, x104_32, x104_34, x104_35, x104_38, x104_41, x104_42, x104_43, x104_45, x104_46, x104_49, x104_50, x104_53, x104_56, x104_57, x104_60, x104_61, x104_62, x104_65, x104_68, x104_69, x104_72, x104_75, x104_78, x104_79, x104_80, x104_86, x104_87, gf_14_3 w1, w6, h1, gf_14_4 w1, w8, gf_15_1 k0, gc_15 k0, k139, ha, gf_15_1 k0', gf_16_0 k2', gf_16_1 k2', e0, e1, c44 hb.1 f2, hm, Option.bind_some, Option.toList_some, Option.toList_none, List.cons_append, List.nil_append, Option.isSome_some, if_true, eq_self, or_true, true_or, xb_01, mcl_cl, not_true_eq_false, not_false_eq_true, if_false, mSum]
    simp only [x104_83, nI_1]
    exact v1
theorem s104 (hA : rA g G c n b ρ S) (hp : G.2.2.1 (c + 7) 1 = 0) : sim g c n kc ks G 104 [.val (va_rf (some c)), .val (.int i), .unset, .unset, .unset, .unset] (.long (fSum S i)) S := by
  have k0 : G.1 c = 15 := hA.1.2.1.1
  have hb := hA.2.1
  have hB := hA.2.2.1
  unfold fSum
  cases e1 : mSl i with
  | false =>
    have k13 := k13n (g := g) (kc := kc) (ks := ks) hA e1
    rw [if_pos rfl]
    refine sim_same hA hp ?_
    simp only [x104_0, x104_1, x104_4, x104_5, x104_8, x104_9, x104_10, x104_13, x104_14, x104_15, x104_18, x104_20, x104_23, x104_26, x104_27, x104_28, x104_29, x104_30, x104_32, x104_34, x104_35, x104_38, x104_41, x104_42, x104_43, x104_45, x104_46, x104_49, x104_50, x104_53, x104_56, x104_57, x104_60, x104_61, x104_62, x104_65, x104_68, x104_69, x104_72, x104_75, x104_78, x104_79, x104_80, x104_86, x104_87, gf_15_9 k0, hb, gc_9 hB.1, k13, Option.bind_some, Option.toList_some, Option.toList_none, List.cons_append, List.nil_append, Option.isSome_some, if_true, eq_self, or_true, true_or, xb_01, mcl_cl, not_true_eq_false, not_false_eq_true, if_false]
  | true =>
    obtain ⟨k13, hi⟩ := k13w (g := g) (kc := kc) (ks := ks) hA e1
    rw [if_neg (by simp)]
    have hne : ¬ (some (b + 5 + tn i) = none) := by simp
    obtain ⟨T, t1, t2⟩ := c142 (g := g) (n := n) (kc := kc) (ks := ks) hA hi
    by_cases e5 : sFf S (tn i) = -5
    · rw [if_neg (fun z => z e5)]
      obtain ⟨U, u1, u2⟩ := l104 (g := g) (n := n) (kc := kc) (ks := ks) (i := i) hA hi e5 (sMany S (tn i)) 0 T 0 t2 (by omega)
      refine sim_bq hA hp u2 ?_
      rw [e5] at t1
      simp only [x104_0, x104_1, x104_4, x104_5, x104_8, x104_9, x104_10, x104_13, x104_14, x104_15, x104_18, x104_20, x104_27, x104_28, x104_29, x104_30, gf_15_9 k0, hb, gc_9 hB.1, k13, hne, gc_15 k0, t1, Option.bind_some, Option.toList_some, Option.toList_none, List.cons_append, List.nil_append, Option.isSome_some, if_true, eq_self, or_true, true_or, xb_01, mcl_cl, not_true_eq_false, not_false_eq_true, if_false]
      exact u1
    · rw [if_pos e5]
      refine sim_bq hA hp t2 ?_
      simp only [x104_0, x104_1, x104_4, x104_5, x104_8, x104_9, x104_10, x104_13, x104_14, x104_15, x104_18, x104_20, x104_23, x104_26, x104_27, x104_28, x104_29, x104_30, x104_32, x104_34, x104_35, x104_38, x104_41, x104_42, x104_43, x104_45, x104_46, x104_49, x104_50, x104_53, x104_56, x104_57, x104_60, x104_61, x104_62, x104_65, x104_68, x104_69, x104_72, x104_75, x104_78, x104_79, x104_80, x104_86, x104_87, gf_15_9 k0, hb, gc_9 hB.1, k13, hne, gc_15 k0, t1, e5, Option.bind_some, Option.toList_some, Option.toList_none, List.cons_append, List.nil_append, Option.isSome_some, if_true, eq_self, or_true, true_or, xb_01, mcl_cl, not_true_eq_false, not_false_eq_true, if_false]
theorem c47 : X g 47 0 [.val (.int k)] [] h = some (some (.int (xb (mWithin k.toInt 1 7))), h) := by
  by_cases c1 : k ≤ 0
  · have hw : mWithin k.toInt 1 7 = false := by
      rw [i32_le, show (0 : Int32).toInt = 0 from rfl] at c1
      exact Bool.eq_false_iff.mpr (fun z => by have := mWithin_iff.mp z; omega)
    simp only [x47_0, x47_1, x47_4, x47_5, x47_7, x47_10, x47_11, x47_14, x47_15, c1, hw, xb_f, Option.bind_some, Option.toList_some, Option.toList_none, List.cons_append, List.nil_append, Option.isSome_some, if_true, eq_self, or_true, true_or, xb_01, mcl_cl, not_true_eq_false, not_false_eq_true, if_false]
  · by_cases c2 : 7 < k
    · simp only [x47_0, x47_1, x47_4, x47_5, x47_7, x47_10, x47_11, x47_14, x47_15, c1, c2, show mWithin k.toInt 1 7 = false from wi_2 (lo := 1) (hi := 7) c2, xb_f, Option.bind_some, Option.toList_some, Option.toList_none, List.cons_append, List.nil_append, Option.isSome_some, if_true, eq_self, or_true, true_or, xb_01, mcl_cl, not_true_eq_false, not_false_eq_true, if_false]
    · have hw : mWithin k.toInt 1 7 = true := by
        rw [i32_le, show (0 : Int32).toInt = 0 from rfl] at c1
        rw [i32_lt, show (7 : Int32).toInt = 7 from rfl] at c2
        exact mWithin_iff.mpr ⟨by omega, by omega⟩
      simp only [x47_0, x47_1, x47_4, x47_5, x47_7, x47_10, x47_11, x47_14, x47_15, c1, c2, hw, xb_t, Option.bind_some, Option.toList_some, Option.toList_none, List.cons_append, List.nil_append, Option.isSome_some, if_true, eq_self, or_true, true_or, xb_01, mcl_cl, not_true_eq_false, not_false_eq_true, if_false]
theorem c46 (hx : G.1 x = 16) (hy : G.1 y = 16) (x0 : G.2.2.1 x 0 = k) (x1 : G.2.2.2.1 x 1 = u) (y0 : G.2.2.1 y 0 = m) (y1 : G.2.2.2.1 y 1 = z) (h1 : okb k u) (h2 : okb m z) : X g 46 0 [.val (va_rf (some x)), .val (va_rf (some y)), .unset, .unset, .unset, .unset, .unset] [] (gH n kc ks G) = some (some (.int (xb (pAlike k u m z))), gH n kc ks G) := by
  have n0 := h1.2.1
  have n1 := h2.2.1
  have e0 : (0 : Int32).toInt = 0 := rfl
  have e5 : (5 : Int32).toInt = 5 := rfl
  have e6 : (6 : Int32).toInt = 6 := rfl
  have e7 : (7 : Int32).toInt = 7 := rfl
  have h10 : ¬ (1 : Int32) = 0 := by decide
  have key : mWithin k.toInt 1 7 = true ∧ mWithin m.toInt 1 7 = true ↔ ¬ (k = 0 ∨ m = 0 ∨ 7 < k ∨ 7 < m) := by
    rw [mWithin_iff, mWithin_iff, i32_lt, i32_lt, e7]
    constructor
    · rintro ⟨q1, q2⟩ (z | z | z | z)
      · rw [z, e0] at q1; omega
      · rw [z, e0] at q2; omega
      · omega
      · omega
    · intro q
      have q1 : ¬ k.toInt = 0 := fun z => q (Or.inl (Int32.toInt_inj.mp (by rw [z, e0])))
      have q2 : ¬ m.toInt = 0 := fun z => q (Or.inr (Or.inl (Int32.toInt_inj.mp (by rw [z, e0]))))
      have q3 : ¬ 7 < k.toInt := fun z => q (Or.inr (Or.inr (Or.inl z)))
      have q4 : ¬ 7 < m.toInt := fun z => q (Or.inr (Or.inr (Or.inr z)))
      omega
  unfold pAlike
  by_cases c1 : k = 0 ∨ m = 0 ∨ 7 < k ∨ 7 < m
  · rw [if_pos c1]
    cases b1 : mWithin k.toInt 1 7 with
    | false =>
      by_cases c2 : k = m
      · subst c2
        have c2 : k = k := rfl
        by_cases c3 : u = z
        · simp only [x46_0, x46_1, x46_4, x46_7, x46_10, x46_11, x46_14, x46_17, x46_20, x46_21, x46_24, x46_25, x46_26, x46_27, x46_30, x46_31, x46_34, x46_35, x46_38, x46_41, x46_42, x46_45, x46_46, x46_49, x46_50, x46_53, x46_54, x46_57, x46_58, x46_59, x46_60, x46_63, x46_64, x46_67, x46_68, x46_71, x46_72, x46_75, x46_76, x46_79, x46_80, x46_83, x46_84, x46_87, x46_88, x46_91, x46_92, x46_93, x46_95, x46_96, x46_99, x46_100, x46_103, x46_106, x46_109, x46_110, x46_112, x46_113, x46_116, x46_117, x46_120, x46_123, x46_126, x46_128, x46_129, x46_131, x46_132, x46_135, x46_136, x46_139, x46_140, gf_16_0 hx, gf_16_0 hy, gf_16_1 hx, gf_16_1 hy, x0, x1, y0, y1, c47, b1, xb_f, c2, c3, lcmp_eq0, decide_true, Bool.true_and, Bool.and_true, xb_t, Option.bind_some, Option.toList_some, Option.toList_none, List.cons_append, List.nil_append, Option.isSome_some, if_true, eq_self, or_true, true_or, xb_01, mcl_cl, not_true_eq_false, not_false_eq_true, if_false]
        · simp only [x46_0, x46_1, x46_4, x46_7, x46_10, x46_11, x46_14, x46_17, x46_20, x46_21, x46_24, x46_25, x46_26, x46_27, x46_30, x46_31, x46_34, x46_35, x46_38, x46_41, x46_42, x46_45, x46_46, x46_49, x46_50, x46_53, x46_54, x46_57, x46_58, x46_59, x46_60, x46_63, x46_64, x46_67, x46_68, x46_71, x46_72, x46_75, x46_76, x46_79, x46_80, x46_83, x46_84, x46_87, x46_88, x46_91, x46_92, x46_93, x46_95, x46_96, x46_99, x46_100, x46_103, x46_106, x46_109, x46_110, x46_112, x46_113, x46_116, x46_117, x46_120, x46_123, x46_126, x46_128, x46_129, x46_131, x46_132, x46_135, x46_136, x46_139, x46_140, gf_16_0 hx, gf_16_0 hy, gf_16_1 hx, gf_16_1 hy, x0, x1, y0, y1, c47, b1, xb_f, c2, c3, lcmp_eq0, decide_true, decide_false, Bool.true_and, Bool.and_false, Bool.false_and, Option.bind_some, Option.toList_some, Option.toList_none, List.cons_append, List.nil_append, Option.isSome_some, if_true, eq_self, or_true, true_or, xb_01, mcl_cl, not_true_eq_false, not_false_eq_true, if_false]
      · simp only [x46_0, x46_1, x46_4, x46_7, x46_10, x46_11, x46_14, x46_17, x46_20, x46_21, x46_24, x46_25, x46_26, x46_27, x46_30, x46_31, x46_34, x46_35, x46_38, x46_41, x46_42, x46_45, x46_46, x46_49, x46_50, x46_53, x46_54, x46_57, x46_58, x46_59, x46_60, x46_63, x46_64, x46_67, x46_68, x46_71, x46_72, x46_75, x46_76, x46_79, x46_80, x46_83, x46_84, x46_87, x46_88, x46_91, x46_92, x46_93, x46_95, x46_96, x46_99, x46_100, x46_103, x46_106, x46_109, x46_110, x46_112, x46_113, x46_116, x46_117, x46_120, x46_123, x46_126, x46_128, x46_129, x46_131, x46_132, x46_135, x46_136, x46_139, x46_140, gf_16_0 hx, gf_16_0 hy, gf_16_1 hx, gf_16_1 hy, x0, x1, y0, y1, c47, b1, xb_f, c2, lcmp_eq0, decide_true, decide_false, Bool.true_and, Bool.and_false, Bool.false_and, Option.bind_some, Option.toList_some, Option.toList_none, List.cons_append, List.nil_append, Option.isSome_some, if_true, eq_self, or_true, true_or, xb_01, mcl_cl, not_true_eq_false, not_false_eq_true, if_false]
    | true =>
      have b2 : mWithin m.toInt 1 7 = false := Bool.eq_false_iff.mpr (fun z => key.mp ⟨b1, z⟩ c1)
      by_cases c2 : k = m
      · rw [c2, b2] at b1
        exact absurd b1 (by decide)
      · simp only [x46_0, x46_1, x46_4, x46_7, x46_10, x46_11, x46_14, x46_17, x46_20, x46_21, x46_24, x46_25, x46_26, x46_27, x46_30, x46_31, x46_34, x46_35, x46_38, x46_41, x46_42, x46_45, x46_46, x46_49, x46_50, x46_53, x46_54, x46_57, x46_58, x46_59, x46_60, x46_63, x46_64, x46_67, x46_68, x46_71, x46_72, x46_75, x46_76, x46_79, x46_80, x46_83, x46_84, x46_87, x46_88, x46_91, x46_92, x46_93, x46_95, x46_96, x46_99, x46_100, x46_103, x46_106, x46_109, x46_110, x46_112, x46_113, x46_116, x46_117, x46_120, x46_123, x46_126, x46_128, x46_129, x46_131, x46_132, x46_135, x46_136, x46_139, x46_140, gf_16_0 hx, gf_16_0 hy, gf_16_1 hx, gf_16_1 hy, x0, x1, y0, y1, c47, b1, b2, h10, xb_t, xb_f, c2, lcmp_eq0, decide_true, decide_false, Bool.true_and, Bool.and_false, Bool.false_and, Option.bind_some, Option.toList_some, Option.toList_none, List.cons_append, List.nil_append, Option.isSome_some, if_true, eq_self, or_true, true_or, xb_01, mcl_cl, not_true_eq_false, not_false_eq_true, if_false]
  · rw [if_neg c1]
    obtain ⟨b1, b2⟩ := key.mpr c1
    have a1 : k < 6 ↔ ¬ (5 < k) := by
      rw [i32_lt, i32_lt, e6, e5]
      omega
    have a2 : m < 6 ↔ ¬ (5 < m) := by
      rw [i32_lt, i32_lt, e6, e5]
      omega
    have hal := rk_alike h1.1 h2.1
    rw [← pView_r, ← pView_r] at hal
    by_cases c2 : 5 < k
    · rw [if_neg (fun z => a1.mp z.1 c2), hal]
      by_cases c4 : sRk 7 (pView k u 7) = sRk 7 (pView m z 7)
      · simp only [x46_0, x46_1, x46_4, x46_7, x46_10, x46_11, x46_14, x46_17, x46_20, x46_21, x46_24, x46_25, x46_26, x46_27, x46_30, x46_31, x46_34, x46_35, x46_38, x46_41, x46_42, x46_45, x46_46, x46_49, x46_50, x46_53, x46_54, x46_57, x46_58, x46_59, x46_60, x46_63, x46_64, x46_67, x46_68, x46_71, x46_72, x46_75, x46_76, x46_79, x46_80, x46_83, x46_84, x46_87, x46_88, x46_91, x46_92, x46_93, x46_95, x46_96, x46_99, x46_100, x46_103, x46_106, x46_109, x46_110, x46_112, x46_113, x46_116, x46_117, x46_120, x46_123, x46_126, x46_128, x46_129, x46_131, x46_132, x46_135, x46_136, x46_139, x46_140, gf_16_0 hx, gf_16_0 hy, gf_16_1 hx, gf_16_1 hy, x0, x1, y0, y1, c47, b1, b2, h10, xb_t, c2, lcmp_eq0, c49 h1.1, c49 h2.1, c45, c4, decide_true, Option.bind_some, Option.toList_some, Option.toList_none, List.cons_append, List.nil_append, Option.isSome_some, if_true, eq_self, or_true, true_or, xb_01, mcl_cl, not_true_eq_false, not_false_eq_true, if_false]
      · simp only [x46_0, x46_1, x46_4, x46_7, x46_10, x46_11, x46_14, x46_17, x46_20, x46_21, x46_24, x46_25, x46_26, x46_27, x46_30, x46_31, x46_34, x46_35, x46_38, x46_41, x46_42, x46_45, x46_46, x46_49, x46_50, x46_53, x46_54, x46_57, x46_58, x46_59, x46_60, x46_63, x46_64, x46_67, x46_68, x46_71, x46_72, x46_75, x46_76, x46_79, x46_80, x46_83, x46_84, x46_87, x46_88, x46_91, x46_92, x46_93, x46_95, x46_96, x46_99, x46_100, x46_103, x46_106, x46_109, x46_110, x46_112, x46_113, x46_116, x46_117, x46_120, x46_123, x46_126, x46_128, x46_129, x46_131, x46_132, x46_135, x46_136, x46_139, x46_140, gf_16_0 hx, gf_16_0 hy, gf_16_1 hx, gf_16_1 hy, x0, x1, y0, y1, c47, b1, b2, h10, xb_t, c2, lcmp_eq0, c49 h1.1, c49 h2.1, c45, c4, decide_false, xb_f, Option.bind_some, Option.toList_some, Option.toList_none, List.cons_append, List.nil_append, Option.isSome_some, if_true, eq_self, or_true, true_or, xb_01, mcl_cl, not_true_eq_false, not_false_eq_true, if_false]
    · by_cases c3 : 5 < m
      · rw [if_neg (fun z => a2.mp z.2 c3), hal]
        by_cases c4 : sRk 7 (pView k u 7) = sRk 7 (pView m z 7)
        · simp only [x46_0, x46_1, x46_4, x46_7, x46_10, x46_11, x46_14, x46_17, x46_20, x46_21, x46_24, x46_25, x46_26, x46_27, x46_30, x46_31, x46_34, x46_35, x46_38, x46_41, x46_42, x46_45, x46_46, x46_49, x46_50, x46_53, x46_54, x46_57, x46_58, x46_59, x46_60, x46_63, x46_64, x46_67, x46_68, x46_71, x46_72, x46_75, x46_76, x46_79, x46_80, x46_83, x46_84, x46_87, x46_88, x46_91, x46_92, x46_93, x46_95, x46_96, x46_99, x46_100, x46_103, x46_106, x46_109, x46_110, x46_112, x46_113, x46_116, x46_117, x46_120, x46_123, x46_126, x46_128, x46_129, x46_131, x46_132, x46_135, x46_136, x46_139, x46_140, gf_16_0 hx, gf_16_0 hy, gf_16_1 hx, gf_16_1 hy, x0, x1, y0, y1, c47, b1, b2, h10, xb_t, c2, c3, lcmp_eq0, c49 h1.1, c49 h2.1, c45, c4, decide_true, Option.bind_some, Option.toList_some, Option.toList_none, List.cons_append, List.nil_append, Option.isSome_some, if_true, eq_self, or_true, true_or, xb_01, mcl_cl, not_true_eq_false, not_false_eq_true, if_false]
        · simp only [x46_0, x46_1, x46_4, x46_7, x46_10, x46_11, x46_14, x46_17, x46_20, x46_21, x46_24, x46_25, x46_26, x46_27, x46_30, x46_31, x46_34, x46_35, x46_38, x46_41, x46_42, x46_45, x46_46, x46_49, x46_50, x46_53, x46_54, x46_57, x46_58, x46_59, x46_60, x46_63, x46_64, x46_67, x46_68, x46_71, x46_72, x46_75, x46_76, x46_79, x46_80, x46_83, x46_84, x46_87, x46_88, x46_91, x46_92, x46_93, x46_95, x46_96, x46_99, x46_100, x46_103, x46_106, x46_109, x46_110, x46_112, x46_113, x46_116, x46_117, x46_120, x46_123, x46_126, x46_128, x46_129, x46_131, x46_132, x46_135, x46_136, x46_139, x46_140, gf_16_0 hx, gf_16_0 hy, gf_16_1 hx, gf_16_1 hy, x0, x1, y0, y1, c47, b1, b2, h10, xb_t, c2, c3, lcmp_eq0, c49 h1.1, c49 h2.1, c45, c4, decide_false, xb_f, Option.bind_some, Option.toList_some, Option.toList_none, List.cons_append, List.nil_append, Option.isSome_some, if_true, eq_self, or_true, true_or, xb_01, mcl_cl, not_true_eq_false, not_false_eq_true, if_false]
      · rw [if_pos ⟨a1.mpr c2, a2.mpr c3⟩]
        by_cases c4 : u = z
        · simp only [x46_0, x46_1, x46_4, x46_7, x46_10, x46_11, x46_14, x46_17, x46_20, x46_21, x46_24, x46_25, x46_26, x46_27, x46_30, x46_31, x46_34, x46_35, x46_38, x46_41, x46_42, x46_45, x46_46, x46_49, x46_50, x46_53, x46_54, x46_57, x46_58, x46_59, x46_60, x46_63, x46_64, x46_67, x46_68, x46_71, x46_72, x46_75, x46_76, x46_79, x46_80, x46_83, x46_84, x46_87, x46_88, x46_91, x46_92, x46_93, x46_95, x46_96, x46_99, x46_100, x46_103, x46_106, x46_109, x46_110, x46_112, x46_113, x46_116, x46_117, x46_120, x46_123, x46_126, x46_128, x46_129, x46_131, x46_132, x46_135, x46_136, x46_139, x46_140, gf_16_0 hx, gf_16_0 hy, gf_16_1 hx, gf_16_1 hy, x0, x1, y0, y1, c47, b1, b2, h10, xb_t, c2, c3, lcmp_eq0, c4, decide_true, Option.bind_some, Option.toList_some, Option.toList_none, List.cons_append, List.nil_append, Option.isSome_some, if_true, eq_self, or_true, true_or, xb_01, mcl_cl, not_true_eq_false, not_false_eq_true, if_false]
        · simp only [x46_0, x46_1, x46_4, x46_7, x46_10, x46_11, x46_14, x46_17, x46_20, x46_21, x46_24, x46_25, x46_26, x46_27, x46_30, x46_31, x46_34, x46_35, x46_38, x46_41, x46_42, x46_45, x46_46, x46_49, x46_50, x46_53, x46_54, x46_57, x46_58, x46_59, x46_60, x46_63, x46_64, x46_67, x46_68, x46_71, x46_72, x46_75, x46_76, x46_79, x46_80, x46_83, x46_84, x46_87, x46_88, x46_91, x46_92, x46_93, x46_95, x46_96, x46_99, x46_100, x46_103, x46_106, x46_109, x46_110, x46_112, x46_113, x46_116, x46_117, x46_120, x46_123, x46_126, x46_128, x46_129, x46_131, x46_132, x46_135, x46_136, x46_139, x46_140, gf_16_0 hx, gf_16_0 hy, gf_16_1 hx, gf_16_1 hy, x0, x1, y0, y1, c47, b1, b2, h10, xb_t, c2, c3, lcmp_eq0, c4, decide_false, xb_f, Option.bind_some, Option.toList_some, Option.toList_none, List.cons_append, List.nil_append, Option.isSome_some, if_true, eq_self, or_true, true_or, xb_01, mcl_cl, not_true_eq_false, not_false_eq_true, if_false]
theorem l107 (hA : rA g G c n b ρ S) (hw6 : w < 6) (hok : okb k z) : ∀ d s (T : GS), bq T G c → T.2.2.1 (c + 3) 0 = k → T.2.2.2.1 (c + 3) 1 = z → d = sMany S w - s → s < 2 ^ 31 → ∃ U, X g 107 57 [.val (va_rf (some c)), .val (.int i), .val (.int j), .val (.int k), .val (.long u), .second, .val (va_rf (some (b + 5 + w))), .val (.int (nI s))] [] (gH n kc ks T) = some (some (.int (mFst (sFind S w k z) s d)), gH n kc ks U) ∧ bq U G c := by
  intro d
  induction d with
  | zero =>
    intro s T hq _ _ hs h31
    have hT := rA_bq hA hq
    obtain ⟨w1, w2, w3, w4, w5, w6, w7, w8, w9, w10⟩ := rA_w hT hw6
    have h1 : nI (sMany S w) ≤ nI s := nI_le (by omega) (by omega)
    refine ⟨T, ?_, hq⟩
    simp only [x107_0, x107_1, x107_4, x107_5, x107_8, x107_10, x107_12, x107_15, x107_16, x107_19, x107_20, x107_23, x107_26, x107_27, x107_28, x107_29, x107_31, x107_34, x107_37, x107_39, x107_40, x107_41, x107_44, x107_45, x107_46, x107_48, x107_51, x107_54, x107_55, x107_57, x107_59, x107_61, x107_64, x107_67, x107_68, x107_70, x107_72, x107_74, x107_77, x107_78, x107_81, x107_84, x107_85, x107_88, x107_89, x107_92, x107_93, x107_96, x107_99, x107_102, x107_104, x107_105, x107_111, x107_113, gf_14_3 w1, w6, h1, Option.bind_some, Option.toList_some, Option.toList_none, List.cons_append, List.nil_append, Option.isSome_some, if_true, eq_self, or_true, true_or, xb_01, mcl_cl, not_true_eq_false, not_false_eq_true, if_false, mFst]
  | succ d ih =>
    intro s T hq t0 t1 hs h31
    have hT := rA_bq hA hq
    obtain ⟨w1, w2, w3, w4, w5, w6, w7, w8, w9, w10⟩ := rA_w hT hw6
    have k0 : T.1 c = 15 := hT.1.2.1.1
    have k2 : T.1 (c + 2) = 16 := hT.1.2.1.2.2.1
    have k3 : T.1 (c + 3) = 16 := hT.1.2.1.2.2.2.1
    have h1 : ¬ nI (sMany S w) ≤ nI s := nI_ge (by omega) (by omega)
    have k139 := c139 (g := g) (n := n) (kc := kc) (ks := ks) (j := nI s) hT hw6 w9 w10 k2
    by_cases f1 : sLook S w (nI s) (sVw S w) = 0
    · rw [if_pos f1, f1] at k139
      have hb := okb_look hT.2.2.2.2.2.2.2.2.1 f1
      generalize hV : bxS T (c + 2) (sLk S w (nI s) (sVw S w)) (sLv S w (nI s) (sVw S w)) = V at *
      have hqV : bq V T c := by rw [← hV]; exact bq_x (Or.inl rfl)
      have k2' : V.1 (c + 2) = 16 := by rw [hqV.1]; exact k2
      have k3' : V.1 (c + 3) = 16 := by rw [hqV.1]; exact k3
      have k0' : V.1 c = 15 := by rw [hqV.1]; exact k0
      have e0 : V.2.2.1 (c + 2) 0 = sLk S w (nI s) (sVw S w) := by rw [← hV]; simp [bxS, gsI, gsJ]
      have e1 : V.2.2.2.1 (c + 2) 1 = sLv S w (nI s) (sVw S w) := by rw [← hV]; simp [bxS, gsI, gsJ]
      have e2 : V.2.2.1 (c + 3) 0 = k := by rw [← hV, ← t0]; simp [bxS, gsI, gsJ]
      have e3 : V.2.2.2.1 (c + 3) 1 = z := by rw [← hV, ← t1]; simp [bxS, gsI, gsJ]
      have k46 := c46 (g := g) (n := n) (kc := kc) (ks := ks) k2' k3' e0 e1 e2 e3 hb hok
      have ha : sAns 0 = 1 := rfl
      cases e4 : pAlike (sLk S w (nI s) (sVw S w)) (sLv S w (nI s) (sVw S w)) k z with
      | true =>
        rw [e4] at k46
        refine ⟨V, ?_, bq_trans hq hqV⟩
        have hs : sFind S w k z s = true := by unfold sFind; rw [f1, e4]; rfl
        simp only [x107_0, x107_1, x107_4, x107_5, x107_8, x107_10, x107_12, x107_15, x107_16, x107_19, x107_20, x107_23, x107_26, x107_27, x107_28, x107_29, x107_31, x107_34, x107_37, x107_39, x107_40, x107_41, x107_44, x107_45, x107_46, x107_48, x107_51, x107_54, x107_55, x107_57, x107_59, x107_61, x107_64, x107_67, x107_68, x107_70, x107_72, x107_74, x107_77, x107_78, x107_81, x107_84, x107_85, x107_88, x107_89, x107_92, x107_93, x107_96, x107_99, x107_102, x107_104, x107_105, x107_111, x107_113, gf_14_3 w1, w6, h1, gf_14_4 w1, w8, gf_15_1 k0, gc_15 k0, k139, ha, gf_15_1 k0', gf_15_2 k0', k46, xb_t, show ¬ (1 : Int32) = 0 by decide, Option.bind_some, Option.toList_some, Option.toList_none, List.cons_append, List.nil_append, Option.isSome_some, if_true, eq_self, or_true, true_or, xb_01, mcl_cl, not_true_eq_false, not_false_eq_true, if_false, mFst, hs]
      | false =>
        rw [e4] at k46
        obtain ⟨U, v1, v2⟩ := ih (s + 1) V (bq_trans hq hqV) e2 e3 (by omega) (by omega)
        refine ⟨U, ?_, v2⟩
        have hs : ¬ sFind S w k z s = true := by unfold sFind; rw [f1, e4]; simp
        simp only [x107_0, x107_1, x107_4, x107_5, x107_8, x107_10, x107_12, x107_15, x107_16, x107_19, x107_20, x107_23, x107_26, x107_27, x107_28, x107_29, x107_31, x107_34, x107_37, x107_39, x107_40, x107_41, x107_44, x107_45, x107_46, x107_48, x107_51, x107_54, x107_55, x107_57, x107_59, x107_61, x107_64, x107_67, x107_68, x107_70, x107_72, x107_74, x107_77, x107_78, x107_81, x107_84, x107_85, x107_88, x107_89, x107_92, x107_93, x107_96, x107_99, x107_102, x107_104, x107_105, x107_111, x107_113, gf_14_3 w1, w6, h1, gf_14_4 w1, w8, gf_15_1 k0, gc_15 k0, k139, ha, gf_15_1 k0', gf_15_2 k0', k46, xb_f, Option.bind_some, Option.toList_some, Option.toList_none, List.cons_append, List.nil_append, Option.isSome_some, if_true, eq_self, or_true, true_or, xb_01, mcl_cl, not_true_eq_false, not_false_eq_true, if_false, mFst, hs]
        simp only [x107_108, nI_1]
        exact v1
    · rw [if_neg f1] at k139
      have hn : ¬ sAns (sLook S w (nI s) (sVw S w)) = 1 := fun z => f1 ((sAns_1 (sLook_why _ _ _ _)).mp z)
      obtain ⟨U, v1, v2⟩ := ih (s + 1) T hq t0 t1 (by omega) (by omega)
      refine ⟨U, ?_, v2⟩
      have hs : ¬ sFind S w k z s = true := by unfold sFind; simp [f1]
      simp only [x107_0, x107_1, x107_4, x107_5, x107_8, x107_10, x107_12, x107_15, x107_16, x107_19, x107_20, x107_23, x107_26, x107_27, x107_28, x107_29, x107_31, x107_34, x107_37, x107_39, x107_40, x107_41, x107_44, x107_45, x107_46, x107_48, x107_51, x107_54, x107_55, x107_57, x107_59, x107_61, x107_64, x107_67, x107_68, x107_70, x107_72, x107_74, x107_77, x107_78, x107_81, x107_84, x107_85, x107_88, x107_89, x107_92, x107_93, x107_96, x107_99, x107_102, x107_104, x107_105, x107_111, x107_113, gf_14_3 w1, w6, h1, gf_14_4 w1, w8, gf_15_1 k0, gc_15 k0, k139, hn, Option.bind_some, Option.toList_some, Option.toList_none, List.cons_append, List.nil_append, Option.isSome_some, if_true, eq_self, or_true, true_or, xb_01, mcl_cl, not_true_eq_false, not_false_eq_true, if_false, mFst, hs]
      simp only [x107_108, nI_1]
      exact v1
theorem s107 (hA : rA g G c n b ρ S) (hp : G.2.2.1 (c + 7) 1 = 0) : sim g c n kc ks G 107 [.val (va_rf (some c)), .val (.int i), .val (.int j), .val (.int k), .val (.long u), .second, .unset, .unset] (.int (fFind S i j k u)) S := by
  have k0 : G.1 c = 15 := hA.1.2.1.1
  have k3 : G.1 (c + 3) = 16 := hA.1.2.1.2.2.2.1
  have hb := hA.2.1
  have hB := hA.2.2.1
  have h10 : ¬ (1 : Int32) = 0 := by decide
  unfold fFind
  cases e1 : mSl i with
  | false =>
    have k13 := k13n (g := g) (kc := kc) (ks := ks) hA e1
    rw [if_pos rfl]
    refine sim_same hA hp ?_
    simp only [x107_0, x107_1, x107_4, x107_5, x107_8, x107_10, x107_12, x107_15, x107_16, x107_19, x107_20, x107_23, x107_26, x107_27, x107_28, x107_29, x107_31, x107_34, x107_37, x107_39, x107_40, x107_41, x107_44, x107_45, x107_46, x107_48, x107_51, x107_54, x107_55, x107_57, x107_59, x107_61, x107_64, x107_67, x107_68, x107_70, x107_72, x107_74, x107_77, x107_78, x107_81, x107_84, x107_85, x107_88, x107_89, x107_92, x107_93, x107_96, x107_99, x107_102, x107_104, x107_105, x107_111, x107_113, gf_15_9 k0, hb, gc_9 hB.1, k13, Option.bind_some, Option.toList_some, Option.toList_none, List.cons_append, List.nil_append, Option.isSome_some, if_true, eq_self, or_true, true_or, xb_01, mcl_cl, not_true_eq_false, not_false_eq_true, if_false]
  | true =>
    obtain ⟨k13, hi⟩ := k13w (g := g) (kc := kc) (ks := ks) hA e1
    rw [if_neg (by simp)]
    have hne : ¬ (some (b + 5 + tn i) = none) := by simp
    by_cases j0 : j < 0
    · rw [if_pos j0]
      refine sim_same hA hp ?_
      simp only [x107_0, x107_1, x107_4, x107_5, x107_8, x107_10, x107_12, x107_15, x107_16, x107_19, x107_20, x107_23, x107_26, x107_27, x107_28, x107_29, x107_31, x107_34, x107_37, x107_39, x107_40, x107_41, x107_44, x107_45, x107_46, x107_48, x107_51, x107_54, x107_55, x107_57, x107_59, x107_61, x107_64, x107_67, x107_68, x107_70, x107_72, x107_74, x107_77, x107_78, x107_81, x107_84, x107_85, x107_88, x107_89, x107_92, x107_93, x107_96, x107_99, x107_102, x107_104, x107_105, x107_111, x107_113, gf_15_9 k0, hb, gc_9 hB.1, k13, hne, j0, Option.bind_some, Option.toList_some, Option.toList_none, List.cons_append, List.nil_append, Option.isSome_some, if_true, eq_self, or_true, true_or, xb_01, mcl_cl, not_true_eq_false, not_false_eq_true, if_false]
    · rw [if_neg j0]
      cases e2 : mWithin k.toInt 0 10 with
      | false =>
        rw [if_pos rfl]
        refine sim_same hA hp ?_
        simp only [x107_0, x107_1, x107_4, x107_5, x107_8, x107_10, x107_12, x107_15, x107_16, x107_19, x107_20, x107_23, x107_26, x107_27, x107_28, x107_29, x107_31, x107_34, x107_37, x107_39, x107_40, x107_41, x107_44, x107_45, x107_46, x107_48, x107_51, x107_54, x107_55, x107_57, x107_59, x107_61, x107_64, x107_67, x107_68, x107_70, x107_72, x107_74, x107_77, x107_78, x107_81, x107_84, x107_85, x107_88, x107_89, x107_92, x107_93, x107_96, x107_99, x107_102, x107_104, x107_105, x107_111, x107_113, gf_15_9 k0, hb, gc_9 hB.1, k13, hne, j0, c130, e2, xb_f, Option.bind_some, Option.toList_some, Option.toList_none, List.cons_append, List.nil_append, Option.isSome_some, if_true, eq_self, or_true, true_or, xb_01, mcl_cl, not_true_eq_false, not_false_eq_true, if_false]
      | true =>
        rw [if_neg (by simp)]
        cases e3 : mNone k u with
        | true =>
          rw [if_pos rfl]
          refine sim_same hA hp ?_
          simp only [x107_0, x107_1, x107_4, x107_5, x107_8, x107_10, x107_12, x107_15, x107_16, x107_19, x107_20, x107_23, x107_26, x107_27, x107_28, x107_29, x107_31, x107_34, x107_37, x107_39, x107_40, x107_41, x107_44, x107_45, x107_46, x107_48, x107_51, x107_54, x107_55, x107_57, x107_59, x107_61, x107_64, x107_67, x107_68, x107_70, x107_72, x107_74, x107_77, x107_78, x107_81, x107_84, x107_85, x107_88, x107_89, x107_92, x107_93, x107_96, x107_99, x107_102, x107_104, x107_105, x107_111, x107_113, gf_15_9 k0, hb, gc_9 hB.1, k13, hne, j0, c130, e2, xb_t, h10, c132, e3, Bool.not_true, xb_f, Option.bind_some, Option.toList_some, Option.toList_none, List.cons_append, List.nil_append, Option.isSome_some, if_true, eq_self, or_true, true_or, xb_01, mcl_cl, not_true_eq_false, not_false_eq_true, if_false]
        | false =>
          rw [if_neg (by simp)]
          have hok := okb_by (mWithin_iff.mp e2).1 (mWithin_iff.mp e2).2 e3
          have hj : j = nI (tn j) := nI_tn (by rw [i32_lt, show (0 : Int32).toInt = 0 from rfl] at j0; omega)
          have hj31 : tn j < 2 ^ 31 := by have := j.toInt_lt; unfold tn; omega
          have hqV : bq (bxS G (c + 3) k (pBy k u)) G c := bq_x (Or.inr rfl)
          obtain ⟨U, u1, u2⟩ := l107 (g := g) (n := n) (kc := kc) (ks := ks) (i := i) (j := j) (u := u) hA hi hok (sMany S (tn i) - tn j) (tn j) (bxS G (c + 3) k (pBy k u)) hqV (by simp [bxS, gsI, gsJ]) (by simp [bxS, gsI, gsJ]) rfl hj31
          refine sim_bq hA hp u2 ?_
          simp only [x107_0, x107_1, x107_4, x107_5, x107_8, x107_10, x107_12, x107_15, x107_16, x107_19, x107_20, x107_23, x107_26, x107_27, x107_28, x107_29, x107_31, x107_34, x107_37, x107_39, x107_40, x107_41, x107_44, x107_45, x107_46, x107_48, x107_51, x107_54, x107_55, gf_15_9 k0, hb, gc_9 hB.1, k13, hne, j0, c130, e2, xb_t, h10, c132, e3, Bool.not_false, gf_15_2 k0, c41, gc_16 k3, c27' k3, Option.bind_some, Option.toList_some, Option.toList_none, List.cons_append, List.nil_append, Option.isSome_some, if_true, eq_self, or_true, true_or, xb_01, mcl_cl, not_true_eq_false, not_false_eq_true, if_false]
          rw [← hj] at u1
          exact u1
end K27
