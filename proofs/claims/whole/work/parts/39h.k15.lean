/-! THE CLASS beside the reference, 2: cells put; arguments; windows' cells -/
section K15
variable {g : xG} {n kc ks a b c s t w q l x y jn d r p : Nat} {G T : GS} {h : xH} {i j k m v : Int32} {u z : Int64} {o : Option Nat} {S : MS} {ρ : Nat → Nat}
/-- what lies after a put -/
def gPt (n kc ks : Nat) (G : GS) (S : MS) (ρ : Nat → Nat) (jn p s : Nat) (i v k : Int32) (u : Int64) : xH := if sPutBy S s i v k = 0 then gH (n + 1) (kc + 1) (ks + 6) (jPut G n jn p (ρ (mr S s)) i (sNk (S.2.2.1 2 (mr S s)) k) (sNv (S.2.2.1 2 (mr S s)) k u)) else gH n kc ks G
theorem c134 (hw : gW G) (hn : G.1 n = 0) (hk : G.1 c = 15) (hb : G.2.2.2.2 c 9 = some b) (hB : bS G b ρ S) (hO : mOk S) (he : gE g G) (hj : jL G (c + 7)) (hp : p < 64) (hpc : G.2.2.1 (c + 7) 1 = nI p) (hs : s < 10) (hy : G.1 y = 16) (hy0 : G.2.2.1 y 0 = k) (hy1 : G.2.2.2.1 y 1 = u) (hok : okb k u) : X g 134 0 [.val (va_rf (some c)), .val (.int (nI s)), .val (.int i), .val (.int v), .val (va_rf (some y)), .unset] [] (gH n kc ks G) = some (some (.int (sAns (sPutBy S s i v k))), gPt n kc ks G S ρ (c + 7) p s i v k u) := by
  obtain ⟨j1, j2, j3, j4, j5⟩ := hj
  obtain ⟨s1, s2⟩ := sl_nI hs
  have k9 := c9 (g := g) (n := n) (kc := kc) (ks := ks) (i := nI s) hw hB.1
  have k11 := c11 (g := g) (n := n) (kc := kc) (ks := ks) (i := nI s) hw hB.1
  unfold bRow at k9
  unfold bHeld at k11
  rw [if_pos s1, s2] at k9 k11
  unfold gPt sPutBy
  rcases hB.2.1 s hs with ⟨r0, r1, r2, r3, r4⟩ | ⟨r0, r1, r2⟩ | ⟨r0, r1, r2, r3⟩
  · obtain ⟨q1, q2, q3, q4⟩ := r4
    obtain ⟨e7, hr⟩ := mRow_eq r0
    have n11 := mRow_n11 r0
    rw [if_neg n11, if_neg (by rw [r0]; simp)]
    rw [r1] at k9
    have hne : ¬ (some (ρ (mr S s)) : Option Nat) = none := by simp
    have k66 := c66 (g := g) (n := n) (kc := kc) (ks := ks) (i := i) hw q1
    obtain ⟨hk0, hk9⟩ := hO.2.2.2.2.1 (mr S s) hr
    have k73 := c73 (g := g) (n := n) (kc := kc) (ks := ks) (k := k) he q1 (by rw [q2]; exact hk0) (by rw [q2]; exact hk9)
    rw [q2] at k73
    rw [q3, mIn_x hO.1 hr] at k66
    by_cases c1 : v ≠ 8 ∧ 8 ≤ S.2.2.1 2 (mr S s)
    · rw [if_pos c1, if_neg (by decide)]
      obtain ⟨v8, k8⟩ := c1
      have k8' : ¬ S.2.2.1 2 (mr S s) < 8 := Int32.not_lt.mpr k8
      simp only [x134_0, x134_1, x134_4, x134_5, x134_8, x134_10, x134_12, x134_15, x134_16, x134_19, x134_20, x134_23, x134_24, x134_25, x134_27, x134_30, x134_32, x134_35, x134_37, x134_40, x134_42, x134_43, x134_45, x134_48, x134_50, x134_53, x134_55, x134_58, x134_60, x134_63, x134_65, x134_66, x134_68, x134_69, x134_72, x134_75, x134_77, x134_78, x134_80, x134_82, x134_85, x134_88, x134_91, x134_93, x134_94, x134_96, x134_99, x134_101, x134_104, x134_105, x134_108, x134_110, x134_111, x134_113, x134_116, x134_118, x134_121, x134_123, x134_126, x134_128, x134_131, x134_134, x134_137, x134_140, x134_141, x134_144, x134_146, x134_147, x134_149, x134_152, x134_154, x134_157, x134_160, x134_161, gf_15_9 hk, hb, gc_9 hB.1, k9, hne, v8, gf_1_0 q1, q2, k8', sAns, Option.bind_some, Option.toList_some, Option.toList_none, List.cons_append, List.nil_append, Option.isSome_some, if_true, eq_self, or_true, true_or, xb_01, mcl_cl, not_true_eq_false, not_false_eq_true, if_false]
      rfl
    · rw [if_neg c1]
      have pre : X g 134 24 [.val (va_rf (some c)), .val (.int (nI s)), .val (.int i), .val (.int v), .val (va_rf (some y)), .val (va_rf (some (ρ (mr S s))))] [] (gH n kc ks G) = X g 134 43 [.val (va_rf (some c)), .val (.int (nI s)), .val (.int i), .val (.int v), .val (va_rf (some y)), .val (va_rf (some (ρ (mr S s))))] [] (gH n kc ks G) := by
        by_cases v8 : v = 8
        · simp only [x134_24, x134_25, x134_27, x134_30, x134_32, x134_35, x134_37, x134_40, x134_42, v8, Option.bind_some, Option.toList_some, Option.toList_none, List.cons_append, List.nil_append, Option.isSome_some, if_true, eq_self, or_true, true_or, xb_01, mcl_cl, not_true_eq_false, not_false_eq_true, if_false]
        · have k8' : S.2.2.1 2 (mr S s) < 8 := Int32.not_le.mp (fun z => c1 ⟨v8, z⟩)
          simp only [x134_24, x134_25, x134_27, x134_30, x134_32, x134_35, x134_37, x134_40, x134_42, v8, gf_1_0 q1, q2, k8', Option.bind_some, Option.toList_some, Option.toList_none, List.cons_append, List.nil_append, Option.isSome_some, if_true, eq_self, or_true, true_or, xb_01, mcl_cl, not_true_eq_false, not_false_eq_true, if_false]
      have start : X g 134 0 [.val (va_rf (some c)), .val (.int (nI s)), .val (.int i), .val (.int v), .val (va_rf (some y)), .unset] [] (gH n kc ks G) = X g 134 43 [.val (va_rf (some c)), .val (.int (nI s)), .val (.int i), .val (.int v), .val (va_rf (some y)), .val (va_rf (some (ρ (mr S s))))] [] (gH n kc ks G) := by
        rw [← pre]
        simp only [x134_0, x134_1, x134_4, x134_5, x134_8, x134_10, x134_12, x134_15, x134_16, x134_19, x134_20, x134_23, gf_15_9 hk, hb, gc_9 hB.1, k9, hne, Option.bind_some, Option.toList_some, Option.toList_none, List.cons_append, List.nil_append, Option.isSome_some, if_true, eq_self, or_true, true_or, xb_01, mcl_cl, not_true_eq_false, not_false_eq_true, if_false]
      rw [start]
      by_cases c2 : S.2.2.1 2 (mr S s) < 8 ∧ k = 8
      · rw [if_pos c2, if_neg (by decide)]
        obtain ⟨k8, e8⟩ := c2
        have k8' : ¬ (8 : Int32) ≤ S.2.2.1 2 (mr S s) := Int32.not_le.mpr k8
        simp only [x134_43, x134_45, x134_48, x134_50, x134_53, x134_55, x134_58, x134_60, x134_63, x134_65, gf_1_0 q1, q2, k8', gf_16_0 hy, hy0, e8, sAns, Option.bind_some, Option.toList_some, Option.toList_none, List.cons_append, List.nil_append, Option.isSome_some, if_true, eq_self, or_true, true_or, xb_01, mcl_cl, not_true_eq_false, not_false_eq_true, if_false]
        rfl
      · rw [if_neg c2]
        have mid : X g 134 43 [.val (va_rf (some c)), .val (.int (nI s)), .val (.int i), .val (.int v), .val (va_rf (some y)), .val (va_rf (some (ρ (mr S s))))] [] (gH n kc ks G) = X g 134 66 [.val (va_rf (some c)), .val (.int (nI s)), .val (.int i), .val (.int v), .val (va_rf (some y)), .val (va_rf (some (ρ (mr S s))))] [] (gH n kc ks G) := by
          by_cases k8 : 8 ≤ S.2.2.1 2 (mr S s)
          · simp only [x134_43, x134_45, x134_48, x134_50, x134_53, x134_55, x134_58, x134_60, x134_63, x134_65, gf_1_0 q1, q2, k8, Option.bind_some, Option.toList_some, Option.toList_none, List.cons_append, List.nil_append, Option.isSome_some, if_true, eq_self, or_true, true_or, xb_01, mcl_cl, not_true_eq_false, not_false_eq_true, if_false]
          · have e8 : ¬ k = 8 := fun z => c2 ⟨Int32.not_le.mp k8, z⟩
            simp only [x134_43, x134_45, x134_48, x134_50, x134_53, x134_55, x134_58, x134_60, x134_63, x134_65, gf_1_0 q1, q2, k8, gf_16_0 hy, hy0, e8, Option.bind_some, Option.toList_some, Option.toList_none, List.cons_append, List.nil_append, Option.isSome_some, if_true, eq_self, or_true, true_or, xb_01, mcl_cl, not_true_eq_false, not_false_eq_true, if_false]
        rw [mid]
        cases hi : mIn S (mr S s) i with
        | false =>
          rw [if_pos rfl, if_neg (by decide)]
          rw [hi] at k66
          simp only [x134_66, x134_68, x134_69, x134_72, x134_75, x134_77, gc_1 q1, k66, xb_f, sAns, Option.bind_some, Option.toList_some, Option.toList_none, List.cons_append, List.nil_append, Option.isSome_some, if_true, eq_self, or_true, true_or, xb_01, mcl_cl, not_true_eq_false, not_false_eq_true, if_false]
          rfl
        | true =>
          rw [if_neg (by simp)]
          rw [hi] at k66
          cases ha : sAdm (S.2.2.1 2 (mr S s)) k with
          | false =>
            rw [if_pos rfl, if_neg (by decide)]
            rw [ha] at k73
            simp only [x134_66, x134_68, x134_69, x134_72, x134_75, x134_77, x134_78, x134_80, x134_82, x134_85, x134_88, x134_91, x134_93, gc_1 q1, k66, xb_t, i32_10, gf_16_0 hy, hy0, k73, xb_f, sAns, Option.bind_some, Option.toList_some, Option.toList_none, List.cons_append, List.nil_append, Option.isSome_some, if_true, eq_self, or_true, true_or, xb_01, mcl_cl, not_true_eq_false, not_false_eq_true, if_false]
            rfl
          | true =>
            rw [if_neg (by simp), if_pos rfl]
            rw [ha] at k73
            obtain ⟨z1, z2, z3⟩ := mIn_eq hO.1 hr hi
            have hix : xin i (G.2.1 (ρ (mr S s) + 2)) = true := by rw [q3, mIn_x hO.1 hr]; exact hi
            have k29 := fun kk vv => c29 (g := g) (n := n) (kc := kc) (ks := ks) (i := i) (k := kk) (v := vv) (a := ρ (mr S s)) (jn := c + 7) (p := p) hw hn j1 j2 j3 hp hpc q1 hix
            unfold sNk sNv
            by_cases k8 : S.2.2.1 2 (mr S s) < 8
            · rw [if_pos k8, if_pos k8]
              have k8' : ¬ (8 : Int32) ≤ S.2.2.1 2 (mr S s) := Int32.not_le.mpr k8
              have k40 := c40 (g := g) (h := gH n kc ks G) (a := S.2.2.1 2 (mr S s)) hok.1 k8
              simp only [x134_66, x134_68, x134_69, x134_72, x134_75, x134_77, x134_78, x134_80, x134_82, x134_85, x134_88, x134_91, x134_93, x134_94, x134_96, x134_99, x134_101, x134_104, x134_105, x134_108, x134_110, x134_111, x134_113, x134_116, x134_118, x134_121, x134_123, x134_126, x134_128, x134_131, x134_134, x134_137, x134_140, x134_141, x134_144, x134_146, x134_147, x134_149, x134_152, x134_154, x134_157, x134_160, x134_161, gc_1 q1, k66, xb_t, i32_10, gf_16_0 hy, gf_16_1 hy, hy0, hy1, k73, gf_1_0 q1, q2, k8', gf_15_6 hk, k40, gc_20 j1, k29, sAns, Option.bind_some, Option.toList_some, Option.toList_none, List.cons_append, List.nil_append, Option.isSome_some, if_true, eq_self, or_true, true_or, xb_01, mcl_cl, not_true_eq_false, not_false_eq_true, if_false]
            · rw [if_neg k8, if_neg k8]
              have k8' : (8 : Int32) ≤ S.2.2.1 2 (mr S s) := Int32.not_lt.mp k8
              simp only [x134_66, x134_68, x134_69, x134_72, x134_75, x134_77, x134_78, x134_80, x134_82, x134_85, x134_88, x134_91, x134_93, x134_94, x134_96, x134_99, x134_101, x134_104, x134_105, x134_108, x134_110, x134_111, x134_113, x134_116, x134_118, x134_121, x134_123, x134_126, x134_128, x134_131, x134_134, x134_137, x134_140, x134_141, x134_144, x134_146, x134_147, x134_149, x134_152, x134_154, x134_157, x134_160, x134_161, gc_1 q1, k66, xb_t, i32_10, gf_16_0 hy, gf_16_1 hy, hy0, hy1, k73, gf_1_0 q1, q2, k8', gf_15_6 hk, gc_20 j1, k29, sAns, Option.bind_some, Option.toList_some, Option.toList_none, List.cons_append, List.nil_append, Option.isSome_some, if_true, eq_self, or_true, true_or, xb_01, mcl_cl, not_true_eq_false, not_false_eq_true, if_false]
  · rw [if_pos r0, if_neg (by decide)]
    rw [r1] at k9
    rw [r2, if_pos rfl] at k11
    simp only [x134_0, x134_1, x134_4, x134_5, x134_8, x134_10, x134_12, x134_15, x134_16, x134_19, x134_20, x134_23, x134_24, x134_25, x134_27, x134_30, x134_32, x134_35, x134_37, x134_40, x134_42, x134_43, x134_45, x134_48, x134_50, x134_53, x134_55, x134_58, x134_60, x134_63, x134_65, x134_66, x134_68, x134_69, x134_72, x134_75, x134_77, x134_78, x134_80, x134_82, x134_85, x134_88, x134_91, x134_93, x134_94, x134_96, x134_99, x134_101, x134_104, x134_105, x134_108, x134_110, x134_111, x134_113, x134_116, x134_118, x134_121, x134_123, x134_126, x134_128, x134_131, x134_134, x134_137, x134_140, x134_141, x134_144, x134_146, x134_147, x134_149, x134_152, x134_154, x134_157, x134_160, x134_161, gf_15_9 hk, hb, gc_9 hB.1, k9, k11, sAns, Option.bind_some, Option.toList_some, Option.toList_none, List.cons_append, List.nil_append, Option.isSome_some, if_true, eq_self, or_true, true_or, xb_01, mcl_cl, not_true_eq_false, not_false_eq_true, if_false]
    rfl
  · have hne : ¬ S.2.2.1 7 s = -11 ∧ ¬ S.2.2.1 7 s = -1 ∧ mRow S s = false := by
      rcases r0 with r0 | r0
      · rw [r0]
        refine ⟨by decide, by decide, ?_⟩
        unfold mRow
        rw [r0]
        decide
      · rw [r0]
        refine ⟨by decide, by decide, ?_⟩
        unfold mRow
        rw [r0]
        decide
    rw [if_neg hne.1, if_pos hne.2.2, if_neg (by decide)]
    rw [r1] at k9
    rw [r2, if_neg hne.2.1] at k11
    simp only [x134_0, x134_1, x134_4, x134_5, x134_8, x134_10, x134_12, x134_15, x134_16, x134_19, x134_20, x134_23, x134_24, x134_25, x134_27, x134_30, x134_32, x134_35, x134_37, x134_40, x134_42, x134_43, x134_45, x134_48, x134_50, x134_53, x134_55, x134_58, x134_60, x134_63, x134_65, x134_66, x134_68, x134_69, x134_72, x134_75, x134_77, x134_78, x134_80, x134_82, x134_85, x134_88, x134_91, x134_93, x134_94, x134_96, x134_99, x134_101, x134_104, x134_105, x134_108, x134_110, x134_111, x134_113, x134_116, x134_118, x134_121, x134_123, x134_126, x134_128, x134_131, x134_134, x134_137, x134_140, x134_141, x134_144, x134_146, x134_147, x134_149, x134_152, x134_154, x134_157, x134_160, x134_161, gf_15_9 hk, hb, gc_9 hB.1, k9, k11, sAns, Option.bind_some, Option.toList_some, Option.toList_none, List.cons_append, List.nil_append, Option.isSome_some, if_true, eq_self, or_true, true_or, xb_01, mcl_cl, not_true_eq_false, not_false_eq_true, if_false]
    rfl
/-- refusals counted -/
theorem c135 (hk : G.1 c = 15) (h6 : G.1 (c + 6) = 19) (hN : G.2.1 (c + 6) = 3) (hx : sWhy i) : X g 135 0 [.val (va_rf (some c)), .val (.int (sAns i)), .unset] [] (gH n kc ks G) = some (some (.int (sAns i)), gH n kc ks (if i = 0 then G else gsI G (c + 6) (tn (-11 - i)) (G.2.2.1 (c + 6) (tn (-11 - i)) + 1))) := by
  have e0 : ¬ (nI 3 : Int32) ≤ 0 := by decide
  have e1 : ¬ (nI 3 : Int32) ≤ 1 := by decide
  have e2 : ¬ (nI 3 : Int32) ≤ 2 := by decide
  have z0 : ¬ (0 : Int32) < 0 := by decide
  have z1 : ¬ (1 : Int32) < 0 := by decide
  have z2 : ¬ (2 : Int32) < 0 := by decide
  have y0 : xin 0 3 = true := by decide
  have y1 : xin 1 3 = true := by decide
  have y2 : xin 2 3 = true := by decide
  rcases hx with h | h | h | h
  · subst h
    rw [if_pos rfl]
    have s0 : sAns 0 = 1 := rfl
    have w0 : (-11 : Int32) - 1 < 0 := by decide
    simp only [x135_0, x135_2, x135_3, x135_4, x135_5, x135_6, x135_9, x135_10, x135_11, x135_14, x135_15, x135_18, x135_19, x135_22, x135_23, x135_24, x135_25, x135_26, x135_27, x135_28, x135_29, s0, w0, Option.bind_some, Option.toList_some, Option.toList_none, List.cons_append, List.nil_append, Option.isSome_some, if_true, eq_self, or_true, true_or, xb_01, mcl_cl, not_true_eq_false, not_false_eq_true, if_false]
  · subst h
    rw [if_neg (by decide)]
    have s0 : sAns (-11) = -11 := rfl
    have w0 : (-11 : Int32) - -11 = 0 := by decide
    simp only [x135_0, x135_2, x135_3, x135_4, x135_5, x135_6, x135_9, x135_10, x135_11, x135_14, x135_15, x135_18, x135_19, x135_22, x135_23, x135_24, x135_25, x135_26, x135_27, x135_28, x135_29, s0, w0, z0, gf_15_5 hk, gN_19 h6, hN, e0, gl_19 h6, gs_19 h6, y0, cl_tn, Option.bind_some, Option.toList_some, Option.toList_none, List.cons_append, List.nil_append, Option.isSome_some, if_true, eq_self, or_true, true_or, xb_01, mcl_cl, not_true_eq_false, not_false_eq_true, if_false]
  · subst h
    rw [if_neg (by decide)]
    have s0 : sAns (-12) = -12 := rfl
    have w0 : (-11 : Int32) - -12 = 1 := by decide
    simp only [x135_0, x135_2, x135_3, x135_4, x135_5, x135_6, x135_9, x135_10, x135_11, x135_14, x135_15, x135_18, x135_19, x135_22, x135_23, x135_24, x135_25, x135_26, x135_27, x135_28, x135_29, s0, w0, z1, gf_15_5 hk, gN_19 h6, hN, e1, gl_19 h6, gs_19 h6, y1, cl_tn, Option.bind_some, Option.toList_some, Option.toList_none, List.cons_append, List.nil_append, Option.isSome_some, if_true, eq_self, or_true, true_or, xb_01, mcl_cl, not_true_eq_false, not_false_eq_true, if_false]
  · subst h
    rw [if_neg (by decide)]
    have s0 : sAns (-13) = -13 := rfl
    have w0 : (-11 : Int32) - -13 = 2 := by decide
    simp only [x135_0, x135_2, x135_3, x135_4, x135_5, x135_6, x135_9, x135_10, x135_11, x135_14, x135_15, x135_18, x135_19, x135_22, x135_23, x135_24, x135_25, x135_26, x135_27, x135_28, x135_29, s0, w0, z2, gf_15_5 hk, gN_19 h6, hN, e2, gl_19 h6, gs_19 h6, y2, cl_tn, Option.bind_some, Option.toList_some, Option.toList_none, List.cons_append, List.nil_append, Option.isSome_some, if_true, eq_self, or_true, true_or, xb_01, mcl_cl, not_true_eq_false, not_false_eq_true, if_false]
end K15
