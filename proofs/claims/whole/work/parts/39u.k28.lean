/-! THE CLASS beside the reference, 15: the least -/
section K28
variable {g : xG} {n kc ks a b c s t w q l x y jn d r p n' e kb : Nat} {G T U : GS} {h : xH} {i j k m v i1 i2 : Int32} {u z : Int64} {o : Option Nat} {S S1 S' : MS} {ρ κ : Nat → Nat} {L L' : List Nat} {cnt : Nat} {at' wk ik : Nat → Int32} {wv iv : Nat → Int64}
/-- the number that a cell of a window is ordered by -/
def sOr (S : MS) (w q : Nat) : Int64 := sRk (sLk S w (nI q) (sVw S w)) (sLv S w (nI q) (sVw S w))
theorem l143 (hA : rA g G c n b ρ S) (hw6 : w < 6) (hf : sFf S w = -5) : ∀ d s (T : GS), bq T G c → (∀ q, q < s → T.2.2.2.1 (c + 4) q = sOr S w q) → s + d = sMany S w → ∃ U, X g 143 4 [.val (va_rf (some c)), .val (va_rf (some (b + 5 + w))), .val (.int (nI s)), .val (.int (nI s))] [] (gH n kc ks T) = some (some (.int (nI (sMany S w))), gH n kc ks U) ∧ bq U G c ∧ ∀ q, q < sMany S w → U.2.2.2.1 (c + 4) q = sOr S w q := by
  intro d
  induction d with
  | zero =>
    intro s T hq hn hs
    have hT := rA_bq hA hq
    obtain ⟨w1, w2, w3, w4, w5, w6, w7, w8, w9, w10⟩ := rA_w hT hw6
    have hs' : s = sMany S w := by omega
    subst hs'
    have h1 : nI (sMany S w) ≤ nI (sMany S w) := nI_le (by omega) (by omega)
    refine ⟨T, ?_, hq, hn⟩
    simp only [x143_0, x143_1, x143_2, x143_3, x143_4, x143_5, x143_6, x143_9, x143_12, x143_13, x143_14, x143_17, x143_18, x143_21, x143_22, x143_23, x143_24, x143_25, x143_28, x143_29, x143_32, x143_35, x143_36, x143_39, x143_40, x143_43, x143_44, x143_45, x143_48, x143_51, x143_52, x143_55, x143_58, x143_61, x143_62, x143_65, x143_71, x143_72, gf_14_3 w1, w6, h1, Option.bind_some, Option.toList_some, Option.toList_none, List.cons_append, List.nil_append, Option.isSome_some, if_true, eq_self, or_true, true_or, xb_01, mcl_cl, not_true_eq_false, not_false_eq_true, if_false]
  | succ d ih =>
    intro s T hq hn hs
    have hT := rA_bq hA hq
    obtain ⟨w1, w2, w3, w4, w5, w6, w7, w8, w9, w10⟩ := rA_w hT hw6
    have k0 : T.1 c = 15 := hT.1.2.1.1
    have k2 : T.1 (c + 2) = 16 := hT.1.2.1.2.2.1
    obtain ⟨k4, k4'⟩ := hT.1.2.1.2.2.2.2.1
    have h1 : ¬ nI (sMany S w) ≤ nI s := nI_ge (by omega) (by omega)
    have h2 : ¬ nI 32 ≤ nI s := nI_ge (by omega) (by omega)
    obtain ⟨f1, f2⟩ := sFf_ok (q := s) w7 hf (by omega)
    have k139 := c139 (g := g) (n := n) (kc := kc) (ks := ks) (j := nI s) hT hw6 w9 w10 k2
    rw [if_pos f1, f1] at k139
    generalize hV : bxS T (c + 2) (sLk S w (nI s) (sVw S w)) (sLv S w (nI s) (sVw S w)) = V at *
    have hqV : bq V T c := by rw [← hV]; exact bq_x (Or.inl rfl)
    have k2' : V.1 (c + 2) = 16 := by rw [hqV.1]; exact k2
    have k0' : V.1 c = 15 := by rw [hqV.1]; exact k0
    have k4v : V.1 (c + 4) = 17 := by rw [hqV.1]; exact k4
    have k4w : V.2.1 (c + 4) = 32 := by rw [hqV.2.1]; exact k4'
    have e0 : V.2.2.1 (c + 2) 0 = sLk S w (nI s) (sVw S w) := by rw [← hV]; simp [bxS, gsI, gsJ]
    have e1 : V.2.2.2.1 (c + 2) 1 = sLv S w (nI s) (sVw S w) := by rw [← hV]; simp [bxS, gsI, gsJ]
    have e4 : ∀ q, V.2.2.2.1 (c + 4) q = T.2.2.2.1 (c + 4) q := by intro q; rw [← hV]; simp [bxS, gsI, gsJ]
    have ho : sRk (sLk S w (nI s) (sVw S w)) (sLv S w (nI s) (sVw S w)) = sOr S w s := rfl
    have hx : xin (nI s) 32 = true := xin_nI (by omega) (by omega)
    have hc : (nI s).toNatClampNeg = s := nI_clamp (by omega)
    obtain ⟨U, v1, v2, v3⟩ := ih (s + 1) (gsJ V (c + 4) s (sOr S w s)) (bq_trans hq (bq_trans hqV (bq_J (by omega)))) (by
      intro q hq'
      rw [gsJ4]
      by_cases c1 : q = s
      · rw [if_pos ⟨rfl, c1⟩, c1]
      · rw [if_neg (fun z => c1 z.2), e4]
        exact hn q (by omega)) (by omega)
    refine ⟨U, ?_, v2, v3⟩
    have ha : sAns 0 = 1 := rfl
    simp only [x143_0, x143_1, x143_2, x143_3, x143_4, x143_5, x143_6, x143_9, x143_12, x143_13, x143_14, x143_17, x143_18, x143_21, x143_22, x143_23, x143_24, x143_25, x143_28, x143_29, x143_32, x143_35, x143_36, x143_39, x143_40, x143_43, x143_44, x143_45, x143_48, x143_51, x143_52, x143_55, x143_58, x143_61, x143_62, x143_65, x143_71, x143_72, gf_14_3 w1, w6, h1, gf_15_3 k0, gN_17 k4, k4', h2, gf_14_4 w1, w8, gf_15_1 k0, gc_15 k0, k139, ha, gf_15_1 k0', gf_15_3 k0', gf_16_0 k2', gf_16_1 k2', e0, e1, c45, ho, gs_17 k4v, k4w, hx, hc, Option.bind_some, Option.toList_some, Option.toList_none, List.cons_append, List.nil_append, Option.isSome_some, if_true, eq_self, or_true, true_or, xb_01, mcl_cl, not_true_eq_false, not_false_eq_true, if_false]
    simp only [x143_68, nI_1]
    exact v1
theorem c143 (hA : rA g G c n b ρ S) (hw6 : w < 6) (hf : sFf S w = -5) (hq : bq T G c) : ∃ U, X g 143 0 [.val (va_rf (some c)), .val (va_rf (some (b + 5 + w))), .unset, .unset] [] (gH n kc ks T) = some (some (.int (nI (sMany S w))), gH n kc ks U) ∧ bq U G c ∧ ∀ q, q < sMany S w → U.2.2.2.1 (c + 4) q = sOr S w q := by
  obtain ⟨U, h1, h2⟩ := l143 (g := g) (n := n) (kc := kc) (ks := ks) hA hw6 hf (sMany S w) 0 T hq (by intro q h; omega) (by omega)
  refine ⟨U, ?_, h2⟩
  simp only [x143_0, x143_1, x143_2, x143_3]
  exact h1
def sLess (f : Nat → Int64) (z y : Nat) : Bool := decide ((f y).toInt < (f z).toInt) || (decide (f y = f z) && decide (y < z))
theorem l144 {f : Nat → Int64} {N z : Nat} (hk : gK G c) (hN : N ≤ 32) (hz : z < N) (hf : ∀ q, q < N → G.2.2.2.1 (c + 4) q = f q) : ∀ d s m, s + d = N → X g 144 28 [.val (va_rf (some c)), .val (.int (nI z)), .val (.int (nI N)), .val (.int (nI m)), .val (.long (f z)), .second, .val (.int (nI s))] [] (gH n kc ks G) = some (some (.int (nI (m + mCnt (sLess f z) s d))), gH n kc ks G) := by
  obtain ⟨k0, k1, k2, k3, ⟨k4, k4'⟩, _⟩ := hk
  intro d
  induction d with
  | zero =>
    intro s m hs
    have h1 : nI N ≤ nI s := nI_le (by omega) (by omega)
    simp only [x144_0, x144_1, x144_2, x144_3, x144_6, x144_7, x144_8, x144_11, x144_12, x144_15, x144_16, x144_17, x144_18, x144_21, x144_22, x144_23, x144_25, x144_26, x144_28, x144_30, x144_31, x144_34, x144_36, x144_37, x144_40, x144_41, x144_44, x144_45, x144_48, x144_50, x144_51, x144_53, x144_54, x144_57, x144_58, x144_61, x144_63, x144_64, x144_66, x144_67, x144_70, x144_72, x144_73, x144_76, x144_79, x144_85, x144_86, h1, Option.bind_some, Option.toList_some, Option.toList_none, List.cons_append, List.nil_append, Option.isSome_some, if_true, eq_self, or_true, true_or, xb_01, mcl_cl, not_true_eq_false, not_false_eq_true, if_false, mCnt, Nat.add_zero]
  | succ d ih =>
    intro s m hs
    have h1 : ¬ nI N ≤ nI s := nI_ge (by omega) (by omega)
    have h2 : ¬ nI 32 ≤ nI s := nI_ge (by omega) (by omega)
    have hx : xin (nI s) 32 = true := xin_nI (by omega) (by omega)
    have hc : (nI s).toNatClampNeg = s := nI_clamp (by omega)
    have hfs := hf s (by omega)
    by_cases c1 : (f s).toInt < (f z).toInt
    · have hl : sLess f z s = true := by unfold sLess; simp [c1]
      have h := ih (s + 1) (m + 1) (by omega)
      simp only [x144_0, x144_1, x144_2, x144_3, x144_6, x144_7, x144_8, x144_11, x144_12, x144_15, x144_16, x144_17, x144_18, x144_21, x144_22, x144_23, x144_25, x144_26, x144_28, x144_30, x144_31, x144_34, x144_36, x144_37, x144_40, x144_41, x144_44, x144_45, x144_48, x144_50, x144_51, x144_53, x144_54, x144_57, x144_58, x144_61, x144_63, x144_64, x144_66, x144_67, x144_70, x144_72, x144_73, x144_76, x144_79, x144_85, x144_86, h1, gf_15_3 k0, gN_17 k4, k4', h2, gl_17 k4, hx, hc, hfs, lcmp_lt0, c1, Option.bind_some, Option.toList_some, Option.toList_none, List.cons_append, List.nil_append, Option.isSome_some, if_true, eq_self, or_true, true_or, xb_01, mcl_cl, not_true_eq_false, not_false_eq_true, if_false]
      simp only [x144_82, nI_1]
      rw [h, mCnt, hl]
      simp [Nat.add_assoc]
    · by_cases c2 : f s = f z
      · by_cases c3 : s < z
        · have hl : sLess f z s = true := by unfold sLess; simp [c2, c3]
          have c4 : ¬ nI z ≤ nI s := nI_ge c3 (by omega)
          have h := ih (s + 1) (m + 1) (by omega)
          simp only [x144_0, x144_1, x144_2, x144_3, x144_6, x144_7, x144_8, x144_11, x144_12, x144_15, x144_16, x144_17, x144_18, x144_21, x144_22, x144_23, x144_25, x144_26, x144_28, x144_30, x144_31, x144_34, x144_36, x144_37, x144_40, x144_41, x144_44, x144_45, x144_48, x144_50, x144_51, x144_53, x144_54, x144_57, x144_58, x144_61, x144_63, x144_64, x144_66, x144_67, x144_70, x144_72, x144_73, x144_76, x144_79, x144_85, x144_86, h1, gf_15_3 k0, gN_17 k4, k4', h2, gl_17 k4, hx, hc, hfs, lcmp_lt0, lcmp_eq0, c1, c2, c4, Int.lt_irrefl, Option.bind_some, Option.toList_some, Option.toList_none, List.cons_append, List.nil_append, Option.isSome_some, if_true, eq_self, or_true, true_or, xb_01, mcl_cl, not_true_eq_false, not_false_eq_true, if_false]
          simp only [x144_82, nI_1]
          rw [h, mCnt, hl]
          simp [Nat.add_assoc]
        · have hl : sLess f z s = false := by unfold sLess; simp [c2, c3]
          have c4 : nI z ≤ nI s := nI_le (by omega) (by omega)
          have h := ih (s + 1) m (by omega)
          simp only [x144_0, x144_1, x144_2, x144_3, x144_6, x144_7, x144_8, x144_11, x144_12, x144_15, x144_16, x144_17, x144_18, x144_21, x144_22, x144_23, x144_25, x144_26, x144_28, x144_30, x144_31, x144_34, x144_36, x144_37, x144_40, x144_41, x144_44, x144_45, x144_48, x144_50, x144_51, x144_53, x144_54, x144_57, x144_58, x144_61, x144_63, x144_64, x144_66, x144_67, x144_70, x144_72, x144_73, x144_76, x144_79, x144_85, x144_86, h1, gf_15_3 k0, gN_17 k4, k4', h2, gl_17 k4, hx, hc, hfs, lcmp_lt0, lcmp_eq0, c1, c2, c4, Int.lt_irrefl, Option.bind_some, Option.toList_some, Option.toList_none, List.cons_append, List.nil_append, Option.isSome_some, if_true, eq_self, or_true, true_or, xb_01, mcl_cl, not_true_eq_false, not_false_eq_true, if_false]
          simp only [x144_82, nI_1]
          rw [h, mCnt, hl]
          simp
      · have hl : sLess f z s = false := by unfold sLess; simp [c2, c1]
        have h := ih (s + 1) m (by omega)
        simp only [x144_0, x144_1, x144_2, x144_3, x144_6, x144_7, x144_8, x144_11, x144_12, x144_15, x144_16, x144_17, x144_18, x144_21, x144_22, x144_23, x144_25, x144_26, x144_28, x144_30, x144_31, x144_34, x144_36, x144_37, x144_40, x144_41, x144_44, x144_45, x144_48, x144_50, x144_51, x144_53, x144_54, x144_57, x144_58, x144_61, x144_63, x144_64, x144_66, x144_67, x144_70, x144_72, x144_73, x144_76, x144_79, x144_85, x144_86, h1, gf_15_3 k0, gN_17 k4, k4', h2, gl_17 k4, hx, hc, hfs, lcmp_lt0, lcmp_eq0, c1, c2, Option.bind_some, Option.toList_some, Option.toList_none, List.cons_append, List.nil_append, Option.isSome_some, if_true, eq_self, or_true, true_or, xb_01, mcl_cl, not_true_eq_false, not_false_eq_true, if_false]
        simp only [x144_82, nI_1]
        rw [h, mCnt, hl]
        simp
theorem c144 {f : Nat → Int64} {N z : Nat} (hk : gK G c) (hN : N ≤ 32) (hz : z < N) (hf : ∀ q, q < N → G.2.2.2.1 (c + 4) q = f q) : X g 144 0 [.val (va_rf (some c)), .val (.int (nI z)), .val (.int (nI N)), .unset, .unset, .unset, .unset] [] (gH n kc ks G) = some (some (.int (nI (mCnt (sLess f z) 0 N))), gH n kc ks G) := by
  have h := l144 (g := g) (n := n) (kc := kc) (ks := ks) hk hN hz hf N 0 0 (by omega)
  obtain ⟨k0, k1, k2, k3, ⟨k4, k4'⟩, _⟩ := hk
  have h1 : ¬ nI z < 0 := nI_pos (by omega)
  have h2 : nI z < nI 32 := nI_lt (by omega) (by omega)
  have hx : xin (nI z) 32 = true := xin_nI (by omega) (by omega)
  have hc : (nI z).toNatClampNeg = z := nI_clamp (by omega)
  simp only [x144_0, x144_1, x144_2, x144_3, x144_6, x144_7, x144_8, x144_11, x144_12, x144_15, x144_16, x144_17, x144_18, x144_21, x144_22, x144_23, x144_25, x144_26, h1, gf_15_3 k0, gN_17 k4, k4', h2, gl_17 k4, hx, hc, hf z hz, Option.bind_some, Option.toList_some, Option.toList_none, List.cons_append, List.nil_append, Option.isSome_some, if_true, eq_self, or_true, true_or, xb_01, mcl_cl, not_true_eq_false, not_false_eq_true, if_false]
  rw [Nat.zero_add] at h
  exact h
theorem sLk_v (h8 : ¬ v = 8) : sLk S w j v = v := by
  unfold sLk sBk
  rw [if_neg h8]
theorem sLess_ls {z : Nat} (hA : rA g G c n b ρ S) (hw6 : w < 6) (h8 : ¬ sVw S w = 8) (hf : sFf S w = -5) (hy : y < sMany S w) (hz : z < sMany S w) : sLess (sOr S w) z y = (!decide (y = z) && sLs (sVw S w) (sLv S w (nI y) (sVw S w)) (sLv S w (nI z) (sVw S w)) y z) := by
  obtain ⟨w1, w2, w3, w4, w5, w6, w7, w8, w9, w10⟩ := rA_w hA hw6
  by_cases c1 : y = z
  · subst c1
    unfold sLess
    simp
  · obtain ⟨f1, _⟩ := sFf_ok (q := y) w7 hf hy
    obtain ⟨f2, _⟩ := sFf_ok (q := z) w7 hf hz
    have o1 := (okb_look hA.2.2.2.2.2.2.2.2.1 f1).1
    have o2 := (okb_look hA.2.2.2.2.2.2.2.2.1 f2).1
    rw [sLk_v h8] at o1 o2
    unfold sLess sOr
    rw [sLk_v h8, sLk_v h8, decide_eq_false c1, Bool.not_false, Bool.true_and]
    unfold sLs
    by_cases c2 : 6 ≤ sVw S w
    · rw [if_pos c2]
      have hv : sVw S w = 6 ∨ sVw S w = 7 := by
        have e6 : (6 : Int32).toInt = 6 := rfl
        have e8 := i32_ne h8
        have e8' : (8 : Int32).toInt = 8 := rfl
        rw [i32_le, e6] at c2
        rw [e8'] at e8
        have : (sVw S w).toInt = 6 ∨ (sVw S w).toInt = 7 := by omega
        rcases this with t | t
        · exact Or.inl (Int32.toInt_inj.mp t)
        · exact Or.inr (Int32.toInt_inj.mp t)
      obtain ⟨r1, r2⟩ := rk_ord hv o1 o2
      rw [r1, r2]
    · rw [if_neg c2]
      have n6 : ¬ sVw S w = 6 := fun e => c2 (by rw [e]; decide)
      have n7 : ¬ sVw S w = 7 := fun e => c2 (by rw [e]; decide)
      unfold sRk
      rw [if_neg (fun z => n6 z.2), if_neg (fun z => n7 z.2), if_neg (fun z => n6 z.2), if_neg (fun z => n7 z.2)]
      by_cases c3 : sLv S w (nI y) (sVw S w) = sLv S w (nI z) (sVw S w)
      · rw [if_pos c3, c3]
        simp
      · rw [if_neg c3]
        simp [c3]
theorem l106 (hA : rA g G c n b ρ S) (hw6 : w < 6) (h8 : ¬ sVw S w = 8) (hf : sFf S w = -5) (hq : bq T G c) (hn : ∀ q, q < sMany S w → T.2.2.2.1 (c + 4) q = sOr S w q) (i4 : Int32) : ∀ d s, s + d = sMany S w → X g 106 63 [.val (va_rf (some c)), .val (.int i), .val (.int j), .val (va_rf (some (b + 5 + w))), .val (.int i4), .val (.int (nI (sMany S w))), .val (.int (nI s))] [] (gH n kc ks T) = some (some (.int (sRank S w j s d)), gH n kc ks T) := by
  have hT := rA_bq hA hq
  obtain ⟨w1, w2, w3, w4, w5, w6, w7, w8, w9, w10⟩ := rA_w hT hw6
  have k0 : T.1 c = 15 := hT.1.2.1.1
  intro d
  induction d with
  | zero =>
    intro s hs
    have h1 : nI (sMany S w) ≤ nI s := nI_le (by omega) (by omega)
    simp only [x106_0, x106_1, x106_4, x106_5, x106_8, x106_9, x106_10, x106_13, x106_14, x106_17, x106_18, x106_19, x106_20, x106_23, x106_25, x106_28, x106_30, x106_31, x106_32, x106_33, x106_36, x106_38, x106_40, x106_42, x106_45, x106_46, x106_47, x106_49, x106_52, x106_53, x106_54, x106_55, x106_58, x106_60, x106_61, x106_63, x106_65, x106_67, x106_70, x106_71, x106_73, x106_75, x106_78, x106_79, x106_82, x106_84, x106_85, x106_91, x106_93, h1, Option.bind_some, Option.toList_some, Option.toList_none, List.cons_append, List.nil_append, Option.isSome_some, if_true, eq_self, or_true, true_or, xb_01, mcl_cl, not_true_eq_false, not_false_eq_true, if_false, sRank, mFst]
  | succ d ih =>
    intro s hs
    have h1 : ¬ nI (sMany S w) ≤ nI s := nI_ge (by omega) (by omega)
    have k144 := c144 (g := g) (n := n) (kc := kc) (ks := ks) (z := s) hT.1.2.1 w7 (by omega) hn
    have he : mCnt (sLess (sOr S w) s) 0 (sMany S w) = sAhead S w s 0 (sMany S w) := by
      unfold sAhead
      refine mCnt_congr _ _ (fun x h1 h2 => ?_)
      exact sLess_ls hA hw6 h8 hf (by omega) (by omega)
    rw [he] at k144
    have h := ih (s + 1) (by omega)
    unfold sRank at h ⊢
    rw [mFst]
    by_cases c1 : nI (sAhead S w s 0 (sMany S w)) = j
    · rw [if_pos (by simp [c1])]
      simp only [x106_0, x106_1, x106_4, x106_5, x106_8, x106_9, x106_10, x106_13, x106_14, x106_17, x106_18, x106_19, x106_20, x106_23, x106_25, x106_28, x106_30, x106_31, x106_32, x106_33, x106_36, x106_38, x106_40, x106_42, x106_45, x106_46, x106_47, x106_49, x106_52, x106_53, x106_54, x106_55, x106_58, x106_60, x106_61, x106_63, x106_65, x106_67, x106_70, x106_71, x106_73, x106_75, x106_78, x106_79, x106_82, x106_84, x106_85, x106_91, x106_93, h1, gc_15 k0, k144, c1, Option.bind_some, Option.toList_some, Option.toList_none, List.cons_append, List.nil_append, Option.isSome_some, if_true, eq_self, or_true, true_or, xb_01, mcl_cl, not_true_eq_false, not_false_eq_true, if_false]
    · rw [if_neg (by simp [c1])]
      simp only [x106_0, x106_1, x106_4, x106_5, x106_8, x106_9, x106_10, x106_13, x106_14, x106_17, x106_18, x106_19, x106_20, x106_23, x106_25, x106_28, x106_30, x106_31, x106_32, x106_33, x106_36, x106_38, x106_40, x106_42, x106_45, x106_46, x106_47, x106_49, x106_52, x106_53, x106_54, x106_55, x106_58, x106_60, x106_61, x106_63, x106_65, x106_67, x106_70, x106_71, x106_73, x106_75, x106_78, x106_79, x106_82, x106_84, x106_85, x106_91, x106_93, h1, gc_15 k0, k144, c1, Option.bind_some, Option.toList_some, Option.toList_none, List.cons_append, List.nil_append, Option.isSome_some, if_true, eq_self, or_true, true_or, xb_01, mcl_cl, not_true_eq_false, not_false_eq_true, if_false]
      simp only [x106_88, nI_1]
      exact h
theorem s106 (hA : rA g G c n b ρ S) (hp : G.2.2.1 (c + 7) 1 = 0) : sim g c n kc ks G 106 [.val (va_rf (some c)), .val (.int i), .val (.int j), .unset, .unset, .unset, .unset] (.int (fLeast S i j)) S := by
  have k0 : G.1 c = 15 := hA.1.2.1.1
  have hb := hA.2.1
  have hB := hA.2.2.1
  unfold fLeast
  cases e1 : mSl i with
  | false =>
    have k13 := k13n (g := g) (kc := kc) (ks := ks) hA e1
    rw [if_pos rfl]
    refine sim_same hA hp ?_
    simp only [x106_0, x106_1, x106_4, x106_5, x106_8, x106_9, x106_10, x106_13, x106_14, x106_17, x106_18, x106_19, x106_20, x106_23, x106_25, x106_28, x106_30, x106_31, x106_32, x106_33, x106_36, x106_38, x106_40, x106_42, x106_45, x106_46, x106_47, x106_49, x106_52, x106_53, x106_54, x106_55, x106_58, x106_60, x106_61, x106_63, x106_65, x106_67, x106_70, x106_71, x106_73, x106_75, x106_78, x106_79, x106_82, x106_84, x106_85, x106_91, x106_93, gf_15_9 k0, hb, gc_9 hB.1, k13, Option.bind_some, Option.toList_some, Option.toList_none, List.cons_append, List.nil_append, Option.isSome_some, if_true, eq_self, or_true, true_or, xb_01, mcl_cl, not_true_eq_false, not_false_eq_true, if_false]
  | true =>
    obtain ⟨k13, hi⟩ := k13w (g := g) (kc := kc) (ks := ks) hA e1
    obtain ⟨w1, w2, w3, w4, w5, w6, w7, w8, w9, w10⟩ := rA_w hA hi
    rw [if_neg (by simp)]
    have hne : ¬ (some (b + 5 + tn i) = none) := by simp
    by_cases j0 : j < 0
    · have j0' : ¬ 0 ≤ j := by rw [i32_lt] at j0; rw [i32_le]; omega
      rw [if_pos j0]
      refine sim_same hA hp ?_
      simp only [x106_0, x106_1, x106_4, x106_5, x106_8, x106_9, x106_10, x106_13, x106_14, x106_17, x106_18, x106_19, x106_20, x106_23, x106_25, x106_28, x106_30, x106_31, x106_32, x106_33, x106_36, x106_38, x106_40, x106_42, x106_45, x106_46, x106_47, x106_49, x106_52, x106_53, x106_54, x106_55, x106_58, x106_60, x106_61, x106_63, x106_65, x106_67, x106_70, x106_71, x106_73, x106_75, x106_78, x106_79, x106_82, x106_84, x106_85, x106_91, x106_93, gf_15_9 k0, hb, gc_9 hB.1, k13, hne, j0', Option.bind_some, Option.toList_some, Option.toList_none, List.cons_append, List.nil_append, Option.isSome_some, if_true, eq_self, or_true, true_or, xb_01, mcl_cl, not_true_eq_false, not_false_eq_true, if_false]
    · have j0' : 0 ≤ j := by rw [i32_lt] at j0; rw [i32_le]; omega
      rw [if_neg j0]
      by_cases h8 : sVw S (tn i) = 8
      · rw [if_pos h8]
        refine sim_same hA hp ?_
        simp only [x106_0, x106_1, x106_4, x106_5, x106_8, x106_9, x106_10, x106_13, x106_14, x106_17, x106_18, x106_19, x106_20, x106_23, x106_25, x106_28, x106_30, x106_31, x106_32, x106_33, x106_36, x106_38, x106_40, x106_42, x106_45, x106_46, x106_47, x106_49, x106_52, x106_53, x106_54, x106_55, x106_58, x106_60, x106_61, x106_63, x106_65, x106_67, x106_70, x106_71, x106_73, x106_75, x106_78, x106_79, x106_82, x106_84, x106_85, x106_91, x106_93, gf_15_9 k0, hb, gc_9 hB.1, k13, hne, j0', gf_14_4 w1, w8, h8, Option.bind_some, Option.toList_some, Option.toList_none, List.cons_append, List.nil_append, Option.isSome_some, if_true, eq_self, or_true, true_or, xb_01, mcl_cl, not_true_eq_false, not_false_eq_true, if_false]
      · rw [if_neg h8]
        obtain ⟨T, t1, t2⟩ := c142 (g := g) (n := n) (kc := kc) (ks := ks) hA hi
        have hT := rA_bq hA t2
        have k0' : T.1 c = 15 := hT.1.2.1.1
        by_cases e5 : sFf S (tn i) = -5
        · rw [if_pos e5]
          obtain ⟨U, u1, u2, u3⟩ := c143 (g := g) (n := n) (kc := kc) (ks := ks) hA hi e5 t2
          have hl := l106 (g := g) (n := n) (kc := kc) (ks := ks) (i := i) (j := j) hA hi h8 e5 u2 u3 (-5) (sMany S (tn i)) 0 (by omega)
          refine sim_bq hA hp u2 ?_
          rw [e5] at t1
          simp only [x106_0, x106_1, x106_4, x106_5, x106_8, x106_9, x106_10, x106_13, x106_14, x106_17, x106_18, x106_19, x106_20, x106_23, x106_25, x106_28, x106_30, x106_31, x106_32, x106_33, x106_36, x106_38, x106_40, x106_42, x106_45, x106_46, x106_47, x106_49, x106_52, x106_53, x106_54, x106_55, x106_58, x106_60, x106_61, gf_15_9 k0, hb, gc_9 hB.1, k13, hne, j0', gf_14_4 w1, w8, h8, gc_15 k0, gc_15 k0', t1, u1, Option.bind_some, Option.toList_some, Option.toList_none, List.cons_append, List.nil_append, Option.isSome_some, if_true, eq_self, or_true, true_or, xb_01, mcl_cl, not_true_eq_false, not_false_eq_true, if_false]
          exact hl
        · rw [if_neg e5]
          obtain ⟨U, u1, u2⟩ := c141 (g := g) (n := n) (kc := kc) (ks := ks) (j := sFf S (tn i)) hT hi
          have hf : ¬ sFa S (tn i) (sFf S (tn i)) = 0 := mFst_bad e5
          rw [sAns_n hf] at u1
          refine sim_bq hA hp (bq_trans t2 u2) ?_
          simp only [x106_0, x106_1, x106_4, x106_5, x106_8, x106_9, x106_10, x106_13, x106_14, x106_17, x106_18, x106_19, x106_20, x106_23, x106_25, x106_28, x106_30, x106_31, x106_32, x106_33, x106_36, x106_38, x106_40, x106_42, x106_45, x106_46, x106_47, x106_49, x106_52, x106_53, x106_54, x106_55, x106_58, x106_60, x106_61, x106_63, x106_65, x106_67, x106_70, x106_71, x106_73, x106_75, x106_78, x106_79, x106_82, x106_84, x106_85, x106_91, x106_93, gf_15_9 k0, hb, gc_9 hB.1, k13, hne, j0', gf_14_4 w1, w8, h8, gc_15 k0, gc_15 k0', t1, e5, u1, Option.bind_some, Option.toList_some, Option.toList_none, List.cons_append, List.nil_append, Option.isSome_some, if_true, eq_self, or_true, true_or, xb_01, mcl_cl, not_true_eq_false, not_false_eq_true, if_false]
end K28
