/-! THE CLASS's methods, 1: boxes, rows, windows -/
theorem cl_tn (i : Int32) : i.toNatClampNeg = tn i := rfl
theorem xin_neg {i : Int32} {l : Nat} (h : i < 0) : xin i l = false := by
  unfold xin
  rw [decide_eq_true h]
  rfl
theorem xin_ge {i : Int32} {l : Nat} (hl : l < 2 ^ 31) (h : nI l ≤ i) : xin i l = false := by
  unfold xin
  have h1 : (nI l).toInt ≤ i.toInt := Int32.le_iff_toInt_le.mp h
  rw [nI_toInt hl] at h1
  rw [cl_tn, decide_eq_true (p := l ≤ tn i) (by unfold tn; omega), Bool.or_true]
  rfl
theorem xin_lt {i : Int32} {l : Nat} (hl : l < 2 ^ 31) (h0 : ¬ i < 0) (h : ¬ nI l ≤ i) : xin i l = true := by
  unfold xin
  have h1 : ¬ (nI l).toInt ≤ i.toInt := fun z => h (Int32.le_iff_toInt_le.mpr z)
  have h2 : ¬ i.toInt < (0 : Int32).toInt := fun z => h0 (Int32.lt_iff_toInt_lt.mpr z)
  have e0 : (0 : Int32).toInt = 0 := rfl
  rw [nI_toInt hl] at h1
  rw [cl_tn, decide_eq_false h0, decide_eq_false (p := l ≤ tn i) (by unfold tn; omega)]
  rfl
theorem xin_tn {i : Int32} {l : Nat} (h : xin i l = true) : i = nI (tn i) ∧ tn i < l := by
  unfold xin at h
  simp only [Bool.not_eq_true', Bool.or_eq_false_iff, decide_eq_false_iff_not, cl_tn] at h
  obtain ⟨h1, h2⟩ := h
  have h3 : ¬ i.toInt < (0 : Int32).toInt := fun z => h1 (Int32.lt_iff_toInt_lt.mpr z)
  have e0 : (0 : Int32).toInt = 0 := rfl
  exact ⟨nI_tn (by omega), Nat.lt_of_not_le (of_decide_eq_false h2)⟩
/-- what lies behind an address by its role -/
def gW (G : GS) : Prop := (∀ a, G.1 a = 1 → G.1 (a + 1) = 2 ∧ G.1 (a + 2) = 3 ∧ G.1 (a + 3) = 4 ∧ G.2.1 (a + 1) = G.2.1 (a + 2) ∧ G.2.1 (a + 3) = G.2.1 (a + 2) ∧ G.2.1 (a + 2) ≤ 32) ∧ (∀ a, G.1 a = 6 → G.1 (a + 1) = 7 ∧ G.2.1 (a + 1) ≤ 64) ∧ (∀ a, G.1 a = 9 → G.1 (a + 1) = 10 ∧ G.1 (a + 2) = 11 ∧ G.1 (a + 3) = 12 ∧ G.1 (a + 4) = 13 ∧ G.2.1 (a + 1) = 10 ∧ G.2.1 (a + 2) = 10 ∧ G.2.1 (a + 3) = 10 ∧ G.2.1 (a + 4) = 6 ∧ ∀ w, w < 6 → G.1 (a + 5 + w) = 14)
/-- the root and what it is made with -/
def gK (G : GS) (c : Nat) : Prop := G.1 c = 15 ∧ G.1 (c + 1) = 16 ∧ G.1 (c + 2) = 16 ∧ G.1 (c + 3) = 16 ∧ (G.1 (c + 4) = 17 ∧ G.2.1 (c + 4) = 32) ∧ (G.1 (c + 5) = 18 ∧ G.2.1 (c + 5) = 32) ∧ (G.1 (c + 6) = 19 ∧ G.2.1 (c + 6) = 3) ∧ G.1 (c + 7) = 20 ∧ (G.1 (c + 8) = 21 ∧ G.2.1 (c + 8) = 64) ∧ (G.1 (c + 9) = 22 ∧ G.2.1 (c + 9) = 24) ∧ G.1 (c + 10) = 23 ∧ (G.1 (c + 11) = 24 ∧ G.2.1 (c + 11) = 120) ∧ (G.1 (c + 12) = 25 ∧ G.2.1 (c + 12) = 20) ∧ G.1 (c + 13) = 26 ∧ (G.1 (c + 14) = 27 ∧ G.2.1 (c + 14) = 673) ∧ (G.1 (c + 15) = 28 ∧ G.2.1 (c + 15) = 19)
section K1
variable {g : xG} {n kc ks a b c s w q l : Nat} {G : GS} {h : xH} {i j k m p : Int32} {u v : Int64} {o : Option Nat}
theorem c27 (ha : G.1 a = 16) : X g 27 0 [.val (va_rf (some a)), .val (.int i), .val (.long u), .second] [] (gH n kc ks G) = some (none, gH n kc ks (gsJ (gsI G a 0 i) a 1 u)) := by
  have ha' : (gsI G a 0 i).1 a = 16 := ha
  simp only [x27_0, x27_1, x27_2, x27_5, x27_6, x27_7, x27_10, gf_16_0 ha, gp_16_0 ha, gf_16_1 ha', gp_16_1 ha', Option.bind_some, Option.toList_some, Option.toList_none, List.cons_append, List.nil_append, Option.isSome_some, if_true, eq_self, or_true, true_or, xb_01, mcl_cl, not_true_eq_false, not_false_eq_true, if_false]
theorem c65 (hw : gW G) (ha : G.1 a = 1) : X g 65 0 [.val (va_rf (some a))] [] (gH n kc ks G) = some (some (.int (nI (G.2.1 (a + 2)))), gH n kc ks G) := by
  obtain ⟨w1, w2, w3, w4, w5, w6⟩ := hw.1 a ha
  simp only [x65_0, x65_1, x65_4, x65_5, gf_1_2 ha, gN_3 w2, Option.bind_some, Option.toList_some, Option.toList_none, List.cons_append, List.nil_append, Option.isSome_some, if_true, eq_self, or_true, true_or, xb_01, mcl_cl, not_true_eq_false, not_false_eq_true, if_false]
theorem c66 (hw : gW G) (ha : G.1 a = 1) : X g 66 0 [.val (va_rf (some a)), .val (.int i)] [] (gH n kc ks G) = some (some (.int (xb (xin i (G.2.1 (a + 2))))), gH n kc ks G) := by
  obtain ⟨w1, w2, w3, w4, w5, w6⟩ := hw.1 a ha
  have hl : G.2.1 (a + 2) < 2 ^ 31 := by omega
  simp only [x66_0, x66_1, x66_4, x66_5, x66_6, x66_9, x66_10, x66_13, x66_14, x66_17, x66_18, gf_1_2 ha, gN_3 w2, Option.bind_some, Option.toList_some, Option.toList_none, List.cons_append, List.nil_append, Option.isSome_some, if_true, eq_self, or_true, true_or, xb_01, mcl_cl, not_true_eq_false, not_false_eq_true, if_false]
  by_cases h1 : i < 0
  · simp [h1, xin_neg h1, xb]
  · by_cases h2 : nI (G.2.1 (a + 2)) ≤ i
    · simp [h1, h2, xin_ge hl h2, xb]
    · simp [h1, h2, xin_lt hl h1 h2, xb]
theorem c67 (hw : gW G) (ha : G.1 a = 1) : X g 67 0 [.val (va_rf (some a)), .val (.int i)] [] (gH n kc ks G) = some (some (.int (if xin i (G.2.1 (a + 2)) = true then G.2.2.1 (a + 1) (tn i) else 8)), gH n kc ks G) := by
  obtain ⟨w1, w2, w3, w4, w5, w6⟩ := hw.1 a ha
  cases h1 : xin i (G.2.1 (a + 2)) <;> simp only [x67_0, x67_1, x67_2, x67_5, x67_8, x67_9, x67_12, x67_13, x67_14, x67_17, x67_19, c66 hw ha, gc_1 ha, gf_1_1 ha, gl_2 w1, w4, h1, xb_t, xb_f, cl_tn, i32_10, if_false, b_ft, Option.bind_some, Option.toList_some, Option.toList_none, List.cons_append, List.nil_append, Option.isSome_some, if_true, eq_self, or_true, true_or, xb_01, mcl_cl, not_true_eq_false, not_false_eq_true, if_false]
theorem c68 (hw : gW G) (ha : G.1 a = 1) : X g 68 0 [.val (va_rf (some a)), .val (.int i)] [] (gH n kc ks G) = some (some (.long (if xin i (G.2.1 (a + 2)) = true then G.2.2.2.1 (a + 2) (tn i) else 0)), gH n kc ks G) := by
  obtain ⟨w1, w2, w3, w4, w5, w6⟩ := hw.1 a ha
  cases h1 : xin i (G.2.1 (a + 2)) <;> simp only [x68_0, x68_1, x68_2, x68_5, x68_8, x68_9, x68_12, x68_13, x68_14, x68_17, x68_18, c66 hw ha, gc_1 ha, gf_1_2 ha, gl_3 w2, h1, xb_t, xb_f, cl_tn, i32_10, if_false, b_ft, Option.bind_some, Option.toList_some, Option.toList_none, List.cons_append, List.nil_append, Option.isSome_some, if_true, eq_self, or_true, true_or, xb_01, mcl_cl, not_true_eq_false, not_false_eq_true, if_false]
/-- a cell of a row set -/
def rSet (G : GS) (a p : Nat) (k : Int32) (v : Int64) : GS := gsJ (gsI G (a + 1) p k) (a + 2) p v
theorem c69 (hw : gW G) (ha : G.1 a = 1) : X g 69 0 [.val (va_rf (some a)), .val (.int i), .val (.int k), .val (.long v), .second] [] (gH n kc ks G) = some (none, gH n kc ks (if xin i (G.2.1 (a + 2)) = true then rSet G a (tn i) k v else G)) := by
  obtain ⟨w1, w2, w3, w4, w5, w6⟩ := hw.1 a ha
  have ha' : (gsI G (a + 1) (tn i) k).1 a = 1 := ha
  have w2' : (gsI G (a + 1) (tn i) k).1 (a + 2) = 3 := w2
  cases h1 : xin i (G.2.1 (a + 2)) <;> simp only [x69_0, x69_1, x69_2, x69_5, x69_8, x69_9, x69_12, x69_13, x69_14, x69_15, x69_16, x69_19, x69_20, x69_21, x69_22, c66 hw ha, gc_1 ha, gf_1_1 ha, gf_1_2 ha', gs_2 w1, gs_3 w2', gsI2, w4, h1, xb_t, xb_f, cl_tn, i32_10, if_false, b_ft, Option.bind_some, Option.toList_some, Option.toList_none, List.cons_append, List.nil_append, Option.isSome_some, if_true, eq_self, or_true, true_or, xb_01, mcl_cl, not_true_eq_false, not_false_eq_true, if_false]
  rfl
theorem c70 (hw : gW G) (ha : G.1 a = 1) : X g 70 0 [.val (va_rf (some a)), .val (.int i)] [] (gH n kc ks G) = some (none, gH n kc ks (if xin i (G.2.1 (a + 2)) = true then gsI G (a + 3) (tn i) 1 else G)) := by
  obtain ⟨w1, w2, w3, w4, w5, w6⟩ := hw.1 a ha
  cases h1 : xin i (G.2.1 (a + 2)) <;> simp only [x70_0, x70_1, x70_2, x70_5, x70_8, x70_9, x70_12, x70_13, x70_14, x70_15, c66 hw ha, gc_1 ha, gf_1_3 ha, gs_4 w3, w5, h1, xb_t, xb_f, cl_tn, i32_10, if_false, b_ft, Option.bind_some, Option.toList_some, Option.toList_none, List.cons_append, List.nil_append, Option.isSome_some, if_true, eq_self, or_true, true_or, xb_01, mcl_cl, not_true_eq_false, not_false_eq_true, if_false]
  rfl
theorem l71 (hw : gW G) (ha : G.1 a = 1) : ∀ d s m, s + d = G.2.1 (a + 2) → X g 71 4 [.val (va_rf (some a)), .val (.int (nI m)), .val (.int (nI s))] [] (gH n kc ks G) = some (some (.int (nI (m + mCnt (fun q => !decide (G.2.2.1 (a + 3) q = 0)) s d))), gH n kc ks G) := by
  obtain ⟨w1, w2, w3, w4, w5, w6⟩ := hw.1 a ha
  intro d
  induction d with
  | zero =>
    intro s m hs
    have h1 : nI (G.2.1 (a + 2)) ≤ nI s := nI_le (by omega) (by omega)
    simp only [x71_0, x71_1, x71_2, x71_3, x71_4, x71_5, x71_6, x71_9, x71_10, x71_13, x71_14, x71_17, x71_18, x71_19, x71_22, x71_25, x71_31, x71_32, gf_1_3 ha, gN_4 w3, w5, h1, Option.bind_some, Option.toList_some, Option.toList_none, List.cons_append, List.nil_append, Option.isSome_some, if_true, eq_self, or_true, true_or, xb_01, mcl_cl, not_true_eq_false, not_false_eq_true, if_false, mCnt, Nat.add_zero]
  | succ d ih =>
    intro s m hs
    have h1 : ¬ nI (G.2.1 (a + 2)) ≤ nI s := nI_ge (by omega) (by omega)
    have h0 : s < G.2.1 (a + 2) := by omega
    simp only [x71_0, x71_1, x71_2, x71_3, x71_4, x71_5, x71_6, x71_9, x71_10, x71_13, x71_14, x71_17, x71_18, x71_19, x71_22, x71_25, x71_31, x71_32, gf_1_3 ha, gN_4 w3, gl_4 w3, w5, h1, if_false, xin_nI h0 (by omega), nI_clamp (lt31 h0 (by omega)), Option.bind_some, Option.toList_some, Option.toList_none, List.cons_append, List.nil_append, Option.isSome_some, if_true, eq_self, or_true, true_or, xb_01, mcl_cl, not_true_eq_false, not_false_eq_true, if_false]
    by_cases h2 : G.2.2.1 (a + 3) s = 0
    · simp only [h2, if_true, x71_28, nI_1]
      rw [ih (s + 1) m (by omega)]
      simp [mCnt, h2]
    · simp only [h2, if_false, x71_28, nI_1]
      rw [ih (s + 1) (m + 1) (by omega)]
      simp [mCnt, h2, Nat.add_assoc]
theorem c71 (hw : gW G) (ha : G.1 a = 1) : X g 71 0 [.val (va_rf (some a)), .unset, .unset] [] (gH n kc ks G) = some (some (.int (nI (mCnt (fun q => !decide (G.2.2.1 (a + 3) q = 0)) 0 (G.2.1 (a + 2))))), gH n kc ks G) := by
  simp only [x71_0, x71_1, x71_2, x71_3]
  have := l71 (g := g) (n := n) (kc := kc) (ks := ks) hw ha (G.2.1 (a + 2)) 0 0 (by omega)
  rw [Nat.zero_add] at this
  exact this
theorem l72 (hw : gW G) (ha : G.1 a = 1) : ∀ d s, s + d = G.2.1 (a + 2) → X g 72 2 [.val (va_rf (some a)), .val (.int (nI s))] [] (gH n kc ks G) = some (some (.int (mFst (fun q => !decide (G.2.2.1 (a + 3) q = 0)) s d)), gH n kc ks G) := by
  obtain ⟨w1, w2, w3, w4, w5, w6⟩ := hw.1 a ha
  intro d
  induction d with
  | zero =>
    intro s hs
    have h1 : nI (G.2.1 (a + 2)) ≤ nI s := nI_le (by omega) (by omega)
    simp only [x72_0, x72_1, x72_2, x72_3, x72_4, x72_7, x72_8, x72_11, x72_12, x72_15, x72_16, x72_17, x72_20, x72_21, x72_22, x72_28, x72_30, gf_1_3 ha, gN_4 w3, w5, h1, Option.bind_some, Option.toList_some, Option.toList_none, List.cons_append, List.nil_append, Option.isSome_some, if_true, eq_self, or_true, true_or, xb_01, mcl_cl, not_true_eq_false, not_false_eq_true, if_false, mFst]
  | succ d ih =>
    intro s hs
    have h1 : ¬ nI (G.2.1 (a + 2)) ≤ nI s := nI_ge (by omega) (by omega)
    have h0 : s < G.2.1 (a + 2) := by omega
    simp only [x72_0, x72_1, x72_2, x72_3, x72_4, x72_7, x72_8, x72_11, x72_12, x72_15, x72_16, x72_17, x72_20, x72_21, x72_22, x72_28, x72_30, gf_1_3 ha, gN_4 w3, gl_4 w3, w5, h1, if_false, xin_nI h0 (by omega), nI_clamp (lt31 h0 (by omega)), Option.bind_some, Option.toList_some, Option.toList_none, List.cons_append, List.nil_append, Option.isSome_some, if_true, eq_self, or_true, true_or, xb_01, mcl_cl, not_true_eq_false, not_false_eq_true, if_false]
    by_cases h2 : G.2.2.1 (a + 3) s = 0
    · simp only [h2, if_true, x72_25, nI_1]
      rw [ih (s + 1) (by omega)]
      simp [mFst, h2]
    · simp only [h2, if_false, x72_25, nI_1]
      simp [mFst, h2]
theorem c72 (hw : gW G) (ha : G.1 a = 1) : X g 72 0 [.val (va_rf (some a)), .unset] [] (gH n kc ks G) = some (some (.int (mFst (fun q => !decide (G.2.2.1 (a + 3) q = 0)) 0 (G.2.1 (a + 2)))), gH n kc ks G) := by
  simp only [x72_0, x72_1]
  exact l72 (g := g) (n := n) (kc := kc) (ks := ks) hw ha (G.2.1 (a + 2)) 0 (by omega)
-- windows
theorem c88 (ha : G.1 a = 14) : X g 88 0 [.val (va_rf (some a)), .val (.int i)] [] (gH n kc ks G) = some (some (.int (xb (!decide (i < 0) && !decide (G.2.2.1 a 3 ≤ i)))), gH n kc ks G) := by
  simp only [x88_0, x88_1, x88_4, x88_5, x88_6, x88_9, x88_12, x88_13, x88_16, x88_17, gf_14_3 ha, Option.bind_some, Option.toList_some, Option.toList_none, List.cons_append, List.nil_append, Option.isSome_some, if_true, eq_self, or_true, true_or, xb_01, mcl_cl, not_true_eq_false, not_false_eq_true, if_false]
  by_cases h1 : i < 0 <;> by_cases h2 : G.2.2.1 a 3 ≤ i <;> simp [h1, h2, xb]
theorem c89 (ha : G.1 a = 14) : X g 89 0 [.val (va_rf (some a)), .val (.int i)] [] (gH n kc ks G) = some (some (.int (G.2.2.1 a 1 + i * G.2.2.1 a 2)), gH n kc ks G) := by
  simp only [x89_0, x89_1, x89_4, x89_5, x89_6, x89_9, x89_10, x89_11, gf_14_1 ha, gf_14_2 ha, Option.bind_some, Option.toList_some, Option.toList_none, List.cons_append, List.nil_append, Option.isSome_some, if_true, eq_self, or_true, true_or, xb_01, mcl_cl, not_true_eq_false, not_false_eq_true, if_false]
def wSet (G : GS) (a : Nat) (i j k m p : Int32) : GS := gsI (gsI (gsI (gsI (gsI G a 0 i) a 1 j) a 2 k) a 3 m) a 4 p
theorem c90 (ha : G.1 a = 14) : X g 90 0 [.val (va_rf (some a)), .val (.int i), .val (.int j), .val (.int k), .val (.int m), .val (.int p)] [] (gH n kc ks G) = some (none, gH n kc ks (wSet G a i j k m p)) := by
  have a1 : (gsI G a 0 i).1 a = 14 := ha
  have a2 : (gsI (gsI G a 0 i) a 1 j).1 a = 14 := ha
  have a3 : (gsI (gsI (gsI G a 0 i) a 1 j) a 2 k).1 a = 14 := ha
  have a4 : (gsI (gsI (gsI (gsI G a 0 i) a 1 j) a 2 k) a 3 m).1 a = 14 := ha
  simp only [x90_0, x90_1, x90_2, x90_5, x90_6, x90_7, x90_10, x90_11, x90_12, x90_15, x90_16, x90_18, x90_21, x90_22, x90_24, x90_27, gf_14_0 ha, gp_14_0 ha, gf_14_1 a1, gp_14_1 a1, gf_14_2 a2, gp_14_2 a2, gf_14_3 a3, gp_14_3 a3, gf_14_4 a4, gp_14_4 a4, Option.bind_some, Option.toList_some, Option.toList_none, List.cons_append, List.nil_append, Option.isSome_some, if_true, eq_self, or_true, true_or, xb_01, mcl_cl, not_true_eq_false, not_false_eq_true, if_false]
  rfl
end K1
