/-! THE CLASS's methods, 8: banks -/
section K8
variable {g : xG} {n kc ks a b c s t w q l : Nat} {G : GS} {h : xH} {i j k m p : Int32} {u v : Int64} {o : Option Nat}
theorem slot_no (h : i < 0 ∨ 10 ≤ i) : mSlot i = false := by
  cases e : mSlot i with
  | false => rfl
  | true =>
    exfalso
    have := mWithin_iff.mp e
    simp only [i32_lt, i32_le, show (0 : Int32).toInt = 0 from rfl, show (10 : Int32).toInt = 10 from rfl] at h
    omega
theorem slot_yes (h1 : ¬ i < 0) (h2 : ¬ 10 ≤ i) : mSlot i = true := by
  refine mWithin_iff.mpr ?_
  simp only [i32_lt, i32_le, show (0 : Int32).toInt = 0 from rfl, show (10 : Int32).toInt = 10 from rfl] at h1 h2
  omega
theorem slot_x (e : mSlot i = true) : xin i 10 = true := by
  obtain ⟨e1, e2⟩ := mSlot_eq e
  rw [e1]
  exact xin_nI e2 (by decide)
theorem sl_x (e : mSl i = true) : xin i 6 = true := by
  obtain ⟨e1, e2⟩ := mSl_eq e
  rw [e1]
  exact xin_nI e2 (by decide)
theorem c8 : X g 8 0 [.val (.int i)] [] h = some (some (.int (xb (mSlot i))), h) := by
  by_cases e1 : i < 0
  · rw [slot_no (Or.inl e1)]
    simp only [x8_0, x8_1, x8_4, x8_5, x8_7, x8_10, x8_11, x8_14, x8_15, e1, xb_f, Option.bind_some, Option.toList_some, Option.toList_none, List.cons_append, List.nil_append, Option.isSome_some, if_true, eq_self, or_true, true_or, xb_01, mcl_cl, not_true_eq_false, not_false_eq_true, if_false]
  · by_cases e2 : 10 ≤ i
    · rw [slot_no (Or.inr e2)]
      simp only [x8_0, x8_1, x8_4, x8_5, x8_7, x8_10, x8_11, x8_14, x8_15, e1, e2, xb_f, Option.bind_some, Option.toList_some, Option.toList_none, List.cons_append, List.nil_append, Option.isSome_some, if_true, eq_self, or_true, true_or, xb_01, mcl_cl, not_true_eq_false, not_false_eq_true, if_false]
    · rw [slot_yes e1 e2]
      simp only [x8_0, x8_1, x8_4, x8_5, x8_7, x8_10, x8_11, x8_14, x8_15, e1, e2, xb_t, Option.bind_some, Option.toList_some, Option.toList_none, List.cons_append, List.nil_append, Option.isSome_some, if_true, eq_self, or_true, true_or, xb_01, mcl_cl, not_true_eq_false, not_false_eq_true, if_false]
theorem c127 : X g 127 0 [.val (.int i)] [] h = some (some (.int (xb (mSlot i))), h) := by
  by_cases e1 : i < 0
  · rw [slot_no (Or.inl e1)]
    simp only [x127_0, x127_1, x127_4, x127_5, x127_7, x127_10, x127_11, x127_14, x127_15, e1, xb_f, Option.bind_some, Option.toList_some, Option.toList_none, List.cons_append, List.nil_append, Option.isSome_some, if_true, eq_self, or_true, true_or, xb_01, mcl_cl, not_true_eq_false, not_false_eq_true, if_false]
  · by_cases e2 : 10 ≤ i
    · rw [slot_no (Or.inr e2)]
      simp only [x127_0, x127_1, x127_4, x127_5, x127_7, x127_10, x127_11, x127_14, x127_15, e1, e2, xb_f, Option.bind_some, Option.toList_some, Option.toList_none, List.cons_append, List.nil_append, Option.isSome_some, if_true, eq_self, or_true, true_or, xb_01, mcl_cl, not_true_eq_false, not_false_eq_true, if_false]
    · rw [slot_yes e1 e2]
      simp only [x127_0, x127_1, x127_4, x127_5, x127_7, x127_10, x127_11, x127_14, x127_15, e1, e2, xb_t, Option.bind_some, Option.toList_some, Option.toList_none, List.cons_append, List.nil_append, Option.isSome_some, if_true, eq_self, or_true, true_or, xb_01, mcl_cl, not_true_eq_false, not_false_eq_true, if_false]
/-- what a bank is made of -/
theorem gW9 (hw : gW G) (hb : G.1 b = 9) : G.1 (b + 1) = 10 ∧ G.1 (b + 2) = 11 ∧ G.1 (b + 3) = 12 ∧ G.1 (b + 4) = 13 ∧ G.2.1 (b + 1) = 10 ∧ G.2.1 (b + 2) = 10 ∧ G.2.1 (b + 3) = 10 ∧ G.2.1 (b + 4) = 6 ∧ ∀ w, w < 6 → G.1 (b + 5 + w) = 14 := hw.2.2 b hb
/-- the row in a slot -/
def bRow (G : GS) (b : Nat) (i : Int32) : Option Nat := if mSlot i = true then G.2.2.2.2 (b + 1) (tn i) else none
theorem c9 (hw : gW G) (hb : G.1 b = 9) : X g 9 0 [.val (va_rf (some b)), .val (.int i)] [] (gH n kc ks G) = some (some (va_rf (bRow G b i)), gH n kc ks G) := by
  obtain ⟨w1, w2, w3, w4, w5, w6, w7, w8, _⟩ := gW9 hw hb
  unfold bRow
  cases e : mSlot i with
  | false => simp only [x9_0, x9_1, x9_4, x9_7, x9_8, x9_11, x9_12, x9_13, x9_16, x9_17, c8, e, xb_f, Bool.false_eq_true, Option.bind_some, Option.toList_some, Option.toList_none, List.cons_append, List.nil_append, Option.isSome_some, if_true, eq_self, or_true, true_or, xb_01, mcl_cl, not_true_eq_false, not_false_eq_true, if_false]
  | true => simp only [x9_0, x9_1, x9_4, x9_7, x9_8, x9_11, x9_12, x9_13, x9_16, x9_17, c8, e, xb_t, i32_10, gf_9_0 hb, gl_10 w1, w5, slot_x e, cl_tn, Option.bind_some, Option.toList_some, Option.toList_none, List.cons_append, List.nil_append, Option.isSome_some, if_true, eq_self, or_true, true_or, xb_01, mcl_cl, not_true_eq_false, not_false_eq_true, if_false]
def bHeld (G : GS) (b : Nat) (i : Int32) : Int32 := if mSlot i = true then G.2.2.1 (b + 2) (tn i) else -1
theorem c10 (hw : gW G) (hb : G.1 b = 9) : X g 10 0 [.val (va_rf (some b)), .val (.int i)] [] (gH n kc ks G) = some (some (.int (bHeld G b i)), gH n kc ks G) := by
  obtain ⟨w1, w2, w3, w4, w5, w6, w7, w8, _⟩ := gW9 hw hb
  unfold bHeld
  cases e : mSlot i with
  | false => simp only [x10_0, x10_1, x10_4, x10_7, x10_8, x10_11, x10_12, x10_13, x10_16, x10_17, c8, e, xb_f, Bool.false_eq_true, Option.bind_some, Option.toList_some, Option.toList_none, List.cons_append, List.nil_append, Option.isSome_some, if_true, eq_self, or_true, true_or, xb_01, mcl_cl, not_true_eq_false, not_false_eq_true, if_false]
  | true => simp only [x10_0, x10_1, x10_4, x10_7, x10_8, x10_11, x10_12, x10_13, x10_16, x10_17, c8, e, xb_t, i32_10, gf_9_1 hb, gl_11 w2, w6, slot_x e, cl_tn, Option.bind_some, Option.toList_some, Option.toList_none, List.cons_append, List.nil_append, Option.isSome_some, if_true, eq_self, or_true, true_or, xb_01, mcl_cl, not_true_eq_false, not_false_eq_true, if_false]
theorem c11 (hw : gW G) (hb : G.1 b = 9) : X g 11 0 [.val (va_rf (some b)), .val (.int i)] [] (gH n kc ks G) = some (some (.int (if bHeld G b i = -1 then -11 else -12)), gH n kc ks G) := by
  obtain ⟨w1, w2, w3, w4, w5, w6, w7, w8, _⟩ := gW9 hw hb
  unfold bHeld
  cases e : mSlot i with
  | false => simp only [x11_0, x11_1, x11_4, x11_7, x11_8, x11_11, x11_12, x11_13, x11_14, x11_17, x11_19, x11_22, x11_24, c8, e, xb_f, Bool.false_eq_true, Option.bind_some, Option.toList_some, Option.toList_none, List.cons_append, List.nil_append, Option.isSome_some, if_true, eq_self, or_true, true_or, xb_01, mcl_cl, not_true_eq_false, not_false_eq_true, if_false]
  | true =>
    by_cases e2 : G.2.2.1 (b + 2) (tn i) = -1
    · simp only [x11_0, x11_1, x11_4, x11_7, x11_8, x11_11, x11_12, x11_13, x11_14, x11_17, x11_19, x11_22, x11_24, c8, e, xb_t, i32_10, gf_9_1 hb, gl_11 w2, w6, slot_x e, cl_tn, e2, Option.bind_some, Option.toList_some, Option.toList_none, List.cons_append, List.nil_append, Option.isSome_some, if_true, eq_self, or_true, true_or, xb_01, mcl_cl, not_true_eq_false, not_false_eq_true, if_false]
    · simp only [x11_0, x11_1, x11_4, x11_7, x11_8, x11_11, x11_12, x11_13, x11_14, x11_17, x11_19, x11_22, x11_24, c8, e, xb_t, i32_10, gf_9_1 hb, gl_11 w2, w6, slot_x e, cl_tn, e2, Option.bind_some, Option.toList_some, Option.toList_none, List.cons_append, List.nil_append, Option.isSome_some, if_true, eq_self, or_true, true_or, xb_01, mcl_cl, not_true_eq_false, not_false_eq_true, if_false]
theorem c12 (hw : gW G) (hb : G.1 b = 9) : X g 12 0 [.val (va_rf (some b)), .val (.int i)] [] (gH n kc ks G) = some (some (.int (if mSlot i = true then G.2.2.1 (b + 3) (tn i) else 0)), gH n kc ks G) := by
  obtain ⟨w1, w2, w3, w4, w5, w6, w7, w8, _⟩ := gW9 hw hb
  cases e : mSlot i with
  | false => simp only [x12_0, x12_1, x12_4, x12_7, x12_8, x12_11, x12_12, x12_13, x12_16, x12_17, c8, e, xb_f, Bool.false_eq_true, Option.bind_some, Option.toList_some, Option.toList_none, List.cons_append, List.nil_append, Option.isSome_some, if_true, eq_self, or_true, true_or, xb_01, mcl_cl, not_true_eq_false, not_false_eq_true, if_false]
  | true => simp only [x12_0, x12_1, x12_4, x12_7, x12_8, x12_11, x12_12, x12_13, x12_16, x12_17, c8, e, xb_t, i32_10, gf_9_2 hb, gl_12 w3, w7, slot_x e, cl_tn, Option.bind_some, Option.toList_some, Option.toList_none, List.cons_append, List.nil_append, Option.isSome_some, if_true, eq_self, or_true, true_or, xb_01, mcl_cl, not_true_eq_false, not_false_eq_true, if_false]
def bWin (b : Nat) (i : Int32) : Option Nat := if mSl i = true then some (b + 5 + tn i) else none
theorem c13 (hw : gW G) (hb : G.1 b = 9) : X g 13 0 [.val (va_rf (some b)), .val (.int i)] [] (gH n kc ks G) = some (some (va_rf (bWin b i)), gH n kc ks G) := by
  obtain ⟨w1, w2, w3, w4, w5, w6, w7, w8, _⟩ := gW9 hw hb
  have n6 : nI 6 = (6 : Int32) := rfl
  unfold bWin
  cases e : mSl i with
  | true =>
    have hx := sl_x e
    obtain ⟨e1, e2⟩ := mSl_eq e
    have h1 : ¬ i < 0 := by rw [e1]; exact nI_pos (by omega)
    have h2 : ¬ (6 : Int32) ≤ i := by rw [e1]; exact nI_ge (b := 6) e2 (by decide)
    simp only [x13_0, x13_1, x13_4, x13_5, x13_6, x13_9, x13_10, x13_13, x13_14, x13_17, x13_18, x13_19, x13_22, x13_23, gf_9_3 hb, gN_13 w4, gl_13 w4, w8, n6, h1, h2, hx, cl_tn, Option.bind_some, Option.toList_some, Option.toList_none, List.cons_append, List.nil_append, Option.isSome_some, if_true, eq_self, or_true, true_or, xb_01, mcl_cl, not_true_eq_false, not_false_eq_true, if_false]
  | false =>
    by_cases h1 : i < 0
    · simp only [x13_0, x13_1, x13_4, x13_5, x13_6, x13_9, x13_10, x13_13, x13_14, x13_17, x13_18, x13_19, x13_22, x13_23, h1, Bool.false_eq_true, Option.bind_some, Option.toList_some, Option.toList_none, List.cons_append, List.nil_append, Option.isSome_some, if_true, eq_self, or_true, true_or, xb_01, mcl_cl, not_true_eq_false, not_false_eq_true, if_false]
    · by_cases h2 : (6 : Int32) ≤ i
      · simp only [x13_0, x13_1, x13_4, x13_5, x13_6, x13_9, x13_10, x13_13, x13_14, x13_17, x13_18, x13_19, x13_22, x13_23, gf_9_3 hb, gN_13 w4, w8, n6, h1, h2, Bool.false_eq_true, Option.bind_some, Option.toList_some, Option.toList_none, List.cons_append, List.nil_append, Option.isSome_some, if_true, eq_self, or_true, true_or, xb_01, mcl_cl, not_true_eq_false, not_false_eq_true, if_false]
      · exfalso
        have : mSl i = true := by
          refine mWithin_iff.mpr ?_
          simp only [i32_lt, i32_le, show (0 : Int32).toInt = 0 from rfl, show (6 : Int32).toInt = 6 from rfl] at h1 h2
          omega
        rw [this] at e
        exact absurd e (by simp)
/-- a slot's contents set -/
def bSet (G : GS) (b s : Nat) (o : Option Nat) (k j : Int32) : GS := gsI (gsI (gsR G (b + 1) s o) (b + 2) s k) (b + 3) s j
theorem c14 (hw : gW G) (hb : G.1 b = 9) (ha : G.1 a = 1) (hs : mSlot i = true) : X g 14 0 [.val (va_rf (some b)), .val (.int i), .val (va_rf (some a))] [] (gH n kc ks G) = some (none, gH n kc ks (bSet G b (tn i) (some a) (G.2.2.1 a 0) 0)) := by
  obtain ⟨w1, w2, w3, w4, w5, w6, w7, w8, _⟩ := gW9 hw hb
  have hne : ¬ (some a : Option Nat) = none := by simp
  have b1 : (gsR G (b + 1) (tn i) (some a)).1 b = 9 := hb
  have b2 : (gsR G (b + 1) (tn i) (some a)).1 (b + 2) = 11 := w2
  have a2 : (gsR G (b + 1) (tn i) (some a)).1 a = 1 := ha
  have b3 : (gsI (gsR G (b + 1) (tn i) (some a)) (b + 2) (tn i) (G.2.2.1 a 0)).1 b = 9 := hb
  have b4 : (gsI (gsR G (b + 1) (tn i) (some a)) (b + 2) (tn i) (G.2.2.1 a 0)).1 (b + 3) = 12 := w3
  have hu : ∀ x, (some a : Option Nat) = some x → xcl (gH n kc ks G) x = some 7 := fun x hx => by
    cases hx
    exact gc_1 ha
  simp only [x14_0, x14_1, x14_4, x14_7, x14_8, x14_11, x14_12, x14_15, x14_16, x14_17, x14_18, x14_19, x14_22, x14_23, x14_24, x14_27, x14_28, x14_29, x14_32, x14_33, x14_34, x14_35, c8, hs, xb_t, i32_10, hne, gf_9_0 hb, gs_10 w1 hu, w5, slot_x hs, cl_tn, gf_9_1 b1, gf_1_0 a2, gs_11 b2, gsR2, gsR3, w6, gf_9_2 b3, gs_12 b4, gsI2, w7, Option.bind_some, Option.toList_some, Option.toList_none, List.cons_append, List.nil_append, Option.isSome_some, if_true, eq_self, or_true, true_or, xb_01, mcl_cl, not_true_eq_false, not_false_eq_true, if_false]
  rfl
theorem c15 (hw : gW G) (hb : G.1 b = 9) (hs : mSlot i = true) : X g 15 0 [.val (va_rf (some b)), .val (.int i), .val (.int k), .val (.int j)] [] (gH n kc ks G) = some (none, gH n kc ks (bSet G b (tn i) none k j)) := by
  obtain ⟨w1, w2, w3, w4, w5, w6, w7, w8, _⟩ := gW9 hw hb
  have b1 : (gsR G (b + 1) (tn i) none).1 b = 9 := hb
  have b2 : (gsR G (b + 1) (tn i) none).1 (b + 2) = 11 := w2
  have b3 : (gsI (gsR G (b + 1) (tn i) none) (b + 2) (tn i) k).1 b = 9 := hb
  have b4 : (gsI (gsR G (b + 1) (tn i) none) (b + 2) (tn i) k).1 (b + 3) = 12 := w3
  have hu : ∀ x, (none : Option Nat) = some x → xcl (gH n kc ks G) x = some 7 := fun x hx => by cases hx
  simp only [x15_0, x15_1, x15_4, x15_7, x15_8, x15_11, x15_12, x15_13, x15_14, x15_15, x15_18, x15_19, x15_20, x15_21, x15_22, x15_25, x15_26, x15_27, x15_28, c8, hs, xb_t, i32_10, gf_9_0 hb, gs_10 w1 hu, w5, slot_x hs, cl_tn, gf_9_1 b1, gs_11 b2, gsR2, w6, gf_9_2 b3, gs_12 b4, gsI2, w7, Option.bind_some, Option.toList_some, Option.toList_none, List.cons_append, List.nil_append, Option.isSome_some, if_true, eq_self, or_true, true_or, xb_01, mcl_cl, not_true_eq_false, not_false_eq_true, if_false]
  rfl
theorem c16 (hw : gW G) (hb : G.1 b = 9) (hs : mSlot i = true) (ht : mSlot j = true) (hr : ∀ x, G.2.2.2.2 (b + 1) (tn j) = some x → G.1 x = 1) : X g 16 0 [.val (va_rf (some b)), .val (.int i), .val (.int j)] [] (gH n kc ks G) = some (none, gH n kc ks (bSet G b (tn i) (G.2.2.2.2 (b + 1) (tn j)) (G.2.2.1 (b + 2) (tn j)) (G.2.2.1 (b + 3) (tn j)))) := by
  obtain ⟨w1, w2, w3, w4, w5, w6, w7, w8, _⟩ := gW9 hw hb
  have hu : ∀ x, G.2.2.2.2 (b + 1) (tn j) = some x → xcl (gH n kc ks G) x = some 7 := fun x hx => gc_1 (hr x hx)
  generalize ho : G.2.2.2.2 (b + 1) (tn j) = o at hu
  have b1 : (gsR G (b + 1) (tn i) o).1 b = 9 := hb
  have b2 : (gsR G (b + 1) (tn i) o).1 (b + 2) = 11 := w2
  have b3 : (gsI (gsR G (b + 1) (tn i) o) (b + 2) (tn i) (G.2.2.1 (b + 2) (tn j))).1 b = 9 := hb
  have b4 : (gsI (gsR G (b + 1) (tn i) o) (b + 2) (tn i) (G.2.2.1 (b + 2) (tn j))).1 (b + 3) = 12 := w3
  have e3 : (gsI (gsR G (b + 1) (tn i) o) (b + 2) (tn i) (G.2.2.1 (b + 2) (tn j))).2.2.1 (b + 3) (tn j) = G.2.2.1 (b + 3) (tn j) := by
    rw [gsI3, if_neg (by omega), gsR3]
  simp only [x16_0, x16_1, x16_4, x16_7, x16_8, x16_11, x16_14, x16_15, x16_18, x16_19, x16_20, x16_23, x16_24, x16_25, x16_26, x16_27, x16_30, x16_31, x16_32, x16_35, x16_36, x16_37, x16_38, x16_39, x16_42, x16_43, x16_44, x16_47, x16_48, x16_49, x16_50, c8, hs, ht, xb_t, i32_10, gf_9_0 hb, gl_10 w1, ho, gs_10 w1 hu, w5, slot_x hs, slot_x ht, cl_tn, gf_9_1 b1, gl_11 b2, gs_11 b2, gsR2, gsR3, w6, gf_9_2 b3, gl_12 b4, gs_12 b4, gsI2, w7, e3, Option.bind_some, Option.toList_some, Option.toList_none, List.cons_append, List.nil_append, Option.isSome_some, if_true, eq_self, or_true, true_or, xb_01, mcl_cl, not_true_eq_false, not_false_eq_true, if_false]
  rfl
theorem l17 (hw : gW G) (hb : G.1 b = 9) : ∀ d s m, s + d = 10 → X g 17 4 [.val (va_rf (some b)), .val (va_rf o), .val (.int (nI m)), .val (.int (nI s))] [] (gH n kc ks G) = some (some (.int (nI (m + mCnt (fun q => decide (G.2.2.2.2 (b + 1) q = o)) s d))), gH n kc ks G) := by
  obtain ⟨w1, w2, w3, w4, w5, w6, w7, w8, _⟩ := gW9 hw hb
  have n10 : nI 10 = (10 : Int32) := rfl
  intro d
  induction d with
  | zero =>
    intro s m hs
    have e : s = 10 := by omega
    subst e
    have h1 : (10 : Int32) ≤ nI 10 := by decide
    simp only [x17_4, x17_5, x17_6, x17_9, x17_10, x17_13, x17_14, x17_17, x17_18, x17_19, x17_20, x17_32, x17_33, gf_9_0 hb, gN_10 w1, w5, n10, h1, mCnt, Nat.add_zero, Option.bind_some, Option.toList_some, Option.toList_none, List.cons_append, List.nil_append, Option.isSome_some, if_true, eq_self, or_true, true_or, xb_01, mcl_cl, not_true_eq_false, not_false_eq_true, if_false]
    rfl
  | succ d ih =>
    intro s m hs
    have h1 : ¬ (10 : Int32) ≤ nI s := nI_ge (b := 10) (by omega) (by decide)
    have h0 : s < 10 := by omega
    rw [mCnt]
    by_cases e : G.2.2.2.2 (b + 1) s = o
    · have h3 := ih (s + 1) (m + 1) (by omega)
      simp only [x17_4, x17_5, x17_6, x17_9, x17_10, x17_13, x17_14, x17_17, x17_18, x17_19, x17_20, gf_9_0 hb, gN_10 w1, gl_10 w1, w5, n10, h1, xin_nI h0 (by decide), nI_clamp (lt31 h0 (by decide)), e, Option.bind_some, Option.toList_some, Option.toList_none, List.cons_append, List.nil_append, Option.isSome_some, if_true, eq_self, or_true, true_or, xb_01, mcl_cl, not_true_eq_false, not_false_eq_true, if_false]
      simp only [x17_23, x17_26, x17_29, nI_1]
      rw [h3]
      simp [e, Nat.add_assoc]
    · have h3 := ih (s + 1) m (by omega)
      simp only [x17_4, x17_5, x17_6, x17_9, x17_10, x17_13, x17_14, x17_17, x17_18, x17_19, x17_20, gf_9_0 hb, gN_10 w1, gl_10 w1, w5, n10, h1, xin_nI h0 (by decide), nI_clamp (lt31 h0 (by decide)), e, Option.bind_some, Option.toList_some, Option.toList_none, List.cons_append, List.nil_append, Option.isSome_some, if_true, eq_self, or_true, true_or, xb_01, mcl_cl, not_true_eq_false, not_false_eq_true, if_false]
      simp only [x17_26, x17_29, nI_1]
      rw [h3]
      simp [e]
theorem c17 (hw : gW G) (hb : G.1 b = 9) : X g 17 0 [.val (va_rf (some b)), .val (va_rf o), .unset, .unset] [] (gH n kc ks G) = some (some (.int (nI (mCnt (fun q => decide (G.2.2.2.2 (b + 1) q = o)) 0 10))), gH n kc ks G) := by
  have h1 := l17 (g := g) (n := n) (kc := kc) (ks := ks) (o := o) hw hb 10 0 0 (by omega)
  rw [Nat.zero_add] at h1
  have h1' : X g 17 4 [.val (va_rf (some b)), .val (va_rf o), .val (.int 0), .val (.int 0)] [] (gH n kc ks G) = _ := h1
  simp only [x17_0, x17_1, x17_2, x17_3, h1', Option.bind_some, Option.toList_some, Option.toList_none, List.cons_append, List.nil_append, Option.isSome_some, if_true, eq_self, or_true, true_or, xb_01, mcl_cl, not_true_eq_false, not_false_eq_true, if_false]
/-- the first slot that holds the very row -/
def bFh (G : GS) (b s : Nat) : Nat := mUnl (fun q => !decide (G.2.2.2.2 (b + 1) q = G.2.2.2.2 (b + 1) s)) 0 s
theorem l18 (hw : gW G) (hb : G.1 b = 9) (hs : s < 10) : ∀ d q, q + d = s → X g 18 8 [.val (va_rf (some b)), .val (.int (nI s)), .val (va_rf o), .val (.int (nI q))] [] (gH n kc ks G) = some (some (.int (nI (mUnl (fun q => !decide (G.2.2.2.2 (b + 1) q = o)) q d))), gH n kc ks G) := by
  obtain ⟨w1, w2, w3, w4, w5, w6, w7, w8, _⟩ := gW9 hw hb
  have n10 : nI 10 = (10 : Int32) := rfl
  intro d
  induction d with
  | zero =>
    intro q hq
    have h1 : nI s ≤ nI q := nI_le (by omega) (by omega)
    have e : q = s := by omega
    simp only [x18_8, x18_9, x18_10, x18_13, x18_14, x18_15, x18_18, x18_19, x18_22, x18_23, x18_26, x18_27, x18_28, x18_29, x18_32, x18_33, x18_40, x18_41, h1, mUnl, Option.bind_some, Option.toList_some, Option.toList_none, List.cons_append, List.nil_append, Option.isSome_some, if_true, eq_self, or_true, true_or, xb_01, mcl_cl, not_true_eq_false, not_false_eq_true, if_false]
    rw [e]
  | succ d ih =>
    intro q hq
    have h1 : ¬ nI s ≤ nI q := nI_ge (by omega) (by omega)
    have h2 : ¬ (10 : Int32) ≤ nI q := nI_ge (b := 10) (by omega) (by decide)
    have h0 : q < 10 := by omega
    rw [mUnl]
    by_cases e : G.2.2.2.2 (b + 1) q = o
    · rw [if_neg (by simp [e])]
      simp only [x18_8, x18_9, x18_10, x18_13, x18_14, x18_15, x18_18, x18_19, x18_22, x18_23, x18_26, x18_27, x18_28, x18_29, x18_32, x18_33, gf_9_0 hb, gN_10 w1, gl_10 w1, w5, n10, h1, h2, xin_nI h0 (by decide), nI_clamp (lt31 h0 (by decide)), e, Option.bind_some, Option.toList_some, Option.toList_none, List.cons_append, List.nil_append, Option.isSome_some, if_true, eq_self, or_true, true_or, xb_01, mcl_cl, not_true_eq_false, not_false_eq_true, if_false]
    · rw [if_pos (by simp [e])]
      have h3 := ih (q + 1) (by omega)
      simp only [x18_8, x18_9, x18_10, x18_13, x18_14, x18_15, x18_18, x18_19, x18_22, x18_23, x18_26, x18_27, x18_28, x18_29, x18_32, x18_33, gf_9_0 hb, gN_10 w1, gl_10 w1, w5, n10, h1, h2, xin_nI h0 (by decide), nI_clamp (lt31 h0 (by decide)), e, Option.bind_some, Option.toList_some, Option.toList_none, List.cons_append, List.nil_append, Option.isSome_some, if_true, eq_self, or_true, true_or, xb_01, mcl_cl, not_true_eq_false, not_false_eq_true, if_false]
      simp only [x18_34, x18_37, nI_1]
      exact h3
theorem c18 (hw : gW G) (hb : G.1 b = 9) (hs : s < 10) : X g 18 0 [.val (va_rf (some b)), .val (.int (nI s)), .unset, .unset] [] (gH n kc ks G) = some (some (.int (nI (bFh G b s))), gH n kc ks G) := by
  have h1 := l18 (g := g) (n := n) (kc := kc) (ks := ks) (o := G.2.2.2.2 (b + 1) s) hw hb hs s 0 (by omega)
  have h1' : X g 18 8 [.val (va_rf (some b)), .val (.int (nI s)), .val (va_rf (G.2.2.2.2 (b + 1) s)), .val (.int 0)] [] (gH n kc ks G) = _ := h1
  have hr : bRow G b (nI s) = G.2.2.2.2 (b + 1) s := by
    unfold bRow
    have e : mSlot (nI s) = true := by
      refine mWithin_iff.mpr ?_
      rw [nI_toInt (by omega)]
      omega
    rw [if_pos e, tn_nI (by omega)]
  have h9 := c9 (g := g) (n := n) (kc := kc) (ks := ks) (i := nI s) hw hb
  rw [hr] at h9
  simp only [x18_0, x18_1, x18_2, x18_5, x18_6, x18_7, gc_9 hb, h9, h1', Option.bind_some, Option.toList_some, Option.toList_none, List.cons_append, List.nil_append, Option.isSome_some, if_true, eq_self, or_true, true_or, xb_01, mcl_cl, not_true_eq_false, not_false_eq_true, if_false]
  rfl
/-- a slot's row, unless an earlier slot holds it too -/
def bFst (G : GS) (b s : Nat) : Option Nat := if bFh G b s = s then G.2.2.2.2 (b + 1) s else none
theorem bFh_le : bFh G b s ≤ s := by
  have := mUnl_le (f := fun q => !decide (G.2.2.2.2 (b + 1) q = G.2.2.2.2 (b + 1) s)) s 0
  unfold bFh
  omega
theorem c19 (hw : gW G) (hb : G.1 b = 9) (hs : s < 10) : X g 19 0 [.val (va_rf (some b)), .val (.int (nI s))] [] (gH n kc ks G) = some (some (va_rf (bFst G b s)), gH n kc ks G) := by
  have hr : bRow G b (nI s) = G.2.2.2.2 (b + 1) s := by
    unfold bRow
    have e : mSlot (nI s) = true := by
      refine mWithin_iff.mpr ?_
      rw [nI_toInt (by omega)]
      omega
    rw [if_pos e, tn_nI (by omega)]
  have h9 := c9 (g := g) (n := n) (kc := kc) (ks := ks) (i := nI s) hw hb
  rw [hr] at h9
  have hle := bFh_le (G := G) (b := b) (s := s)
  unfold bFst
  by_cases e : bFh G b s = s
  · rw [if_pos e]
    simp only [x19_0, x19_1, x19_2, x19_5, x19_6, x19_9, x19_10, x19_11, x19_14, x19_17, x19_18, gc_9 hb, c18 hw hb hs, e, h9, Option.bind_some, Option.toList_some, Option.toList_none, List.cons_append, List.nil_append, Option.isSome_some, if_true, eq_self, or_true, true_or, xb_01, mcl_cl, not_true_eq_false, not_false_eq_true, if_false]
  · rw [if_neg e]
    have e' : ¬ nI (bFh G b s) = nI s := fun z => e ((nI_eq (by omega) (by omega)).mp z)
    simp only [x19_0, x19_1, x19_2, x19_5, x19_6, x19_9, x19_10, x19_11, x19_14, x19_17, x19_18, gc_9 hb, c18 hw hb hs, e', Option.bind_some, Option.toList_some, Option.toList_none, List.cons_append, List.nil_append, Option.isSome_some, if_true, eq_self, or_true, true_or, xb_01, mcl_cl, not_true_eq_false, not_false_eq_true, if_false]
theorem l20 (hw : gW G) (hb : G.1 b = 9) : ∀ d s m, s + d = 10 → X g 20 4 [.val (va_rf (some b)), .val (.int (nI m)), .val (.int (nI s))] [] (gH n kc ks G) = some (some (.int (nI (m + mCnt (fun q => !decide (G.2.2.2.2 (b + 1) q = none)) s d))), gH n kc ks G) := by
  obtain ⟨w1, w2, w3, w4, w5, w6, w7, w8, _⟩ := gW9 hw hb
  have n10 : nI 10 = (10 : Int32) := rfl
  intro d
  induction d with
  | zero =>
    intro s m hs
    have e : s = 10 := by omega
    subst e
    have h1 : (10 : Int32) ≤ nI 10 := by decide
    simp only [x20_4, x20_5, x20_6, x20_9, x20_10, x20_13, x20_14, x20_17, x20_18, x20_19, x20_31, x20_32, gf_9_0 hb, gN_10 w1, w5, n10, h1, mCnt, Nat.add_zero, Option.bind_some, Option.toList_some, Option.toList_none, List.cons_append, List.nil_append, Option.isSome_some, if_true, eq_self, or_true, true_or, xb_01, mcl_cl, not_true_eq_false, not_false_eq_true, if_false]
    rfl
  | succ d ih =>
    intro s m hs
    have h1 : ¬ (10 : Int32) ≤ nI s := nI_ge (b := 10) (by omega) (by decide)
    have h0 : s < 10 := by omega
    rw [mCnt]
    by_cases e : G.2.2.2.2 (b + 1) s = none
    · have h3 := ih (s + 1) m (by omega)
      simp only [x20_4, x20_5, x20_6, x20_9, x20_10, x20_13, x20_14, x20_17, x20_18, x20_19, gf_9_0 hb, gN_10 w1, gl_10 w1, w5, n10, h1, xin_nI h0 (by decide), nI_clamp (lt31 h0 (by decide)), e, Option.bind_some, Option.toList_some, Option.toList_none, List.cons_append, List.nil_append, Option.isSome_some, if_true, eq_self, or_true, true_or, xb_01, mcl_cl, not_true_eq_false, not_false_eq_true, if_false]
      simp only [x20_25, x20_28, nI_1]
      rw [h3]
      simp [e]
    · have h3 := ih (s + 1) (m + 1) (by omega)
      simp only [x20_4, x20_5, x20_6, x20_9, x20_10, x20_13, x20_14, x20_17, x20_18, x20_19, gf_9_0 hb, gN_10 w1, gl_10 w1, w5, n10, h1, xin_nI h0 (by decide), nI_clamp (lt31 h0 (by decide)), e, Option.bind_some, Option.toList_some, Option.toList_none, List.cons_append, List.nil_append, Option.isSome_some, if_true, eq_self, or_true, true_or, xb_01, mcl_cl, not_true_eq_false, not_false_eq_true, if_false]
      simp only [x20_22, x20_25, x20_28, nI_1]
      rw [h3]
      simp [e, Nat.add_assoc]
theorem c20 (hw : gW G) (hb : G.1 b = 9) : X g 20 0 [.val (va_rf (some b)), .unset, .unset] [] (gH n kc ks G) = some (some (.int (nI (mCnt (fun q => !decide (G.2.2.2.2 (b + 1) q = none)) 0 10))), gH n kc ks G) := by
  have h1 := l20 (g := g) (n := n) (kc := kc) (ks := ks) hw hb 10 0 0 (by omega)
  rw [Nat.zero_add] at h1
  have h1' : X g 20 4 [.val (va_rf (some b)), .val (.int 0), .val (.int 0)] [] (gH n kc ks G) = _ := h1
  simp only [x20_0, x20_1, x20_2, x20_3, h1', Option.bind_some, Option.toList_some, Option.toList_none, List.cons_append, List.nil_append, Option.isSome_some, if_true, eq_self, or_true, true_or, xb_01, mcl_cl, not_true_eq_false, not_false_eq_true, if_false]
theorem l21 (hw : gW G) (hb : G.1 b = 9) : ∀ d s m, s + d = 10 → X g 21 4 [.val (va_rf (some b)), .val (.int (nI m)), .val (.int (nI s))] [] (gH n kc ks G) = some (some (.int (nI (m + mCnt (fun q => decide (G.2.2.1 (b + 2) q = 10) || decide (G.2.2.1 (b + 2) q = 11)) s d))), gH n kc ks G) := by
  obtain ⟨w1, w2, w3, w4, w5, w6, w7, w8, _⟩ := gW9 hw hb
  have n10 : nI 10 = (10 : Int32) := rfl
  intro d
  induction d with
  | zero =>
    intro s m hs
    have e : s = 10 := by omega
    subst e
    have h1 : (10 : Int32) ≤ nI 10 := by decide
    simp only [x21_4, x21_5, x21_6, x21_9, x21_10, x21_13, x21_14, x21_17, x21_18, x21_19, x21_21, x21_24, x21_25, x21_28, x21_29, x21_30, x21_32, x21_44, x21_45, gf_9_1 hb, gN_11 w2, w6, n10, h1, mCnt, Nat.add_zero, Option.bind_some, Option.toList_some, Option.toList_none, List.cons_append, List.nil_append, Option.isSome_some, if_true, eq_self, or_true, true_or, xb_01, mcl_cl, not_true_eq_false, not_false_eq_true, if_false]
    rfl
  | succ d ih =>
    intro s m hs
    have h1 : ¬ (10 : Int32) ≤ nI s := nI_ge (b := 10) (by omega) (by decide)
    have h0 : s < 10 := by omega
    rw [mCnt]
    by_cases e : G.2.2.1 (b + 2) s = 10
    · have h3 := ih (s + 1) (m + 1) (by omega)
      simp only [x21_4, x21_5, x21_6, x21_9, x21_10, x21_13, x21_14, x21_17, x21_18, x21_19, x21_21, x21_24, x21_25, x21_28, x21_29, x21_30, x21_32, gf_9_1 hb, gN_11 w2, gl_11 w2, w6, n10, h1, xin_nI h0 (by decide), nI_clamp (lt31 h0 (by decide)), e, Option.bind_some, Option.toList_some, Option.toList_none, List.cons_append, List.nil_append, Option.isSome_some, if_true, eq_self, or_true, true_or, xb_01, mcl_cl, not_true_eq_false, not_false_eq_true, if_false]
      simp only [x21_35, x21_38, x21_41, nI_1]
      rw [h3]
      simp [e, Nat.add_assoc]
    · by_cases e2 : G.2.2.1 (b + 2) s = 11
      · have h3 := ih (s + 1) (m + 1) (by omega)
        have z : ¬ (11 : Int32) = 10 := by decide
        simp only [x21_4, x21_5, x21_6, x21_9, x21_10, x21_13, x21_14, x21_17, x21_18, x21_19, x21_21, x21_24, x21_25, x21_28, x21_29, x21_30, x21_32, gf_9_1 hb, gN_11 w2, gl_11 w2, w6, n10, h1, xin_nI h0 (by decide), nI_clamp (lt31 h0 (by decide)), e2, z, Option.bind_some, Option.toList_some, Option.toList_none, List.cons_append, List.nil_append, Option.isSome_some, if_true, eq_self, or_true, true_or, xb_01, mcl_cl, not_true_eq_false, not_false_eq_true, if_false]
        simp only [x21_35, x21_38, x21_41, nI_1]
        rw [h3]
        simp [e2, Nat.add_assoc]
      · have h3 := ih (s + 1) m (by omega)
        simp only [x21_4, x21_5, x21_6, x21_9, x21_10, x21_13, x21_14, x21_17, x21_18, x21_19, x21_21, x21_24, x21_25, x21_28, x21_29, x21_30, x21_32, gf_9_1 hb, gN_11 w2, gl_11 w2, w6, n10, h1, xin_nI h0 (by decide), nI_clamp (lt31 h0 (by decide)), e, e2, Option.bind_some, Option.toList_some, Option.toList_none, List.cons_append, List.nil_append, Option.isSome_some, if_true, eq_self, or_true, true_or, xb_01, mcl_cl, not_true_eq_false, not_false_eq_true, if_false]
        simp only [x21_38, x21_41, nI_1]
        rw [h3]
        simp [e, e2]
theorem c21 (hw : gW G) (hb : G.1 b = 9) : X g 21 0 [.val (va_rf (some b)), .unset, .unset] [] (gH n kc ks G) = some (some (.int (nI (mCnt (fun q => decide (G.2.2.1 (b + 2) q = 10) || decide (G.2.2.1 (b + 2) q = 11)) 0 10))), gH n kc ks G) := by
  have h1 := l21 (g := g) (n := n) (kc := kc) (ks := ks) hw hb 10 0 0 (by omega)
  rw [Nat.zero_add] at h1
  have h1' : X g 21 4 [.val (va_rf (some b)), .val (.int 0), .val (.int 0)] [] (gH n kc ks G) = _ := h1
  simp only [x21_0, x21_1, x21_2, x21_3, h1', Option.bind_some, Option.toList_some, Option.toList_none, List.cons_append, List.nil_append, Option.isSome_some, if_true, eq_self, or_true, true_or, xb_01, mcl_cl, not_true_eq_false, not_false_eq_true, if_false]
theorem l22 (hw : gW G) (hb : G.1 b = 9) : ∀ d s m, s + d = 10 → X g 22 4 [.val (va_rf (some b)), .val (.int (nI m)), .val (.int (nI s))] [] (gH n kc ks G) = some (some (.int (nI (m + mCnt (fun q => !decide (bFst G b q = none)) s d))), gH n kc ks G) := by
  obtain ⟨w1, w2, w3, w4, w5, w6, w7, w8, _⟩ := gW9 hw hb
  have n10 : nI 10 = (10 : Int32) := rfl
  intro d
  induction d with
  | zero =>
    intro s m hs
    have e : s = 10 := by omega
    subst e
    have h1 : (10 : Int32) ≤ nI 10 := by decide
    simp only [x22_4, x22_5, x22_6, x22_9, x22_10, x22_13, x22_14, x22_15, x22_18, x22_30, x22_31, gf_9_0 hb, gN_10 w1, w5, n10, h1, mCnt, Nat.add_zero, Option.bind_some, Option.toList_some, Option.toList_none, List.cons_append, List.nil_append, Option.isSome_some, if_true, eq_self, or_true, true_or, xb_01, mcl_cl, not_true_eq_false, not_false_eq_true, if_false]
    rfl
  | succ d ih =>
    intro s m hs
    have h1 : ¬ (10 : Int32) ≤ nI s := nI_ge (b := 10) (by omega) (by decide)
    have h0 : s < 10 := by omega
    rw [mCnt]
    by_cases e : bFst G b s = none
    · have h3 := ih (s + 1) m (by omega)
      simp only [x22_4, x22_5, x22_6, x22_9, x22_10, x22_13, x22_14, x22_15, x22_18, gf_9_0 hb, gN_10 w1, gc_9 hb, c19 hw hb h0, w5, n10, h1, e, Option.bind_some, Option.toList_some, Option.toList_none, List.cons_append, List.nil_append, Option.isSome_some, if_true, eq_self, or_true, true_or, xb_01, mcl_cl, not_true_eq_false, not_false_eq_true, if_false]
      simp only [x22_24, x22_27, nI_1]
      rw [h3]
      simp [e]
    · have h3 := ih (s + 1) (m + 1) (by omega)
      simp only [x22_4, x22_5, x22_6, x22_9, x22_10, x22_13, x22_14, x22_15, x22_18, gf_9_0 hb, gN_10 w1, gc_9 hb, c19 hw hb h0, w5, n10, h1, e, Option.bind_some, Option.toList_some, Option.toList_none, List.cons_append, List.nil_append, Option.isSome_some, if_true, eq_self, or_true, true_or, xb_01, mcl_cl, not_true_eq_false, not_false_eq_true, if_false]
      simp only [x22_21, x22_24, x22_27, nI_1]
      rw [h3]
      simp [e, Nat.add_assoc]
theorem c22 (hw : gW G) (hb : G.1 b = 9) : X g 22 0 [.val (va_rf (some b)), .unset, .unset] [] (gH n kc ks G) = some (some (.int (nI (mCnt (fun q => !decide (bFst G b q = none)) 0 10))), gH n kc ks G) := by
  have h1 := l22 (g := g) (n := n) (kc := kc) (ks := ks) hw hb 10 0 0 (by omega)
  rw [Nat.zero_add] at h1
  have h1' : X g 22 4 [.val (va_rf (some b)), .val (.int 0), .val (.int 0)] [] (gH n kc ks G) = _ := h1
  simp only [x22_0, x22_1, x22_2, x22_3, h1', Option.bind_some, Option.toList_some, Option.toList_none, List.cons_append, List.nil_append, Option.isSome_some, if_true, eq_self, or_true, true_or, xb_01, mcl_cl, not_true_eq_false, not_false_eq_true, if_false]
/-- cells of the row that a slot holds first -/
def bCs (G : GS) (b q : Nat) : Int32 := match bFst G b q with
  | none => 0
  | some a => nI (G.2.1 (a + 2))
def bTs (G : GS) (b q : Nat) : Int32 := match bFst G b q with
  | none => 0
  | some a => nI (mCnt (fun q => !decide (G.2.2.1 (a + 3) q = 0)) 0 (G.2.1 (a + 2)))
theorem l23 (hw : gW G) (hb : G.1 b = 9) (hr : ∀ s x, s < 10 → bFst G b s = some x → G.1 x = 1) : ∀ d s m (s3 : Slot), s + d = 10 → X g 23 4 [.val (va_rf (some b)), .val (.int m), .val (.int (nI s)), s3] [] (gH n kc ks G) = some (some (.int (mAdd (bCs G b) s d m)), gH n kc ks G) := by
  obtain ⟨w1, w2, w3, w4, w5, w6, w7, w8, _⟩ := gW9 hw hb
  have n10 : nI 10 = (10 : Int32) := rfl
  intro d
  induction d with
  | zero =>
    intro s m s3 hs
    have e : s = 10 := by omega
    subst e
    have h1 : (10 : Int32) ≤ nI 10 := by decide
    simp only [x23_4, x23_5, x23_6, x23_9, x23_10, x23_13, x23_14, x23_15, x23_18, x23_19, x23_20, x23_23, x23_24, x23_25, x23_28, x23_29, x23_36, x23_37, gf_9_0 hb, gN_10 w1, w5, n10, h1, mAdd, Option.bind_some, Option.toList_some, Option.toList_none, List.cons_append, List.nil_append, Option.isSome_some, if_true, eq_self, or_true, true_or, xb_01, mcl_cl, not_true_eq_false, not_false_eq_true, if_false]
    rfl
  | succ d ih =>
    intro s m s3 hs
    have h1 : ¬ (10 : Int32) ≤ nI s := nI_ge (b := 10) (by omega) (by decide)
    have h0 : s < 10 := by omega
    rw [mAdd]
    unfold bCs
    cases e : bFst G b s with
    | none =>
      have h3 := ih (s + 1) (m + 0) (.val (va_rf none)) (by omega)
      simp only [x23_4, x23_5, x23_6, x23_9, x23_10, x23_13, x23_14, x23_15, x23_18, x23_19, x23_20, x23_23, x23_24, x23_25, x23_28, x23_29, gf_9_0 hb, gN_10 w1, gc_9 hb, c19 hw hb h0, w5, n10, h1, e, Option.bind_some, Option.toList_some, Option.toList_none, List.cons_append, List.nil_append, Option.isSome_some, if_true, eq_self, or_true, true_or, xb_01, mcl_cl, not_true_eq_false, not_false_eq_true, if_false]
      simp only [x23_30, x23_33, nI_1]
      rw [Int32.add_zero] at h3 ⊢
      exact h3
    | some x =>
      have hx := hr s x h0 e
      have hne : ¬ (some x : Option Nat) = none := by simp
      have h3 := ih (s + 1) (m + nI (G.2.1 (x + 2))) (.val (va_rf (some x))) (by omega)
      simp only [x23_4, x23_5, x23_6, x23_9, x23_10, x23_13, x23_14, x23_15, x23_18, x23_19, x23_20, x23_23, x23_24, x23_25, x23_28, x23_29, gf_9_0 hb, gN_10 w1, gc_9 hb, c19 hw hb h0, w5, n10, h1, e, hne, gc_1 hx, c65 hw hx, Option.bind_some, Option.toList_some, Option.toList_none, List.cons_append, List.nil_append, Option.isSome_some, if_true, eq_self, or_true, true_or, xb_01, mcl_cl, not_true_eq_false, not_false_eq_true, if_false]
      simp only [x23_30, x23_33, nI_1]
      exact h3
theorem c23 (hw : gW G) (hb : G.1 b = 9) (hr : ∀ s x, s < 10 → bFst G b s = some x → G.1 x = 1) : X g 23 0 [.val (va_rf (some b)), .unset, .unset, .unset] [] (gH n kc ks G) = some (some (.int (mAdd (bCs G b) 0 10 0)), gH n kc ks G) := by
  have h1 := l23 (g := g) (n := n) (kc := kc) (ks := ks) hw hb hr 10 0 0 .unset (by omega)
  have h1' : X g 23 4 [.val (va_rf (some b)), .val (.int 0), .val (.int 0), .unset] [] (gH n kc ks G) = _ := h1
  simp only [x23_0, x23_1, x23_2, x23_3, h1', Option.bind_some, Option.toList_some, Option.toList_none, List.cons_append, List.nil_append, Option.isSome_some, if_true, eq_self, or_true, true_or, xb_01, mcl_cl, not_true_eq_false, not_false_eq_true, if_false]
theorem l24 (hw : gW G) (hb : G.1 b = 9) (hr : ∀ s x, s < 10 → bFst G b s = some x → G.1 x = 1) : ∀ d s m (s3 : Slot), s + d = 10 → X g 24 4 [.val (va_rf (some b)), .val (.int m), .val (.int (nI s)), s3] [] (gH n kc ks G) = some (some (.int (mAdd (bTs G b) s d m)), gH n kc ks G) := by
  obtain ⟨w1, w2, w3, w4, w5, w6, w7, w8, _⟩ := gW9 hw hb
  have n10 : nI 10 = (10 : Int32) := rfl
  intro d
  induction d with
  | zero =>
    intro s m s3 hs
    have e : s = 10 := by omega
    subst e
    have h1 : (10 : Int32) ≤ nI 10 := by decide
    simp only [x24_4, x24_5, x24_6, x24_9, x24_10, x24_13, x24_14, x24_15, x24_18, x24_19, x24_20, x24_23, x24_24, x24_25, x24_28, x24_29, x24_36, x24_37, gf_9_0 hb, gN_10 w1, w5, n10, h1, mAdd, Option.bind_some, Option.toList_some, Option.toList_none, List.cons_append, List.nil_append, Option.isSome_some, if_true, eq_self, or_true, true_or, xb_01, mcl_cl, not_true_eq_false, not_false_eq_true, if_false]
    rfl
  | succ d ih =>
    intro s m s3 hs
    have h1 : ¬ (10 : Int32) ≤ nI s := nI_ge (b := 10) (by omega) (by decide)
    have h0 : s < 10 := by omega
    rw [mAdd]
    unfold bTs
    cases e : bFst G b s with
    | none =>
      have h3 := ih (s + 1) (m + 0) (.val (va_rf none)) (by omega)
      simp only [x24_4, x24_5, x24_6, x24_9, x24_10, x24_13, x24_14, x24_15, x24_18, x24_19, x24_20, x24_23, x24_24, x24_25, x24_28, x24_29, gf_9_0 hb, gN_10 w1, gc_9 hb, c19 hw hb h0, w5, n10, h1, e, Option.bind_some, Option.toList_some, Option.toList_none, List.cons_append, List.nil_append, Option.isSome_some, if_true, eq_self, or_true, true_or, xb_01, mcl_cl, not_true_eq_false, not_false_eq_true, if_false]
      simp only [x24_30, x24_33, nI_1]
      rw [Int32.add_zero] at h3 ⊢
      exact h3
    | some x =>
      have hx := hr s x h0 e
      have hne : ¬ (some x : Option Nat) = none := by simp
      have h3 := ih (s + 1) (m + nI (mCnt (fun q => !decide (G.2.2.1 (x + 3) q = 0)) 0 (G.2.1 (x + 2)))) (.val (va_rf (some x))) (by omega)
      simp only [x24_4, x24_5, x24_6, x24_9, x24_10, x24_13, x24_14, x24_15, x24_18, x24_19, x24_20, x24_23, x24_24, x24_25, x24_28, x24_29, gf_9_0 hb, gN_10 w1, gc_9 hb, c19 hw hb h0, w5, n10, h1, e, hne, gc_1 hx, c71 hw hx, Option.bind_some, Option.toList_some, Option.toList_none, List.cons_append, List.nil_append, Option.isSome_some, if_true, eq_self, or_true, true_or, xb_01, mcl_cl, not_true_eq_false, not_false_eq_true, if_false]
      simp only [x24_30, x24_33, nI_1]
      exact h3
theorem c24 (hw : gW G) (hb : G.1 b = 9) (hr : ∀ s x, s < 10 → bFst G b s = some x → G.1 x = 1) : X g 24 0 [.val (va_rf (some b)), .unset, .unset, .unset] [] (gH n kc ks G) = some (some (.int (mAdd (bTs G b) 0 10 0)), gH n kc ks G) := by
  have h1 := l24 (g := g) (n := n) (kc := kc) (ks := ks) hw hb hr 10 0 0 .unset (by omega)
  have h1' : X g 24 4 [.val (va_rf (some b)), .val (.int 0), .val (.int 0), .unset] [] (gH n kc ks G) = _ := h1
  simp only [x24_0, x24_1, x24_2, x24_3, h1', Option.bind_some, Option.toList_some, Option.toList_none, List.cons_append, List.nil_append, Option.isSome_some, if_true, eq_self, or_true, true_or, xb_01, mcl_cl, not_true_eq_false, not_false_eq_true, if_false]
end K8
