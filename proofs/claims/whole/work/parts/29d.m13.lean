/-! THE REFERENCE's methods, 12: the journal -/
/-- an act moved, its first k puts -/
def mMv (S : MS) (f t k : Nat) : MS := (S.1, S.2.1, fun q i => if q = 22 ∧ i = t then S.2.2.1 22 f else if (q = 17 ∨ q = 18 ∨ q = 20) ∧ 64 * t ≤ i ∧ i < 64 * t + k then S.2.2.1 q (64 * f + (i - 64 * t)) else S.2.2.1 q i, fun q i => if (q = 19 ∨ q = 21) ∧ 64 * t ≤ i ∧ i < 64 * t + k then S.2.2.2 q (64 * f + (i - 64 * t)) else S.2.2.2 q i)
theorem nI_64 (w p : Nat) : (64 : Int32) * nI w + nI p = nI (64 * w + p) := by
  rw [show (64 : Int32) = nI 64 from rfl, pk_mul, nI_add]
section M13
variable {g : xG} {n kc ks mu s w q p r t f : Nat} {S : MS} {h : xH} {i j k m v x : Int32} {u : Int64} {a : Int32} {b : Int64}
theorem mMv_A (q : Nat) (hq : q = 17 ∨ q = 18 ∨ q = 20) {k : Nat} (hk : k < 64) : (mMv S f t k).2.2.1 q (64 * f + k) = S.2.2.1 q (64 * f + k) := by
  show (if q = 22 ∧ 64 * f + k = t then S.2.2.1 22 f else if (q = 17 ∨ q = 18 ∨ q = 20) ∧ 64 * t ≤ 64 * f + k ∧ 64 * f + k < 64 * t + k then S.2.2.1 q (64 * f + (64 * f + k - 64 * t)) else S.2.2.1 q (64 * f + k)) = _
  rw [if_neg (by omega), if_neg (by omega)]
theorem mMv_B (q : Nat) {k : Nat} (hk : k < 64) : (mMv S f t k).2.2.2 q (64 * f + k) = S.2.2.2 q (64 * f + k) := by
  show (if (q = 19 ∨ q = 21) ∧ 64 * t ≤ 64 * f + k ∧ 64 * f + k < 64 * t + k then S.2.2.2 q (64 * f + (64 * f + k - 64 * t)) else S.2.2.2 q (64 * f + k)) = _
  rw [if_neg (by omega)]
theorem mMv_step {k : Nat} (hk : k < 64) : msB (msA (msB (msA (msA (mMv S f t k) 17 (64 * t + k) (S.2.2.1 17 (64 * f + k))) 18 (64 * t + k) (S.2.2.1 18 (64 * f + k))) 19 (64 * t + k) (S.2.2.2 19 (64 * f + k))) 20 (64 * t + k) (S.2.2.1 20 (64 * f + k))) 21 (64 * t + k) (S.2.2.2 21 (64 * f + k)) = mMv S f t (k + 1) := by
  refine Prod.ext rfl (Prod.ext rfl (Prod.ext ?_ ?_))
  · funext q i
    simp only [mMv, msA, msB]
    by_cases e0 : q = 22 ∧ i = t
    · obtain ⟨e1, e2⟩ := e0
      subst e1
      subst e2
      simp
    · by_cases e1 : (q = 17 ∨ q = 18 ∨ q = 20) ∧ i = 64 * t + k
      · obtain ⟨e2, e3⟩ := e1
        subst e3
        have e4 : 64 * f + (64 * t + k - 64 * t) = 64 * f + k := by omega
        rw [e4]
        rcases e2 with rfl | rfl | rfl <;> simp
      · by_cases e2 : (q = 17 ∨ q = 18 ∨ q = 20) ∧ 64 * t ≤ i ∧ i < 64 * t + k
        · rw [if_neg (by omega), if_neg (by omega), if_neg (by omega), if_neg e0, if_pos e2, if_neg e0, if_pos (by omega)]
        · rw [if_neg (by omega), if_neg (by omega), if_neg (by omega), if_neg e0, if_neg e2, if_neg e0, if_neg (by omega)]
  · funext q i
    simp only [mMv, msA, msB]
    by_cases e1 : (q = 19 ∨ q = 21) ∧ i = 64 * t + k
    · obtain ⟨e2, e3⟩ := e1
      subst e3
      have e4 : 64 * f + (64 * t + k - 64 * t) = 64 * f + k := by omega
      rw [e4]
      rcases e2 with rfl | rfl <;> simp
    · by_cases e2 : (q = 19 ∨ q = 21) ∧ 64 * t ≤ i ∧ i < 64 * t + k
      · rw [if_neg (by omega), if_neg (by omega), if_pos e2, if_pos (by omega)]
      · rw [if_neg (by omega), if_neg (by omega), if_neg e2, if_neg (by omega)]
theorem l201 (hf : f < 24) (ht : t < 24) : ∀ d k (s4 s5 : Slot), k + d = 64 → X g 201 14 [.val (va_rf (some mu)), .val (.int (nI f)), .val (.int (nI t)), .val (.int (nI k)), s4, s5] [] (mH n kc ks mu (mMv S f t k)) = some (none, mH n kc ks mu (mMv S f t 64)) := by
  intro d
  induction d with
  | zero =>
    intro k s4 s5 hk
    have hk : k = 64 := by omega
    subst hk
    have h1 : (64 : Int32) ≤ nI 64 := by decide
    simp only [x201_0, x201_1, x201_4, x201_5, x201_6, x201_9, x201_10, x201_11, x201_12, x201_13, x201_14, x201_15, x201_17, x201_20, x201_22, x201_23, x201_24, x201_25, x201_26, x201_28, x201_30, x201_31, x201_32, x201_33, x201_34, x201_36, x201_37, x201_40, x201_42, x201_43, x201_46, x201_48, x201_49, x201_50, x201_51, x201_54, x201_56, x201_57, x201_60, x201_62, x201_63, x201_64, x201_65, x201_68, x201_70, x201_71, x201_74, x201_76, x201_77, x201_78, x201_79, x201_82, x201_84, x201_85, x201_88, x201_90, x201_91, x201_92, x201_93, x201_96, x201_98, x201_99, x201_102, x201_104, x201_105, x201_106, x201_112, h1, Option.bind_some, Option.toList_some, Option.toList_none, List.cons_append, List.nil_append, Option.isSome_some, if_true, eq_self, or_true, true_or, xb_01, mcl_cl, not_true_eq_false, not_false_eq_true, if_false]
  | succ d ih =>
    intro k s4 s5 hk
    have h1 : ¬ (64 : Int32) ≤ nI k := nI_ge (b := 64) (by omega) (by decide)
    have c1 : 64 * f + k < 1536 := by omega
    have c2 : 64 * t + k < 1536 := by omega
    have hk6 : k < 64 := by omega
    simp only [x201_0, x201_1, x201_4, x201_5, x201_6, x201_9, x201_10, x201_11, x201_12, x201_13, x201_14, x201_15, x201_17, x201_20, x201_22, x201_23, x201_24, x201_25, x201_26, x201_28, x201_30, x201_31, x201_32, x201_33, x201_34, x201_36, x201_37, x201_40, x201_42, x201_43, x201_46, x201_48, x201_49, x201_50, x201_51, x201_54, x201_56, x201_57, x201_60, x201_62, x201_63, x201_64, x201_65, x201_68, x201_70, x201_71, x201_74, x201_76, x201_77, x201_78, x201_79, x201_82, x201_84, x201_85, x201_88, x201_90, x201_91, x201_92, x201_93, x201_96, x201_98, x201_99, x201_102, x201_104, x201_105, x201_106, x201_112, h1, nI_64, mf_17, ml_17, ms_17, mf_18, ml_18, ms_18, mf_19, ml_19, ms_19, mf_20, ml_20, ms_20, mf_21, ml_21, ms_21, xin_nI c1 (by decide), nI_clamp (lt31 c1 (by decide)), xin_nI c2 (by decide), nI_clamp (lt31 c2 (by decide)), mMv_A 17 (Or.inl rfl) hk6, mMv_A 18 (Or.inr (Or.inl rfl)) hk6, mMv_A 20 (Or.inr (Or.inr rfl)) hk6, mMv_B 19 hk6, mMv_B 21 hk6, msA1, msA2, msA3, msA4, msB1, msB2, msB3, msB4, msI1, msI2, msI3, msI4, msL1, msL2, msL3, msL4, Nat.reduceEqDiff, false_and, true_and, and_false, and_true, and_self, Option.bind_some, Option.toList_some, Option.toList_none, List.cons_append, List.nil_append, Option.isSome_some, if_true, eq_self, or_true, true_or, xb_01, mcl_cl, not_true_eq_false, not_false_eq_true, if_false]
    simp only [x201_109, nI_1]
    rw [mMv_step hk6]
    exact ih (k + 1) _ _ (by omega)
theorem mMv_0 : msA S 22 t (S.2.2.1 22 f) = mMv S f t 0 := by
  refine Prod.ext rfl (Prod.ext rfl (Prod.ext ?_ ?_))
  · funext q i
    simp only [mMv, msA]
    by_cases e0 : q = 22 ∧ i = t
    · rw [if_pos e0, if_pos e0]
    · rw [if_neg e0, if_neg e0, if_neg (by omega)]
  · funext q i
    simp only [mMv, msA]
    rw [if_neg (by omega)]
theorem c201 (hf : f < 24) (ht : t < 24) : X g 201 0 [.val (va_rf (some mu)), .val (.int (nI f)), .val (.int (nI t)), .unset, .unset, .unset] [] (mH n kc ks mu S) = some (none, mH n kc ks mu (mMv S f t 64)) := by
  have h1 := l201 (g := g) (n := n) (kc := kc) (ks := ks) (mu := mu) (S := S) hf ht 64 0 .unset .unset rfl
  have h1' : X g 201 14 [.val (va_rf (some mu)), .val (.int (nI f)), .val (.int (nI t)), .val (.int 0), .unset, .unset] [] (mH n kc ks mu (mMv S f t 0)) = some (none, mH n kc ks mu (mMv S f t 64)) := h1
  simp only [x201_0, x201_1, x201_4, x201_5, x201_6, x201_9, x201_10, x201_11, x201_12, x201_13, mf_22, ml_22, ms_22, xin_nI hf (by decide), nI_clamp (lt31 hf (by decide)), xin_nI ht (by decide), nI_clamp (lt31 ht (by decide)), mMv_0, h1', Option.bind_some, Option.toList_some, Option.toList_none, List.cons_append, List.nil_append, Option.isSome_some, if_true, eq_self, or_true, true_or, xb_01, mcl_cl, not_true_eq_false, not_false_eq_true, if_false]
/-- act l of T is act a of S -/
def mAc (T S : MS) (l a : Nat) : Prop := T.2.2.1 22 l = S.2.2.1 22 a ∧ ∀ k, k < 64 → T.2.2.1 17 (64 * l + k) = S.2.2.1 17 (64 * a + k) ∧ T.2.2.1 18 (64 * l + k) = S.2.2.1 18 (64 * a + k) ∧ T.2.2.2 19 (64 * l + k) = S.2.2.2 19 (64 * a + k) ∧ T.2.2.1 20 (64 * l + k) = S.2.2.1 20 (64 * a + k) ∧ T.2.2.2 21 (64 * l + k) = S.2.2.2 21 (64 * a + k)
/-- but for the acts all is the same -/
def mSo (T S : MS) : Prop := T.2.1 = S.2.1 ∧ (∀ q, q ≠ 23 → q ≠ 24 → T.1 q = S.1 q) ∧ (∀ q i, q ≠ 17 → q ≠ 18 → q ≠ 20 → q ≠ 22 → T.2.2.1 q i = S.2.2.1 q i) ∧ (∀ q i, q ≠ 19 → q ≠ 21 → T.2.2.2 q i = S.2.2.2 q i)
theorem mAc_trans {T U : MS} {l y z : Nat} (h1 : mAc T U l y) (h2 : mAc U S y z) : mAc T S l z := by
  refine ⟨h1.1.trans h2.1, fun k hk => ?_⟩
  obtain ⟨a1, a2, a3, a4, a5⟩ := h1.2 k hk
  obtain ⟨b1, b2, b3, b4, b5⟩ := h2.2 k hk
  exact ⟨a1.trans b1, a2.trans b2, a3.trans b3, a4.trans b4, a5.trans b5⟩
theorem mSo_trans {T U : MS} (h1 : mSo T U) (h2 : mSo U S) : mSo T S := ⟨h1.1.trans h2.1, fun q a b => (h1.2.1 q a b).trans (h2.2.1 q a b), fun q i a b c d => (h1.2.2.1 q i a b c d).trans (h2.2.2.1 q i a b c d), fun q i a b => (h1.2.2.2 q i a b).trans (h2.2.2.2 q i a b)⟩
theorem mMv_to : mAc (mMv S f t 64) S t f := by
  refine ⟨if_pos ⟨rfl, rfl⟩, fun k hk => ?_⟩
  have e : 64 * f + (64 * t + k - 64 * t) = 64 * f + k := by omega
  refine ⟨?_, ?_, ?_, ?_, ?_⟩
  all_goals simp only [mMv]
  · rw [if_neg (by omega), if_pos ⟨by simp, by omega, by omega⟩, e]
  · rw [if_neg (by omega), if_pos ⟨by simp, by omega, by omega⟩, e]
  · rw [if_pos ⟨by simp, by omega, by omega⟩, e]
  · rw [if_neg (by omega), if_pos ⟨by simp, by omega, by omega⟩, e]
  · rw [if_pos ⟨by simp, by omega, by omega⟩, e]
theorem mMv_ne {l : Nat} (hl : l ≠ t) : mAc (mMv S f t 64) S l l := by
  refine ⟨if_neg (fun z => hl z.2) |>.trans (if_neg (by omega)), fun k hk => ?_⟩
  refine ⟨?_, ?_, ?_, ?_, ?_⟩
  all_goals simp only [mMv]
  · rw [if_neg (by omega), if_neg (by omega)]
  · rw [if_neg (by omega), if_neg (by omega)]
  · rw [if_neg (by omega)]
  · rw [if_neg (by omega), if_neg (by omega)]
  · rw [if_neg (by omega)]
theorem mMv_so : mSo (mMv S f t 64) S := by
  refine ⟨rfl, fun _ _ _ => rfl, fun q i a b c d => ?_, fun q i a b => ?_⟩
  · simp only [mMv]
    rw [if_neg (by omega), if_neg (by omega)]
  · simp only [mMv]
    rw [if_neg (by omega)]
/-- cells as they were, the last put first -/
def mDn (o : Nat → Nat) (e : Nat → Int32) (y : Nat → Int64) : Nat → MS → MS
  | 0, S => S
  | k + 1, S => mDn o e y k (msB (msA S 5 (o k) (e k)) 6 (o k) (y k))
/-- cells as they are, the first put first -/
def mUp (o : Nat → Nat) (e : Nat → Int32) (y : Nat → Int64) : Nat → Nat → MS → MS
  | _, 0, S => S
  | s, d + 1, S => mUp o e y (s + 1) d (msB (msA S 5 (o s) (e s)) 6 (o s) (y s))
theorem nI_dec (k : Nat) : nI (k + 1) + (-1) = nI k := pk_m1 k
theorem l203 {o : Nat → Nat} {e : Nat → Int32} {y : Nat → Int64} : ∀ k T, (∀ x, x < k → o x < 320 ∧ T.2.2.1 13 x = nI (o x) ∧ T.2.2.1 14 x = e x ∧ T.2.2.2 15 x = y x) → k ≤ 64 → X g 203 7 [.val (va_rf (some mu)), .val (.int (nI k - 1))] [] (mH n kc ks mu T) = some (none, mH n kc ks mu (msI (mDn o e y k T) 16 0)) := by
  intro k
  induction k with
  | zero =>
    intro T _ _
    have h1 : nI 0 - 1 < 0 := by decide
    simp only [x203_0, x203_1, x203_4, x203_5, x203_6, x203_7, x203_8, x203_11, x203_12, x203_15, x203_16, x203_19, x203_20, x203_21, x203_22, x203_25, x203_26, x203_27, x203_28, x203_29, x203_32, x203_33, x203_36, x203_37, x203_38, x203_39, x203_42, x203_43, x203_44, x203_45, x203_51, x203_52, x203_53, x203_56, h1, mp_16, mf_16, mDn, Option.bind_some, Option.toList_some, Option.toList_none, List.cons_append, List.nil_append, Option.isSome_some, if_true, eq_self, or_true, true_or, xb_01, mcl_cl, not_true_eq_false, not_false_eq_true, if_false]
  | succ k ih =>
    intro T hT hk
    obtain ⟨h1, h2, h3, h4⟩ := hT k (by omega)
    have h5 : ¬ nI (k + 1) - 1 < 0 := by
      rw [nI_pred]
      exact nI_pos (by omega)
    have h6 : k < 64 := by omega
    have hT' : ∀ x, x < k → o x < 320 ∧ (msB (msA T 5 (o k) (e k)) 6 (o k) (y k)).2.2.1 13 x = nI (o x) ∧ (msB (msA T 5 (o k) (e k)) 6 (o k) (y k)).2.2.1 14 x = e x ∧ (msB (msA T 5 (o k) (e k)) 6 (o k) (y k)).2.2.2 15 x = y x := by
      intro x hx
      obtain ⟨g1, g2, g3, g4⟩ := hT x (by omega)
      refine ⟨g1, ?_, ?_, ?_⟩
      · simpa [msA, msB] using g2
      · simpa [msA, msB] using g3
      · simpa [msA, msB] using g4
    have h7 := ih (msB (msA T 5 (o k) (e k)) 6 (o k) (y k)) hT' (by omega)
    have h8 : nI k + -1 = nI k - 1 := by
      rw [Int32.sub_eq_add_neg]
    rw [nI_pred] at h5 ⊢
    simp only [x203_0, x203_1, x203_4, x203_5, x203_6, x203_7, x203_8, x203_11, x203_12, x203_15, x203_16, x203_19, x203_20, x203_21, x203_22, x203_25, x203_26, x203_27, x203_28, x203_29, x203_32, x203_33, x203_36, x203_37, x203_38, x203_39, x203_42, x203_43, x203_44, x203_45, x203_51, x203_52, x203_53, x203_56, h5, mf_13, ml_13, mf_14, ml_14, mf_15, ml_15, mf_5, ms_5, mf_6, ms_6, h2, h3, h4, xin_nI h6 (by decide), nI_clamp (lt31 h6 (by decide)), xin_nI h1 (by decide), nI_clamp (lt31 h1 (by decide)), msA1, msA2, msA3, msA4, msB1, msB2, msB3, msB4, msI1, msI2, msI3, msI4, msL1, msL2, msL3, msL4, Nat.reduceEqDiff, false_and, true_and, and_false, and_true, and_self, Option.bind_some, Option.toList_some, Option.toList_none, List.cons_append, List.nil_append, Option.isSome_some, if_true, eq_self, or_true, true_or, xb_01, mcl_cl, not_true_eq_false, not_false_eq_true, if_false]
    simp only [x203_48, h8]
    exact h7
theorem c203 (hp : p ≤ 64) (e1 : S.1 16 = nI p) (hq : ∀ x, x < p → 0 ≤ (S.2.2.1 13 x).toInt ∧ (S.2.2.1 13 x).toInt < 320) : X g 203 0 [.val (va_rf (some mu)), .unset] [] (mH n kc ks mu S) = some (none, mH n kc ks mu (msI (mDn (fun x => tn (S.2.2.1 13 x)) (S.2.2.1 14) (S.2.2.2 15) p S) 16 0)) := by
  have h1 := l203 (g := g) (n := n) (kc := kc) (ks := ks) (mu := mu) (o := fun x => tn (S.2.2.1 13 x)) (e := S.2.2.1 14) (y := S.2.2.2 15) p S (fun x hx => ⟨by have := hq x hx; show tn _ < 320; unfold tn; omega, nI_tn (hq x hx).1, rfl, rfl⟩) hp
  simp only [x203_0, x203_1, x203_4, x203_5, x203_6, mf_16, e1, h1, Option.bind_some, Option.toList_some, Option.toList_none, List.cons_append, List.nil_append, Option.isSome_some, if_true, eq_self, or_true, true_or, xb_01, mcl_cl, not_true_eq_false, not_false_eq_true, if_false]
theorem l205 {o : Nat → Nat} {e : Nat → Int32} {y : Nat → Int64} {c : Nat} (hd : w < 24) : ∀ k T (s2 : Slot), (∀ x, x < k → o x < 320 ∧ T.2.2.1 17 (64 * w + x) = nI (o x) ∧ T.2.2.1 18 (64 * w + x) = e x ∧ T.2.2.2 19 (64 * w + x) = y x) → T.1 24 = nI w → T.2.2.1 22 w = nI c → k ≤ 64 → X g 205 32 [.val (va_rf (some mu)), .val (.int (nI k - 1)), s2] [] (mH n kc ks mu T) = some (some (.int (nI c)), mH n kc ks mu (mDn o e y k T)) := by
  intro k
  induction k with
  | zero =>
    intro T s2 _ hw hc _
    have h1 : nI 0 - 1 < 0 := by decide
    simp only [x205_0, x205_1, x205_4, x205_7, x205_9, x205_10, x205_11, x205_12, x205_15, x205_16, x205_17, x205_20, x205_21, x205_24, x205_25, x205_28, x205_29, x205_30, x205_31, x205_32, x205_33, x205_36, x205_38, x205_39, x205_42, x205_43, x205_44, x205_45, x205_46, x205_47, x205_50, x205_51, x205_54, x205_55, x205_56, x205_57, x205_60, x205_61, x205_62, x205_63, x205_64, x205_67, x205_68, x205_71, x205_72, x205_73, x205_74, x205_77, x205_78, x205_79, x205_80, x205_86, x205_87, x205_90, x205_91, x205_94, x205_95, h1, mf_22, mf_24, ml_22, hw, hc, xin_nI hd (by decide), nI_clamp (lt31 hd (by decide)), mDn, Option.bind_some, Option.toList_some, Option.toList_none, List.cons_append, List.nil_append, Option.isSome_some, if_true, eq_self, or_true, true_or, xb_01, mcl_cl, not_true_eq_false, not_false_eq_true, if_false]
  | succ k ih =>
    intro T s2 hT hw hc hk
    obtain ⟨h1, h2, h3, h4⟩ := hT k (by omega)
    have h5 : ¬ nI k < 0 := nI_pos (by omega)
    have h6 : 64 * w + k < 1536 := by omega
    have hT' : ∀ x, x < k → o x < 320 ∧ (msB (msA T 5 (o k) (e k)) 6 (o k) (y k)).2.2.1 17 (64 * w + x) = nI (o x) ∧ (msB (msA T 5 (o k) (e k)) 6 (o k) (y k)).2.2.1 18 (64 * w + x) = e x ∧ (msB (msA T 5 (o k) (e k)) 6 (o k) (y k)).2.2.2 19 (64 * w + x) = y x := by
      intro x hx
      obtain ⟨g1, g2, g3, g4⟩ := hT x (by omega)
      refine ⟨g1, ?_, ?_, ?_⟩
      · simpa [msA, msB] using g2
      · simpa [msA, msB] using g3
      · simpa [msA, msB] using g4
    have h7 := fun s2 => ih (msB (msA T 5 (o k) (e k)) 6 (o k) (y k)) s2 hT' hw (by simpa [msA, msB] using hc) (by omega)
    have h8 : nI k + -1 = nI k - 1 := by
      rw [Int32.sub_eq_add_neg]
    rw [nI_pred]
    simp only [x205_0, x205_1, x205_4, x205_7, x205_9, x205_10, x205_11, x205_12, x205_15, x205_16, x205_17, x205_20, x205_21, x205_24, x205_25, x205_28, x205_29, x205_30, x205_31, x205_32, x205_33, x205_36, x205_38, x205_39, x205_42, x205_43, x205_44, x205_45, x205_46, x205_47, x205_50, x205_51, x205_54, x205_55, x205_56, x205_57, x205_60, x205_61, x205_62, x205_63, x205_64, x205_67, x205_68, x205_71, x205_72, x205_73, x205_74, x205_77, x205_78, x205_79, x205_80, x205_86, x205_87, x205_90, x205_91, x205_94, x205_95, h5, mf_24, hw, nI_64, mf_17, ml_17, mf_18, ml_18, mf_19, ml_19, mf_5, ms_5, mf_6, ms_6, h2, h3, h4, xin_nI h6 (by decide), nI_clamp (lt31 h6 (by decide)), xin_nI h1 (by decide), nI_clamp (lt31 h1 (by decide)), msA1, msA2, msA3, msA4, msB1, msB2, msB3, msB4, msI1, msI2, msI3, msI4, msL1, msL2, msL3, msL4, Nat.reduceEqDiff, false_and, true_and, and_false, and_true, and_self, Option.bind_some, Option.toList_some, Option.toList_none, List.cons_append, List.nil_append, Option.isSome_some, if_true, eq_self, or_true, true_or, xb_01, mcl_cl, not_true_eq_false, not_false_eq_true, if_false]
    simp only [x205_83, h8]
    exact h7 _
/-- an act is sound: its places -/
def mJa (S : MS) (w : Nat) : Prop := 0 ≤ (S.2.2.1 22 w).toInt ∧ (S.2.2.1 22 w).toInt ≤ 64 ∧ ∀ k, k < tn (S.2.2.1 22 w) → 0 ≤ (S.2.2.1 17 (64 * w + k)).toInt ∧ (S.2.2.1 17 (64 * w + k)).toInt < 320
def fUndo (S : MS) : Int32 × MS := if S.1 24 = 0 then (-3, S) else (S.2.2.1 22 (tn (S.1 24) - 1), mDn (fun x => tn (S.2.2.1 17 (64 * (tn (S.1 24) - 1) + x))) (fun x => S.2.2.1 18 (64 * (tn (S.1 24) - 1) + x)) (fun x => S.2.2.2 19 (64 * (tn (S.1 24) - 1) + x)) (tn (S.2.2.1 22 (tn (S.1 24) - 1))) (msI S 24 (S.1 24 - 1)))
theorem e205 {d : Nat} (hd : S.1 24 = nI d) (h24 : d ≤ 24) (hj : ∀ w, w < d → mJa S w) : X g 205 0 [.val (va_rf (some mu)), .unset, .unset] [] (mH n kc ks mu S) = some (some (.int (fUndo S).1), mH n kc ks mu (fUndo S).2) := by
  unfold fUndo
  cases d with
  | zero =>
    have h0 : S.1 24 = 0 := hd
    rw [if_pos h0]
    simp only [x205_0, x205_1, x205_4, x205_7, x205_9, x205_10, x205_11, x205_12, x205_15, x205_16, x205_17, x205_20, x205_21, x205_24, x205_25, x205_28, x205_29, x205_30, x205_31, mf_24, h0, Option.bind_some, Option.toList_some, Option.toList_none, List.cons_append, List.nil_append, Option.isSome_some, if_true, eq_self, or_true, true_or, xb_01, mcl_cl, not_true_eq_false, not_false_eq_true, if_false]
  | succ d =>
    have h0 : ¬ nI (d + 1) = 0 := nI_ne0 (by omega) (by omega)
    rw [hd, if_neg h0, tn_nI (by omega), Nat.add_sub_cancel, nI_pred]
    obtain ⟨j1, j2, j3⟩ := hj d (by omega)
    have hc := nI_tn j1
    have hd24 : d < 24 := by omega
    have hT : (msI S 24 (nI d)).1 24 = nI d := by simp [msI]
    have h1 := l205 (g := g) (n := n) (kc := kc) (ks := ks) (mu := mu) (o := fun x => tn (S.2.2.1 17 (64 * d + x))) (e := fun x => S.2.2.1 18 (64 * d + x)) (y := fun x => S.2.2.2 19 (64 * d + x)) (c := tn (S.2.2.1 22 d)) (w := d) hd24 (tn (S.2.2.1 22 d)) (msI S 24 (nI d)) .unset (fun x hx => ⟨by have := j3 x hx; show tn _ < 320; unfold tn; omega, nI_tn (j3 x hx).1, rfl, rfl⟩) hT hc (by unfold tn; omega)
    rw [← hc] at h1
    simp only [x205_0, x205_1, x205_4, x205_7, x205_9, x205_10, x205_11, x205_12, x205_15, x205_16, x205_17, x205_20, x205_21, x205_24, x205_25, x205_28, x205_29, x205_30, x205_31, mf_24, hd, h0, nI_pred, mp_24, mf_22, ml_22, xin_nI hd24 (by decide), nI_clamp (lt31 hd24 (by decide)), h1, msA1, msA2, msA3, msA4, msB1, msB2, msB3, msB4, msI1, msI2, msI3, msI4, msL1, msL2, msL3, msL4, Nat.reduceEqDiff, false_and, true_and, and_false, and_true, and_self, Option.bind_some, Option.toList_some, Option.toList_none, List.cons_append, List.nil_append, Option.isSome_some, if_true, eq_self, or_true, true_or, xb_01, mcl_cl, not_true_eq_false, not_false_eq_true, if_false]
end M13
