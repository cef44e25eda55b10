/-! THE REFERENCE's methods, 18: spelling -/
section M20
variable {g : xG} {n kc ks mu s w q p r t f o : Nat} {S T : MS} {h : xH} {i j k m v x y z : Int32} {u : Int64}
theorem i64_bm {z : Int} (h1 : -9223372036854775808 ≤ z) (h2 : z ≤ 9223372036854775807) : z.bmod (2 ^ 64) = z := by
  rw [Int.bmod_def]
  omega
theorem i64_tdiv (x : Int64) : (x / 10).toInt = x.toInt.tdiv 10 := by
  have h1 := Int64.toInt_lt x
  have h2 := Int64.le_toInt x
  have e : (10 : Int64).toInt = 10 := rfl
  rw [Int64.toInt_div, e]
  apply i64_bm
  · by_cases hx : 0 ≤ x.toInt
    · have := Int.tdiv_nonneg hx (show (0 : Int) ≤ 10 by decide)
      omega
    · have e2 : x.toInt = -(-x.toInt) := by omega
      rw [e2, Int.neg_tdiv, Int.tdiv_eq_ediv_of_nonneg (by omega)]
      omega
  · by_cases hx : 0 ≤ x.toInt
    · rw [Int.tdiv_eq_ediv_of_nonneg hx]
      omega
    · have e2 : x.toInt = -(-x.toInt) := by omega
      rw [e2, Int.neg_tdiv, Int.tdiv_eq_ediv_of_nonneg (by omega)]
      omega
theorem i64_abs (x : Int64) : (x / 10).toInt.natAbs = x.toInt.natAbs / 10 := by
  rw [i64_tdiv, Int.natAbs_tdiv]
  rfl
theorem i64_rem (x : Int64) : (x - x / 10 * 10).toInt.natAbs = x.toInt.natAbs % 10 := by
  have h1 := Int64.toInt_lt x
  have h2 := Int64.le_toInt x
  have e : (10 : Int64).toInt = 10 := rfl
  have h3 := Int.tmod_add_mul_tdiv x.toInt 10
  have h4 : (x.toInt.tmod 10).natAbs = x.toInt.natAbs % 10 := Int.natAbs_tmod ..
  have h5 : x.toInt.natAbs % 10 < 10 := Nat.mod_lt _ (by decide)
  have h8 : (x.toInt.tdiv 10).natAbs = x.toInt.natAbs / 10 := Int.natAbs_tdiv ..
  have h6 : (x / 10 * 10).toInt = x.toInt.tdiv 10 * 10 := by
    rw [Int64.toInt_mul, i64_tdiv, e]
    generalize x.toInt.tdiv 10 = D at h8
    generalize x.toInt = Y at h1 h2 h8
    apply i64_bm <;> omega
  have h7 : (x - x / 10 * 10).toInt = x.toInt.tmod 10 := by
    rw [Int64.toInt_sub, h6]
    have h9 : x.toInt - x.toInt.tdiv 10 * 10 = x.toInt.tmod 10 := by
      generalize x.toInt.tdiv 10 = D at h3
      generalize x.toInt.tmod 10 = M at h3
      omega
    rw [h9]
    generalize x.toInt.tmod 10 = M at h4
    apply i64_bm <;> omega
  rw [h7, h4]
/-- a figure -/
theorem i64_fig {y : Int64} {c : Nat} (hc : y.toInt.natAbs = c) (h9 : c < 10) : (if ¬ (y.toInt < 0) then y.toInt32 else (-y).toInt32) = nI c := by
  have hb : ∀ z : Int, 0 ≤ z → z < 10 → z.bmod (2 ^ 32) = z := by
    intro z h1 h2
    rw [Int.bmod_def]
    omega
  apply Int32.toInt_inj.mp
  rw [nI_toInt (by omega)]
  by_cases e : y.toInt < 0
  · rw [if_neg (fun z => z e), Int64.toInt_toInt32, Int64.toInt_neg, i64_bm (by omega) (by omega), hb _ (by omega) (by omega)]
    omega
  · rw [if_pos e, Int64.toInt_toInt32, hb _ (by omega) (by omega)]
    omega
/-- figures, the last first -/
def dgs : Nat → Nat → List Int32
  | 0, _ => []
  | f + 1, a => (48 + nI (a % 10)) :: (if a / 10 = 0 then [] else dgs f (a / 10))
/-- a number's letters -/
def sNum (v : Int64) : List Int32 := (if v.toInt < 0 then [45] else []) ++ (dgs 19 v.toInt.natAbs).reverse
theorem dgs_len : ∀ f a, (dgs f a).length ≤ f := by
  intro f
  induction f with
  | zero => intro a; exact Nat.le_refl _
  | succ f ih =>
    intro a
    rw [dgs]
    split
    · simp
    · have := ih (a / 10)
      simp
      exact this
def mFg (S : MS) (F : Nat → Int32) : MS := (S.1, S.2.1, fun q i => if q = 31 then F i else S.2.2.1 q i, S.2.2.2)
theorem mFg_self : mFg S (S.2.2.1 31) = S := by
  refine Prod.ext rfl (Prod.ext rfl (Prod.ext ?_ rfl))
  funext q i
  simp only [mFg]
  split
  · rename_i e
    rw [e]
  · rfl
theorem mFg_set {F : Nat → Int32} {c : Nat} : msA (mFg S F) 31 c x = mFg S (fun i => if i = c then x else F i) := by
  refine Prod.ext rfl (Prod.ext rfl (Prod.ext ?_ rfl))
  funext q i
  simp only [mFg, msA]
  by_cases e : q = 31
  · simp [e]
  · simp [e]
theorem l223a : ∀ f c (b : Int64) (F : Nat → Int32) (s6 s7 : Slot), c + (f + 1) ≤ 20 → b.toInt.natAbs < 10 ^ (f + 1) → ∃ (G : Nat → Int32) (b' : Int64), X g 223 17 [.val (va_rf (some mu)), .val (.long u), .second, .val (.int (nI c)), .val (.long b), .second, s6, s7] [] (mH n kc ks mu (mFg S F)) = X g 223 68 [.val (va_rf (some mu)), .val (.long u), .second, .val (.int (nI (c + (dgs (f + 1) b.toInt.natAbs).length))), .val (.long 0), .second, .val (.long b'), .second] [] (mH n kc ks mu (mFg S G)) ∧ (∀ x, x < c → G x = F x) ∧ (∀ x, x < (dgs (f + 1) b.toInt.natAbs).length → G (c + x) = (dgs (f + 1) b.toInt.natAbs).getD x 0) := by
  intro f
  induction f with
  | zero =>
    intro c b F s6 s7 hc hb
    have h0 : b.toInt.natAbs / 10 = 0 := by omega
    have h1 : c < 20 := by omega
    have ne : ¬ (10 : Int64) = 0 := by decide
    have hz : b / 10 = 0 := by
      apply Int64.toInt_inj.mp
      have := i64_abs b
      rw [h0] at this
      rw [Int.natAbs_eq_zero.mp this]
      rfl
    refine ⟨fun i => if i = c then 48 + nI (b.toInt.natAbs % 10) else F i, b - b / 10 * 10, ?_, ?_, ?_⟩
    · have hf := i64_fig (i64_rem b) (Nat.mod_lt _ (by decide))
      have e1 : (dgs 1 b.toInt.natAbs).length = 1 := by simp [dgs, h0]
      rw [e1]
      by_cases e : (b - b / 10 * 10).toInt < 0
      · rw [if_neg (fun z => z e)] at hf
        simp only [x223_17, x223_19, x223_22, x223_23, x223_25, x223_26, x223_29, x223_30, x223_32, x223_34, x223_35, x223_36, x223_39, x223_41, x223_42, x223_45, x223_47, x223_48, x223_49, x223_50, x223_53, x223_55, x223_58, x223_59, x223_61, x223_63, x223_64, mf_31, ms_31, lcmp_ge0, Int64.toInt_zero, ne, e, hf, xin_nI h1 (by decide), nI_clamp (lt31 h1 (by decide)), nI_1, mFg_set, Option.bind_some, Option.toList_some, Option.toList_none, List.cons_append, List.nil_append, Option.isSome_some, if_true, eq_self, or_true, true_or, xb_01, mcl_cl, not_true_eq_false, not_false_eq_true, if_false]
        simp only [x223_65, lcmp_eq0, hz, Option.bind_some, Option.toList_some, Option.toList_none, List.cons_append, List.nil_append, Option.isSome_some, if_true, eq_self, or_true, true_or, xb_01, mcl_cl, not_true_eq_false, not_false_eq_true, if_false]
      · rw [if_pos e] at hf
        simp only [x223_17, x223_19, x223_22, x223_23, x223_25, x223_26, x223_29, x223_30, x223_32, x223_34, x223_35, x223_36, x223_39, x223_41, x223_42, x223_45, x223_47, x223_48, x223_49, x223_50, x223_53, x223_55, x223_58, x223_59, x223_61, x223_63, x223_64, mf_31, ms_31, lcmp_ge0, Int64.toInt_zero, ne, e, hf, xin_nI h1 (by decide), nI_clamp (lt31 h1 (by decide)), nI_1, mFg_set, Option.bind_some, Option.toList_some, Option.toList_none, List.cons_append, List.nil_append, Option.isSome_some, if_true, eq_self, or_true, true_or, xb_01, mcl_cl, not_true_eq_false, not_false_eq_true, if_false]
        simp only [x223_65, lcmp_eq0, hz, Option.bind_some, Option.toList_some, Option.toList_none, List.cons_append, List.nil_append, Option.isSome_some, if_true, eq_self, or_true, true_or, xb_01, mcl_cl, not_true_eq_false, not_false_eq_true, if_false]
    · intro x hx
      simp only [if_neg (show ¬ x = c by omega)]
    · intro x hx
      have e1 : (dgs (0 + 1) b.toInt.natAbs).length = 1 := by simp [dgs, h0]
      have : x = 0 := by omega
      subst this
      simp [dgs]
  | succ f ih =>
    intro c b F s6 s7 hc hb
    have h1 : c < 20 := by omega
    have ne : ¬ (10 : Int64) = 0 := by decide
    have hf := i64_fig (i64_rem b) (Nat.mod_lt _ (by decide))
    by_cases h0 : b.toInt.natAbs / 10 = 0
    · have hz : b / 10 = 0 := by
        apply Int64.toInt_inj.mp
        have := i64_abs b
        rw [h0] at this
        rw [Int.natAbs_eq_zero.mp this]
        rfl
      have e1 : dgs (f + 1 + 1) b.toInt.natAbs = [48 + nI (b.toInt.natAbs % 10)] := by rw [dgs, if_pos h0]
      rw [e1]
      refine ⟨fun i => if i = c then 48 + nI (b.toInt.natAbs % 10) else F i, b - b / 10 * 10, ?_, ?_, ?_⟩
      · rw [show ([48 + nI (b.toInt.natAbs % 10)] : List Int32).length = 1 from rfl]
        by_cases e : (b - b / 10 * 10).toInt < 0
        · rw [if_neg (fun z => z e)] at hf
          simp only [x223_17, x223_19, x223_22, x223_23, x223_25, x223_26, x223_29, x223_30, x223_32, x223_34, x223_35, x223_36, x223_39, x223_41, x223_42, x223_45, x223_47, x223_48, x223_49, x223_50, x223_53, x223_55, x223_58, x223_59, x223_61, x223_63, x223_64, mf_31, ms_31, lcmp_ge0, Int64.toInt_zero, ne, e, hf, xin_nI h1 (by decide), nI_clamp (lt31 h1 (by decide)), nI_1, mFg_set, Option.bind_some, Option.toList_some, Option.toList_none, List.cons_append, List.nil_append, Option.isSome_some, if_true, eq_self, or_true, true_or, xb_01, mcl_cl, not_true_eq_false, not_false_eq_true, if_false]
          simp only [x223_65, lcmp_eq0, hz, Option.bind_some, Option.toList_some, Option.toList_none, List.cons_append, List.nil_append, Option.isSome_some, if_true, eq_self, or_true, true_or, xb_01, mcl_cl, not_true_eq_false, not_false_eq_true, if_false]
        · rw [if_pos e] at hf
          simp only [x223_17, x223_19, x223_22, x223_23, x223_25, x223_26, x223_29, x223_30, x223_32, x223_34, x223_35, x223_36, x223_39, x223_41, x223_42, x223_45, x223_47, x223_48, x223_49, x223_50, x223_53, x223_55, x223_58, x223_59, x223_61, x223_63, x223_64, mf_31, ms_31, lcmp_ge0, Int64.toInt_zero, ne, e, hf, xin_nI h1 (by decide), nI_clamp (lt31 h1 (by decide)), nI_1, mFg_set, Option.bind_some, Option.toList_some, Option.toList_none, List.cons_append, List.nil_append, Option.isSome_some, if_true, eq_self, or_true, true_or, xb_01, mcl_cl, not_true_eq_false, not_false_eq_true, if_false]
          simp only [x223_65, lcmp_eq0, hz, Option.bind_some, Option.toList_some, Option.toList_none, List.cons_append, List.nil_append, Option.isSome_some, if_true, eq_self, or_true, true_or, xb_01, mcl_cl, not_true_eq_false, not_false_eq_true, if_false]
      · intro x hx
        simp only [if_neg (show ¬ x = c by omega)]
      · intro x hx
        have : x = 0 := by simp at hx; exact hx
        subst this
        simp
    · have hz : ¬ b / 10 = 0 := by
        intro z
        have := i64_abs b
        rw [z] at this
        exact h0 this.symm
      have e1 : dgs (f + 1 + 1) b.toInt.natAbs = (48 + nI (b.toInt.natAbs % 10)) :: dgs (f + 1) (b.toInt.natAbs / 10) := by rw [dgs, if_neg h0]
      obtain ⟨G, b', g1, g2, g3⟩ := ih (c + 1) (b / 10) (fun i => if i = c then 48 + nI (b.toInt.natAbs % 10) else F i) (.val (.long (b - b / 10 * 10))) .second (by omega) (by rw [i64_abs]; rw [Nat.pow_succ] at hb; omega)
      rw [i64_abs] at g1 g3
      rw [e1]
      refine ⟨G, b', ?_, ?_, ?_⟩
      · rw [List.length_cons, show c + ((dgs (f + 1) (b.toInt.natAbs / 10)).length + 1) = c + 1 + (dgs (f + 1) (b.toInt.natAbs / 10)).length by omega]
        by_cases e : (b - b / 10 * 10).toInt < 0
        · rw [if_neg (fun z => z e)] at hf
          simp only [x223_17, x223_19, x223_22, x223_23, x223_25, x223_26, x223_29, x223_30, x223_32, x223_34, x223_35, x223_36, x223_39, x223_41, x223_42, x223_45, x223_47, x223_48, x223_49, x223_50, x223_53, x223_55, x223_58, x223_59, x223_61, x223_63, x223_64, mf_31, ms_31, lcmp_ge0, Int64.toInt_zero, ne, e, hf, xin_nI h1 (by decide), nI_clamp (lt31 h1 (by decide)), nI_1, mFg_set, Option.bind_some, Option.toList_some, Option.toList_none, List.cons_append, List.nil_append, Option.isSome_some, if_true, eq_self, or_true, true_or, xb_01, mcl_cl, not_true_eq_false, not_false_eq_true, if_false]
          simp only [x223_65, lcmp_eq0, hz, Option.bind_some, Option.toList_some, Option.toList_none, List.cons_append, List.nil_append, Option.isSome_some, if_true, eq_self, or_true, true_or, xb_01, mcl_cl, not_true_eq_false, not_false_eq_true, if_false]
          exact g1
        · rw [if_pos e] at hf
          simp only [x223_17, x223_19, x223_22, x223_23, x223_25, x223_26, x223_29, x223_30, x223_32, x223_34, x223_35, x223_36, x223_39, x223_41, x223_42, x223_45, x223_47, x223_48, x223_49, x223_50, x223_53, x223_55, x223_58, x223_59, x223_61, x223_63, x223_64, mf_31, ms_31, lcmp_ge0, Int64.toInt_zero, ne, e, hf, xin_nI h1 (by decide), nI_clamp (lt31 h1 (by decide)), nI_1, mFg_set, Option.bind_some, Option.toList_some, Option.toList_none, List.cons_append, List.nil_append, Option.isSome_some, if_true, eq_self, or_true, true_or, xb_01, mcl_cl, not_true_eq_false, not_false_eq_true, if_false]
          simp only [x223_65, lcmp_eq0, hz, Option.bind_some, Option.toList_some, Option.toList_none, List.cons_append, List.nil_append, Option.isSome_some, if_true, eq_self, or_true, true_or, xb_01, mcl_cl, not_true_eq_false, not_false_eq_true, if_false]
          exact g1
      · intro x hx
        rw [g2 x (by omega)]
        simp only [if_neg (show ¬ x = c by omega)]
      · intro x hx
        cases x with
        | zero =>
          rw [Nat.add_zero, g2 c (by omega)]
          simp
        | succ x =>
          have := g3 x (by simpa using hx)
          rw [show c + (x + 1) = c + 1 + x by omega, this]
          simp
/-- letters put on the paper -/
def mSp1 (S : MS) (c : Int32) : MS := msI (msA S 29 (tn (S.1 30)) c) 30 (S.1 30 + 1)
def mSp (S : MS) : List Int32 → MS
  | [] => S
  | c :: l => mSp (mSp1 S c) l
theorem mSp_app : ∀ (l l' : List Int32) (S : MS), mSp S (l ++ l') = mSp (mSp S l) l' := by
  intro l
  induction l with
  | nil => intro l' S; rfl
  | cons c l ih => intro l' S; exact ih l' _
theorem c222 (e : S.1 30 = nI p) (hp : p < 800) : X g 222 0 [.val (va_rf (some mu)), .val (.int x)] [] (mH n kc ks mu S) = some (none, mH n kc ks mu (mSp1 S x)) := by
  unfold mSp1
  rw [e, tn_nI (by omega)]
  simp only [x222_0, x222_1, x222_4, x222_5, x222_8, x222_9, x222_10, x222_11, x222_12, x222_15, x222_16, x222_17, x222_20, mf_29, mf_30, ms_29, mp_30, msA1, e, xin_nI hp (by decide), nI_clamp (lt31 hp (by decide)), Option.bind_some, Option.toList_some, Option.toList_none, List.cons_append, List.nil_append, Option.isSome_some, if_true, eq_self, or_true, true_or, xb_01, mcl_cl, not_true_eq_false, not_false_eq_true, if_false]
theorem mSp1_30 (e : S.1 30 = nI p) : (mSp1 S x).1 30 = nI (p + 1) := by
  unfold mSp1
  rw [e, nI_1]
  rfl
theorem mSp_30 : ∀ (l : List Int32) (S : MS) p, S.1 30 = nI p → (mSp S l).1 30 = nI (p + l.length) := by
  intro l
  induction l with
  | nil => intro S p e; exact e
  | cons c l ih =>
    intro S p e
    rw [mSp, ih _ (p + 1) (mSp1_30 e), List.length_cons]
    congr 1
    omega
theorem mSp1_A {z t : Nat} (h : z ≠ 29) : (mSp1 S x).2.2.1 z t = S.2.2.1 z t := by
  simp [mSp1, msA, msI, h]
theorem mSp_A : ∀ (l : List Int32) (S : MS) {z t : Nat}, z ≠ 29 → (mSp S l).2.2.1 z t = S.2.2.1 z t := by
  intro l
  induction l with
  | nil => intro S z t _; rfl
  | cons c l ih =>
    intro S z t h
    rw [mSp, ih _ h, mSp1_A h]
theorem mSp_B : ∀ (l : List Int32) (S : MS), (mSp S l).2.2.2 = S.2.2.2 ∧ (mSp S l).2.1 = S.2.1 ∧ ∀ z, z ≠ 30 → (mSp S l).1 z = S.1 z := by
  intro l
  induction l with
  | nil => intro S; exact ⟨rfl, rfl, fun _ _ => rfl⟩
  | cons c l ih =>
    intro S
    obtain ⟨h1, h2, h3⟩ := ih (mSp1 S c)
    refine ⟨h1, h2, fun z hz => ?_⟩
    rw [mSp, h3 z hz]
    simp [mSp1, msI, msA, hz]
theorem mSp_29 : ∀ (l : List Int32) (S : MS) p, S.1 30 = nI p → p + l.length ≤ 800 → (∀ t, t < p → (mSp S l).2.2.1 29 t = S.2.2.1 29 t) ∧ ∀ t, t < l.length → (mSp S l).2.2.1 29 (p + t) = l.getD t 0 := by
  intro l
  induction l with
  | nil => intro S p e _; exact ⟨fun _ _ => rfl, fun t ht => absurd ht (by simp)⟩
  | cons c l ih =>
    intro S p e hl
    rw [List.length_cons] at hl
    obtain ⟨h1, h2⟩ := ih (mSp1 S c) (p + 1) (mSp1_30 e) (by omega)
    have h3 : tn (S.1 30) = p := by rw [e]; exact tn_nI (by omega)
    have h4 : ∀ t, (mSp1 S c).2.2.1 29 t = if t = p then c else S.2.2.1 29 t := by
      intro t
      unfold mSp1
      rw [h3]
      simp [msA, msI]
    refine ⟨fun t ht => ?_, fun t ht => ?_⟩
    · rw [mSp, h1 t (by omega), h4, if_neg (by omega)]
    · cases t with
      | zero =>
        rw [mSp, Nat.add_zero, h1 p (by omega), h4, if_pos rfl]
        simp
      | succ t =>
        rw [mSp, show p + (t + 1) = p + 1 + t by omega, h2 t (by simpa using ht)]
        simp
theorem mSp1_fg {F : Nat → Int32} : mSp1 (mFg S F) x = mFg (mSp1 S x) F := by
  refine Prod.ext rfl (Prod.ext rfl (Prod.ext ?_ rfl))
  funext q i
  simp only [mSp1, mFg, msA, msI]
  by_cases e : q = 31
  · subst e
    simp
  · simp [e]
theorem mSp_fg {F : Nat → Int32} : ∀ (l : List Int32) (S : MS), mSp (mFg S F) l = mFg (mSp S l) F := by
  intro l
  induction l with
  | nil => intro S; rfl
  | cons c l ih =>
    intro S
    rw [mSp, mSp1_fg, ih, mSp]
theorem mFg_fg {F G : Nat → Int32} : mFg (mFg S F) G = mFg S G := by
  refine Prod.ext rfl (Prod.ext rfl (Prod.ext ?_ rfl))
  funext q i
  simp only [mFg]
  split <;> rfl
def rvl (F : Nat → Int32) : Nat → List Int32
  | 0 => []
  | c + 1 => F c :: rvl F c
theorem rvl_eq {F : Nat → Int32} : ∀ c, rvl F c = ((List.range c).map F).reverse := by
  intro c
  induction c with
  | zero => rfl
  | succ c ih => rw [rvl, ih, List.range_succ, List.map_append, List.reverse_append]; rfl
theorem rvl_rev {F : Nat → Int32} {l : List Int32} (h : ∀ x, x < l.length → F x = l.getD x 0) : rvl F l.length = l.reverse := by
  rw [rvl_eq]
  congr 1
  apply List.ext_getElem
  · simp
  · intro k h1 h2
    rw [List.getElem_map, List.getElem_range, h k h2]
    simp [h2]
theorem l223b {F : Nat → Int32} (b b' : Int64) : ∀ c (T : MS) p, T.1 30 = nI p → p + c ≤ 800 → c ≤ 20 → (∀ x, T.2.2.1 31 x = F x) → X g 223 68 [.val (va_rf (some mu)), .val (.long u), .second, .val (.int (nI c)), .val (.long b), .second, .val (.long b'), .second] [] (mH n kc ks mu T) = some (none, mH n kc ks mu (mSp T (rvl F c))) := by
  intro c
  induction c with
  | zero =>
    intro T p _ _ _ _
    have h1 : nI 0 ≤ 0 := by decide
    simp only [x223_68, x223_69, x223_72, x223_75, x223_76, x223_77, x223_80, x223_81, x223_82, x223_88, h1, rvl, mSp, Option.bind_some, Option.toList_some, Option.toList_none, List.cons_append, List.nil_append, Option.isSome_some, if_true, eq_self, or_true, true_or, xb_01, mcl_cl, not_true_eq_false, not_false_eq_true, if_false]
  | succ c ih =>
    intro T p e hp hc hF
    have h1 : ¬ nI (c + 1) ≤ 0 := nI_ge (a := 0) (b := c + 1) (by omega) (by omega)
    have h2 : c < 20 := by omega
    have h3 := ih (mSp1 T (F c)) (p + 1) (mSp1_30 e) (by omega) (by omega) (fun x => by rw [mSp1_A (by decide)]; exact hF x)
    simp only [x223_68, x223_69, x223_72, x223_75, x223_76, x223_77, x223_80, x223_81, x223_82, h1, nI_dec, mf_31, ml_31, hF, c222 e (show p < 800 by omega), xin_nI h2 (by decide), nI_clamp (lt31 h2 (by decide)), Option.bind_some, Option.toList_some, Option.toList_none, List.cons_append, List.nil_append, Option.isSome_some, if_true, eq_self, or_true, true_or, xb_01, mcl_cl, not_true_eq_false, not_false_eq_true, if_false]
    simp only [x223_85]
    rw [h3, rvl, mSp]
theorem c223 (e : S.1 30 = nI p) (hp : p + 20 ≤ 800) : ∃ F, X g 223 0 [.val (va_rf (some mu)), .val (.long u), .second, .unset, .unset, .unset, .unset, .unset] [] (mH n kc ks mu S) = some (none, mH n kc ks mu (mFg (mSp S (sNum u)) F)) := by
  have hu : u.toInt.natAbs < 10 ^ 19 := by
    have h1 := Int64.toInt_lt u
    have h2 := Int64.le_toInt u
    omega
  have hl := dgs_len 19 u.toInt.natAbs
  have key : ∀ (T : MS) c, T.1 30 = nI c → c + 19 ≤ 800 → ∃ F, X g 223 17 [.val (va_rf (some mu)), .val (.long u), .second, .val (.int 0), .val (.long u), .second, .unset, .unset] [] (mH n kc ks mu T) = some (none, mH n kc ks mu (mFg (mSp T (dgs 19 u.toInt.natAbs).reverse) F)) := by
    intro T c eT hc
    obtain ⟨G, b', g1, _, g3⟩ := l223a (g := g) (n := n) (kc := kc) (ks := ks) (mu := mu) (S := T) (u := u) 18 0 u (T.2.2.1 31) .unset .unset (by omega) hu
    rw [mFg_self, Nat.zero_add] at g1
    have g1' : X g 223 17 [.val (va_rf (some mu)), .val (.long u), .second, .val (.int 0), .val (.long u), .second, .unset, .unset] [] (mH n kc ks mu T) = _ := g1
    have g4 := l223b (g := g) (n := n) (kc := kc) (ks := ks) (mu := mu) (u := u) (F := G) 0 b' (dgs 19 u.toInt.natAbs).length (mFg T G) c eT (by omega) (by omega) (fun x => by simp [mFg])
    refine ⟨G, ?_⟩
    rw [g1', g4, rvl_rev (fun x hx => by
      have := g3 x hx
      rw [Nat.zero_add] at this
      exact this), mSp_fg]
  unfold sNum
  by_cases hs : u.toInt < 0
  · rw [if_pos hs]
    obtain ⟨F, h1⟩ := key (mSp1 S 45) (p + 1) (mSp1_30 e) (by omega)
    refine ⟨F, ?_⟩
    rw [mSp_app]
    simp only [x223_0, x223_1, x223_2, x223_3, x223_6, x223_7, x223_9, x223_12, x223_13, x223_14, x223_15, lcmp_ge0, Int64.toInt_zero, hs, c222 e (show p < 800 by omega), h1, mSp, Option.bind_some, Option.toList_some, Option.toList_none, List.cons_append, List.nil_append, Option.isSome_some, if_true, eq_self, or_true, true_or, xb_01, mcl_cl, not_true_eq_false, not_false_eq_true, if_false]
  · rw [if_neg hs]
    obtain ⟨F, h1⟩ := key S p e (by omega)
    refine ⟨F, ?_⟩
    rw [List.nil_append]
    simp only [x223_0, x223_1, x223_2, x223_3, x223_6, x223_7, x223_9, x223_12, x223_13, x223_14, x223_15, lcmp_ge0, Int64.toInt_zero, hs, h1, Option.bind_some, Option.toList_some, Option.toList_none, List.cons_append, List.nil_append, Option.isSome_some, if_true, eq_self, or_true, true_or, xb_01, mcl_cl, not_true_eq_false, not_false_eq_true, if_false]
theorem sNum_len (v : Int64) : (sNum v).length ≤ 20 := by
  have := dgs_len 19 v.toInt.natAbs
  unfold sNum
  rw [List.length_append, List.length_reverse]
  split
  · simp
    omega
  · simp
    omega
/-- a cell's letters -/
def sCl (k : Int32) (v : Int64) : List Int32 := if k = 8 then [45] else (if 8 < k then [if k = 9 then 108 else 119] else []) ++ sNum v
theorem sCl_len (k : Int32) (v : Int64) : (sCl k v).length ≤ 21 := by
  have := sNum_len v
  unfold sCl
  split
  · simp
  · rw [List.length_append]
    split
    · simp
      omega
    · simp
      omega
/-- cells' letters -/
def sCls (e : Nat → Int32) (y : Nat → Int64) : Nat → Nat → List Int32
  | _, 0 => []
  | c, d + 1 => 32 :: (sCl (e c) (y c) ++ sCls e y (c + 1) d)
theorem sCls_len (e : Nat → Int32) (y : Nat → Int64) : ∀ d c, (sCls e y c d).length ≤ 22 * d := by
  intro d
  induction d with
  | zero => intro c; exact Nat.le_refl _
  | succ d ih =>
    intro c
    rw [sCls, List.length_cons, List.length_append]
    have := ih (c + 1)
    have := sCl_len (e c) (y c)
    omega
def sLt : List Int32 := [122, 98, 99, 115, 105, 106, 102, 100, 111, 108]
/-- the letters of kinds -/
def mLt (S : MS) : Prop := ∀ k, k < 10 → S.2.2.1 32 k = sLt.getD k 0
def sTxt (S : MS) (r : Nat) : List Int32 := sLt.getD (tn (S.2.2.1 2 r)) 0 :: sCls (fun c => S.2.2.1 5 (32 * r + c)) (fun c => S.2.2.2 6 (32 * r + c)) 0 (mz S r)
theorem l224 (hr : r < 10) (hz : S.2.2.1 3 r = nI (mz S r)) (h32 : mz S r ≤ 32) (i2 : Int32) : ∀ d c (T : MS) p, c + d = mz S r → T.1 30 = nI p → p + 22 * d ≤ 790 → (∀ z t, z ≠ 29 → z ≠ 31 → T.2.2.1 z t = S.2.2.1 z t) → T.2.2.2 = S.2.2.2 → ∃ F, X g 224 45 [.val (va_rf (some mu)), .val (.int i), .val (.int i2), .val (.int (nI r)), .val (.int (nI (32 * r + c)))] [] (mH n kc ks mu T) = some (some (.int (nI (p + (sCls (fun c => S.2.2.1 5 (32 * r + c)) (fun c => S.2.2.2 6 (32 * r + c)) c d).length))), mH n kc ks mu (mFg (mSp T (sCls (fun c => S.2.2.1 5 (32 * r + c)) (fun c => S.2.2.2 6 (32 * r + c)) c d)) F)) := by
  have he : (32 : Int32) * nI r + nI (mz S r) = nI (32 * r + mz S r) := nI_cell r (mz S r)
  have rr1 := xin_nI hr (n := 10) (by decide)
  have rr2 := nI_clamp (lt31 hr (by decide))
  intro d
  induction d with
  | zero =>
    intro c T p hc e hp hA hB
    refine ⟨T.2.2.1 31, ?_⟩
    have h1 : nI (32 * r + mz S r) ≤ nI (32 * r + c) := nI_le (by omega) (by omega)
    have h2 : T.2.2.1 3 r = nI (mz S r) := by rw [hA 3 r (by decide) (by decide)]; exact hz
    rw [sCls, mSp, mFg_self]
    simp only [x224_45, x224_47, x224_49, x224_50, x224_51, x224_52, x224_55, x224_56, x224_57, x224_58, x224_140, x224_141, x224_144, mf_3, ml_3, mf_30, h2, he, e, h1, rr1, rr2, List.length_nil, Nat.add_zero, Option.bind_some, Option.toList_some, Option.toList_none, List.cons_append, List.nil_append, Option.isSome_some, if_true, eq_self, or_true, true_or, xb_01, mcl_cl, not_true_eq_false, not_false_eq_true, if_false]
  | succ d ih =>
    intro c T p hc e hp hA hB
    have h1 : ¬ nI (32 * r + mz S r) ≤ nI (32 * r + c) := nI_ge (by omega) (by omega)
    have h2 : T.2.2.1 3 r = nI (mz S r) := by rw [hA 3 r (by decide) (by decide)]; exact hz
    have h3 : 32 * r + c < 320 := by omega
    have q1 := xin_nI h3 (n := 320) (by decide)
    have q2 := nI_clamp (lt31 h3 (by decide))
    have k5 : T.2.2.1 5 (32 * r + c) = S.2.2.1 5 (32 * r + c) := hA 5 _ (by decide) (by decide)
    have k6 : T.2.2.2 6 (32 * r + c) = S.2.2.2 6 (32 * r + c) := by rw [hB]
    have hlen := sCl_len (S.2.2.1 5 (32 * r + c)) (S.2.2.2 6 (32 * r + c))
    rw [sCls]
    -- after the cell's letters
    have step : ∀ (l : List Int32) (G : Nat → Int32), l.length ≤ 21 → ∃ F, X g 224 134 [.val (va_rf (some mu)), .val (.int i), .val (.int i2), .val (.int (nI r)), .val (.int (nI (32 * r + c)))] [] (mH n kc ks mu (mFg (mSp (mSp1 T 32) l) G)) = some (some (.int (nI (p + (32 :: (l ++ sCls (fun c => S.2.2.1 5 (32 * r + c)) (fun c => S.2.2.2 6 (32 * r + c)) (c + 1) d)).length))), mH n kc ks mu (mFg (mSp T (32 :: (l ++ sCls (fun c => S.2.2.1 5 (32 * r + c)) (fun c => S.2.2.2 6 (32 * r + c)) (c + 1) d))) F)) := by
      intro l G hl
      obtain ⟨b1, b2, b3⟩ := mSp_B l (mSp1 T 32)
      obtain ⟨F, h5⟩ := ih (c + 1) (mFg (mSp (mSp1 T 32) l) G) (p + 1 + l.length) (by omega) (mSp_30 l _ (p + 1) (mSp1_30 e)) (by omega) (by
        intro z t h29 h31
        simp only [mFg, if_neg h31]
        rw [mSp_A _ _ h29, mSp1_A h29, hA z t h29 h31]) (by
        show (mSp (mSp1 T 32) l).2.2.2 = _
        rw [b1, ← hB]
        rfl)
      refine ⟨F, ?_⟩
      simp only [x224_134, x224_137, nI_1]
      rw [show 32 * r + c + 1 = 32 * r + (c + 1) by omega, h5, mSp_fg, mFg_fg, mSp, mSp_app, List.length_cons, List.length_append]
      congr 5
      omega
    have e1 := mSp1_30 (x := 32) e
    by_cases k8 : S.2.2.1 5 (32 * r + c) = 8
    · have hcl : sCl (S.2.2.1 5 (32 * r + c)) (S.2.2.2 6 (32 * r + c)) = [45] := by unfold sCl; rw [if_pos k8]
      rw [hcl]
      obtain ⟨F, h5⟩ := step [45] (T.2.2.1 31) (by decide)
      have hs : mFg (mSp (mSp1 T 32) [45]) (T.2.2.1 31) = mSp1 (mSp1 T 32) 45 := by
        have : T.2.2.1 31 = (mSp1 (mSp1 T 32) 45).2.2.1 31 := by
          funext t
          rw [mSp1_A (by decide), mSp1_A (by decide)]
        rw [this]
        exact mFg_self
      rw [hs] at h5
      refine ⟨F, ?_⟩
      simp only [x224_45, x224_47, x224_49, x224_50, x224_51, x224_52, x224_55, x224_56, x224_57, x224_58, x224_61, x224_62, x224_64, x224_67, x224_68, x224_71, x224_73, x224_74, x224_76, x224_79, x224_80, x224_82, x224_85, mf_3, ml_3, mf_5, ml_5, h2, he, h1, rr1, rr2, q1, q2, c222 e (show p < 800 by omega), c222 e1 (show p + 1 < 800 by omega), mSp1_A (show (5 : Nat) ≠ 29 by decide), k5, k8, h5, Option.bind_some, Option.toList_some, Option.toList_none, List.cons_append, List.nil_append, Option.isSome_some, if_true, eq_self, or_true, true_or, xb_01, mcl_cl, not_true_eq_false, not_false_eq_true, if_false]
    · obtain ⟨F1, g1⟩ : ∃ F1, X g 224 123 [.val (va_rf (some mu)), .val (.int i), .val (.int i2), .val (.int (nI r)), .val (.int (nI (32 * r + c)))] [] (mH n kc ks mu (mSp (mSp1 T 32) (if 8 < S.2.2.1 5 (32 * r + c) then [if S.2.2.1 5 (32 * r + c) = 9 then 108 else 119] else []))) = X g 224 134 [.val (va_rf (some mu)), .val (.int i), .val (.int i2), .val (.int (nI r)), .val (.int (nI (32 * r + c)))] [] (mH n kc ks mu (mFg (mSp (mSp1 T 32) (sCl (S.2.2.1 5 (32 * r + c)) (S.2.2.2 6 (32 * r + c)))) F1)) := by
        have hpre : (if 8 < S.2.2.1 5 (32 * r + c) then [if S.2.2.1 5 (32 * r + c) = 9 then (108 : Int32) else 119] else []).length ≤ 1 := by
          split <;> simp
        have hcl : sCl (S.2.2.1 5 (32 * r + c)) (S.2.2.2 6 (32 * r + c)) = (if 8 < S.2.2.1 5 (32 * r + c) then [if S.2.2.1 5 (32 * r + c) = 9 then (108 : Int32) else 119] else []) ++ sNum (S.2.2.2 6 (32 * r + c)) := by unfold sCl; rw [if_neg k8]
        rw [hcl]
        generalize (if 8 < S.2.2.1 5 (32 * r + c) then [if S.2.2.1 5 (32 * r + c) = 9 then (108 : Int32) else 119] else []) = l at *
        have e2 := mSp_30 l _ (p + 1) e1
        obtain ⟨F1, f1⟩ := c223 (g := g) (n := n) (kc := kc) (ks := ks) (mu := mu) (u := S.2.2.2 6 (32 * r + c)) e2 (by omega)
        refine ⟨F1, ?_⟩
        have k6' : (mSp (mSp1 T 32) l).2.2.2 6 (32 * r + c) = S.2.2.2 6 (32 * r + c) := by
          rw [(mSp_B l (mSp1 T 32)).1, ← k6]
          rfl
        simp only [x224_123, x224_124, x224_125, x224_128, x224_130, x224_131, mf_6, ml_6, q1, q2, k6', f1, mSp_app, Option.bind_some, Option.toList_some, Option.toList_none, List.cons_append, List.nil_append, Option.isSome_some, if_true, eq_self, or_true, true_or, xb_01, mcl_cl, not_true_eq_false, not_false_eq_true, if_false]
      obtain ⟨F, h5⟩ := step (sCl (S.2.2.1 5 (32 * r + c)) (S.2.2.2 6 (32 * r + c))) F1 hlen
      refine ⟨F, ?_⟩
      by_cases k9 : 8 < S.2.2.1 5 (32 * r + c)
      · have k9' : ¬ S.2.2.1 5 (32 * r + c) ≤ 8 := Int32.not_le.mpr k9
        rw [if_pos k9] at g1
        by_cases k10 : S.2.2.1 5 (32 * r + c) = 9
        · rw [if_pos k10] at g1
          have g1' : X g 224 123 [.val (va_rf (some mu)), .val (.int i), .val (.int i2), .val (.int (nI r)), .val (.int (nI (32 * r + c)))] [] (mH n kc ks mu (mSp1 (mSp1 T 32) 108)) = _ := g1
          have z8 : ¬ (9 : Int32) = 8 := by decide
          have z9 : ¬ (9 : Int32) ≤ 8 := by decide
          rw [k10] at g1' h5 k5
          rw [k10]
          simp only [x224_45, x224_47, x224_49, x224_50, x224_51, x224_52, x224_55, x224_56, x224_57, x224_58, x224_61, x224_62, x224_64, x224_67, x224_68, x224_71, x224_73, x224_74, x224_76, x224_79, x224_80, x224_82, x224_85, x224_88, x224_89, x224_92, x224_94, x224_95, x224_97, x224_100, x224_101, x224_102, x224_105, x224_107, x224_108, x224_110, x224_113, x224_115, x224_118, x224_120, mf_3, ml_3, mf_5, ml_5, h2, he, h1, rr1, rr2, q1, q2, c222 e (show p < 800 by omega), c222 e1 (show p + 1 < 800 by omega), mSp1_A (show (5 : Nat) ≠ 29 by decide), k5, z8, z9, g1', h5, Option.bind_some, Option.toList_some, Option.toList_none, List.cons_append, List.nil_append, Option.isSome_some, if_true, eq_self, or_true, true_or, xb_01, mcl_cl, not_true_eq_false, not_false_eq_true, if_false]
        · rw [if_neg k10] at g1
          have g1' : X g 224 123 [.val (va_rf (some mu)), .val (.int i), .val (.int i2), .val (.int (nI r)), .val (.int (nI (32 * r + c)))] [] (mH n kc ks mu (mSp1 (mSp1 T 32) 119)) = _ := g1
          simp only [x224_45, x224_47, x224_49, x224_50, x224_51, x224_52, x224_55, x224_56, x224_57, x224_58, x224_61, x224_62, x224_64, x224_67, x224_68, x224_71, x224_73, x224_74, x224_76, x224_79, x224_80, x224_82, x224_85, x224_88, x224_89, x224_92, x224_94, x224_95, x224_97, x224_100, x224_101, x224_102, x224_105, x224_107, x224_108, x224_110, x224_113, x224_115, x224_118, x224_120, mf_3, ml_3, mf_5, ml_5, h2, he, h1, rr1, rr2, q1, q2, c222 e (show p < 800 by omega), c222 e1 (show p + 1 < 800 by omega), mSp1_A (show (5 : Nat) ≠ 29 by decide), k5, k8, k9', k10, g1', h5, Option.bind_some, Option.toList_some, Option.toList_none, List.cons_append, List.nil_append, Option.isSome_some, if_true, eq_self, or_true, true_or, xb_01, mcl_cl, not_true_eq_false, not_false_eq_true, if_false]
      · have k9' : S.2.2.1 5 (32 * r + c) ≤ 8 := Int32.not_lt.mp k9
        rw [if_neg k9] at g1
        have g1' : X g 224 123 [.val (va_rf (some mu)), .val (.int i), .val (.int i2), .val (.int (nI r)), .val (.int (nI (32 * r + c)))] [] (mH n kc ks mu (mSp1 T 32)) = _ := g1
        simp only [x224_45, x224_47, x224_49, x224_50, x224_51, x224_52, x224_55, x224_56, x224_57, x224_58, x224_61, x224_62, x224_64, x224_67, x224_68, x224_71, x224_73, x224_74, x224_76, x224_79, x224_80, x224_82, x224_85, x224_88, x224_89, x224_92, x224_94, x224_95, x224_97, mf_3, ml_3, mf_5, ml_5, h2, he, h1, rr1, rr2, q1, q2, c222 e (show p < 800 by omega), mSp1_A (show (5 : Nat) ≠ 29 by decide), k5, k8, k9', g1', h5, Option.bind_some, Option.toList_some, Option.toList_none, List.cons_append, List.nil_append, Option.isSome_some, if_true, eq_self, or_true, true_or, xb_01, mcl_cl, not_true_eq_false, not_false_eq_true, if_false]
def fSpell (S : MS) (i : Int32) : Int32 × MS := if ¬ sNo S i = 0 then (sNo S i, S) else (nI (sTxt S (mr S (tn i))).length, mSp (msI S 30 0) (sTxt S (mr S (tn i))))
theorem e224 (hz : mZ S) (hK : mK S) (hl : mLt S) : ∃ F, X g 224 0 [.val (va_rf (some mu)), .val (.int i), .unset, .unset, .unset] [] (mH n kc ks mu S) = some (some (.int (fSpell S i).1), mH n kc ks mu (mFg (fSpell S i).2 F)) := by
  unfold fSpell
  by_cases e : sNo S i = 0
  · rw [if_neg (fun z => z e)]
    obtain ⟨s1, s2, e2⟩ := sNo_0 e
    obtain ⟨r1, hr⟩ := mRow_eq e2
    obtain ⟨z1, z2⟩ := mz_eq hz hr
    obtain ⟨k1, k2⟩ := hK (mr S (tn i)) hr
    have kk : S.2.2.1 2 (mr S (tn i)) = nI (tn (S.2.2.1 2 (mr S (tn i)))) := nI_tn k1
    have kk10 : tn (S.2.2.1 2 (mr S (tn i))) < 10 := by
      generalize S.2.2.1 2 (mr S (tn i)) = kx at k1 k2
      unfold tn
      omega
    have hlt := hl _ kk10
    have a1 : xin i 10 = true := by rw [s1]; exact xin_nI s2 (by decide)
    have a2 : i.toNatClampNeg = tn i := by
      have := nI_clamp (lt31 s2 (by decide))
      rw [← s1] at this
      exact this
    have e0 : (msI S 30 0).1 30 = nI 0 := rfl
    have e1' := mSp1_30 (x := sLt.getD (tn (S.2.2.1 2 (mr S (tn i)))) 0) e0
    obtain ⟨F, h1⟩ := l224 (g := g) (n := n) (kc := kc) (ks := ks) (mu := mu) (i := i) hr z1 z2 0 (mz S (mr S (tn i))) 0 (mSp1 (msI S 30 0) (sLt.getD (tn (S.2.2.1 2 (mr S (tn i)))) 0)) 1 (by omega) e1' (by omega) (by
      intro z t h29 _
      rw [mSp1_A h29]
      rfl) rfl
    refine ⟨F, ?_⟩
    rw [Nat.add_zero] at h1
    have h32 : (32 : Int32) * nI (mr S (tn i)) = nI (32 * mr S (tn i)) := pk_mul 32 _
    have hlen : 1 + (sCls (fun c => S.2.2.1 5 (32 * mr S (tn i) + c)) (fun c => S.2.2.2 6 (32 * mr S (tn i) + c)) 0 (mz S (mr S (tn i)))).length = (sTxt S (mr S (tn i))).length := by
      unfold sTxt
      rw [List.length_cons]
      omega
    rw [hlen] at h1
    have hsp : mSp (mSp1 (msI S 30 0) (sLt.getD (tn (S.2.2.1 2 (mr S (tn i)))) 0)) (sCls (fun c => S.2.2.1 5 (32 * mr S (tn i) + c)) (fun c => S.2.2.2 6 (32 * mr S (tn i) + c)) 0 (mz S (mr S (tn i)))) = mSp (msI S 30 0) (sTxt S (mr S (tn i))) := rfl
    rw [hsp] at h1
    have ax1 := xin_nI hr (n := 10) (by decide)
    have ax2 := nI_clamp (lt31 hr (by decide))
    have ay1 := xin_nI kk10 (n := 10) (by decide)
    have ay2 := nI_clamp (lt31 kk10 (by decide))
    have c0 := c222 (g := g) (n := n) (kc := kc) (ks := ks) (mu := mu) (S := msI S 30 0) (x := sLt.getD (tn (S.2.2.1 2 (mr S (tn i)))) 0) e0 (by omega)
    have m32 : (msI S 30 0).2.2.1 32 (tn (S.2.2.1 2 (mr S (tn i)))) = sLt.getD (tn (S.2.2.1 2 (mr S (tn i)))) 0 := hlt
    have m2 : (msI S 30 0).2.2.1 2 (mr S (tn i)) = nI (tn (S.2.2.1 2 (mr S (tn i)))) := kk
    simp only [x224_0, x224_1, x224_2, x224_5, x224_6, x224_7, x224_10, x224_11, x224_12, x224_13, x224_16, x224_17, x224_18, x224_19, x224_20, x224_21, x224_24, x224_25, x224_26, x224_29, x224_30, x224_33, x224_34, x224_35, x224_36, x224_39, x224_41, x224_42, x224_43, e215, e, mf_7, ml_7, a1, a2, r1, mp_30, mf_30, mf_32, ml_32, mf_2, ml_2, ax1, ax2, ay1, ay2, m2, m32, c0, h32, h1, Option.bind_some, Option.toList_some, Option.toList_none, List.cons_append, List.nil_append, Option.isSome_some, if_true, eq_self, or_true, true_or, xb_01, mcl_cl, not_true_eq_false, not_false_eq_true, if_false]
  · rw [if_pos e]
    refine ⟨S.2.2.1 31, ?_⟩
    rw [mFg_self]
    simp only [x224_0, x224_1, x224_2, x224_5, x224_6, x224_7, x224_10, x224_11, x224_12, x224_13, x224_16, x224_17, x224_18, x224_19, x224_20, x224_21, x224_24, x224_25, x224_26, x224_29, x224_30, x224_33, x224_34, x224_35, x224_36, x224_39, x224_41, x224_42, x224_43, e215, e, Option.bind_some, Option.toList_some, Option.toList_none, List.cons_append, List.nil_append, Option.isSome_some, if_true, eq_self, or_true, true_or, xb_01, mcl_cl, not_true_eq_false, not_false_eq_true, if_false]
end M20
