/-! THE REFERENCE's methods, 16: moves -/
section M17
variable {g : xG} {n kc ks mu s w q p r t f o : Nat} {S : MS} {h : xH} {i j k m v x : Int32} {u : Int64} {a : Int32} {b : Int64}
/-- a move, cell by cell: where it stops, on which side, why -/
def mvL (f : Nat → MS → Int32 × Int32 × MS) : Nat → Nat → MS → Int32 × Int32 × Int32 × MS
  | _, 0, S => (0, 0, 0, S)
  | j, d + 1, S => if (f j S).2.1 = 0 then mvL f (j + 1) d (f j S).2.2 else (nI j, (f j S).1, (f j S).2.1, (f j S).2.2)
def fMv (many : Int32) (z : Int32 × Int32 × Int32 × MS) : Int32 × MS := if z.2.2.1 = 0 then (many, mSet z.2.2.2) else (-100 - z.1, mStop z.2.2.2 (tn (z.2.2.2.1 16)) z.1 z.2.1 z.2.2.1)
theorem mvL_go {f : Nat → MS → Int32 × Int32 × MS} {j d : Nat} {y : Int32} {T : MS} (e : f j S = (y, 0, T)) : mvL f j (d + 1) S = mvL f (j + 1) d T := by
  rw [mvL, e, if_pos rfl]
theorem mvL_no {f : Nat → MS → Int32 × Int32 × MS} {j d : Nat} {y z : Int32} {T : MS} (e : f j S = (y, z, T)) (hz : ¬ z = 0) : mvL f j (d + 1) S = (nI j, y, z, T) := by
  rw [mvL, e, if_neg hz]
theorem fMv_0 {y : Int32} : fMv y (0, 0, 0, S) = (y, mSet S) := by
  unfold fMv
  rw [if_pos rfl]
theorem fMv_1 {y i j k : Int32} (hk : ¬ k = 0) : fMv y (i, j, k, S) = (-100 - i, mStop S (tn (S.1 16)) i j k) := by
  unfold fMv
  rw [if_neg hk]
/-- a box put through a window -/
def sPin (S : MS) (w : Nat) (j v a : Int32) : Int32 := if sHas S w j = true then sPutBy S (sSl S w) (sCell S w j) v a else -13
def mPin (S : MS) (w : Nat) (j v a : Int32) (b : Int64) : MS := if sHas S w j = true then mPb S (sSl S w) (sCell S w j) v a b else S
theorem d190 (hw : w < 6) (hO : mOk S) (hp : p < 64) (h : mPd S p) (hb : okb a b) : X g 190 0 [.val (va_rf (some mu)), .val (.int (nI w)), .val (.int j), .val (.int v)] [] (mH n kc ks mu (mIs S a b)) = some (some (.int (sPin S w j v a)), mH n kc ks mu (mIs (mPin S w j v a b) a b)) := by
  rw [c190 (S := mIs S a b) hw hO.2.2.2.1 hO.1 hp (by rw [mIs_1 (by decide)]; exact h.1) hb.1, mPb_eq h.1 hp]
  unfold mPin
  show some (some (Value.int (sPin S w j v a)), mH n kc ks mu (if sHas S w j = true then mIs (mPb S (sSl S w) (sCell S w j) v a b) a b else mIs S a b)) = _
  split
  · rfl
  · rfl
theorem mPin_ok (hO : mOk S) (hb : okb a b) : mOk (mPin S w j v a b) := by
  unfold mPin
  split
  · exact mPb_ok hO hb
  · exact hO
theorem sPin_0 (e : sPin S w j v a = 0) : sHas S w j = true ∧ sPutBy S (sSl S w) (sCell S w j) v a = 0 := by
  unfold sPin at e
  by_cases h : sHas S w j = true
  · rw [if_pos h] at e
    exact ⟨h, e⟩
  · rw [if_neg h] at e
    exact absurd e (by decide)
theorem mPin_no (e : ¬ sPin S w j v a = 0) : mPin S w j v a b = S := by
  unfold sPin at e
  unfold mPin
  by_cases h : sHas S w j = true
  · rw [if_pos h] at e ⊢
    unfold mPb
    rw [if_neg e]
  · rw [if_neg h]
theorem mPin_pd (hO : mOk S) (hb : okb a b) (hp : p < 64) (h : mPd S p) (e : sPin S w j v a = 0) : mPd (mPin S w j v a b) (p + 1) := by
  obtain ⟨h1, h2⟩ := sPin_0 e
  unfold mPin
  rw [if_pos h1]
  exact mPb_pd hO hb hp h h2
theorem mPin_I {z : Nat} (h : z ≠ 16) : (mPin S w j v a b).1 z = S.1 z := by
  unfold mPin
  split
  · exact mPb_I h
  · rfl
theorem mPin_A {z : Nat} (h5 : z ≠ 5) (h13 : z ≠ 13) (h14 : z ≠ 14) (t : Nat) : (mPin S w j v a b).2.2.1 z t = S.2.2.1 z t := by
  unfold mPin
  split
  · exact mPb_A h5 h13 h14 t
  · rfl
theorem mPin_many : sMany (mPin S w j v a b) o = sMany S o := by
  unfold sMany
  rw [mPin_A (by decide) (by decide) (by decide)]
theorem mPin_vw : sVw (mPin S w j v a b) o = sVw S o := by
  unfold sVw
  rw [mPin_A (by decide) (by decide) (by decide)]
theorem mKeep_A {z : Nat} (h4 : z ≠ 4) (h17 : z ≠ 17) (h18 : z ≠ 18) (h20 : z ≠ 20) (h22 : z ≠ 22) (t : Nat) : (mKeep S p).2.2.1 z t = S.2.2.1 z t := by
  have hA : ∀ (T : MS) (A k : Nat), (mKs T p A k).2.2.1 z t = T.2.2.1 z t := by
    intro T A k
    simp [mKs, h4, h17, h18, h20]
  unfold mKeep
  split
  · show (mKs _ p 23 p).2.2.1 z t = _
    have hB : ∀ (T : MS) (x y : Int32), (msA (msI T 23 x) 22 23 y).2.2.1 z t = T.2.2.1 z t := by
      intro T x y
      simp [msA, msI, h22]
    rw [hA, hB]
    exact (mSh_so 23 1 (msI S 23 24)).1.2.2.1 z t h17 h18 h20 h22
  · show (mKs _ p (tn (S.1 24)) p).2.2.1 z t = _
    rw [hA]
    simp only [msA, msI, h22, false_and, if_false]
theorem mSet_A {z : Nat} (h4 : z ≠ 4) (h17 : z ≠ 17) (h18 : z ≠ 18) (h20 : z ≠ 20) (h22 : z ≠ 22) (t : Nat) : (mSet S).2.2.1 z t = S.2.2.1 z t := by
  unfold mSet
  split
  · rfl
  · exact mKeep_A h4 h17 h18 h20 h22 t
theorem mSet_12 (t : Nat) : (mSet S).2.2.1 12 t = S.2.2.1 12 t := mSet_A (by decide) (by decide) (by decide) (by decide) (by decide) t
/-- one cell copied -/
def stC (w o : Nat) (j : Nat) (S : MS) : Int32 × Int32 × MS := if sLook S w (nI j) (sVw S w) = 0 then (1, sPin S o (nI j) (sVw S w) (sLk S w (nI j) (sVw S w)), mPin S o (nI j) (sVw S w) (sLk S w (nI j) (sVw S w)) (sLv S w (nI j) (sVw S w))) else (0, sLook S w (nI j) (sVw S w), S)
theorem l210 {dd : Nat} (hw : w < 6) (ho : o < 6) (h24 : dd ≤ 24) : ∀ d j (S : MS) (s5 : Slot) a b, j + d = sMany S w → mOk S → mPd S j → S.1 24 = nI dd → ∃ a' b', X g 210 10 [.val (va_rf (some mu)), .val (.int (nI w)), .val (.int (nI o)), .val (.int (sVw S w)), .val (.int (nI j)), s5] [] (mH n kc ks mu (mIs S a b)) = some (some (.int (fMv (nI (sMany S w)) (mvL (stC w o) j d S)).1), mH n kc ks mu (mIs (fMv (nI (sMany S w)) (mvL (stC w o) j d S)).2 a' b')) := by
  intro d
  induction d with
  | zero =>
    intro j S s5 a b hj hO hp hd
    obtain ⟨m1, m2⟩ := sMany_eq hO.2.2.2.1 hw
    refine ⟨a, b, ?_⟩
    have h1 : nI (sMany S w) ≤ nI j := nI_le (by omega) (by omega)
    have h2 := d202 (g := g) (n := n) (kc := kc) (ks := ks) (mu := mu) (a := a) (b := b) hd h24 (by omega) hp
    simp only [x210_10, x210_12, x210_13, x210_14, x210_15, x210_18, x210_77, x210_78, x210_81, x210_82, x210_83, x210_84, x210_87, d185_3 hw, mIs3, m1, h1, h2, mSet_12, mvL, fMv_0, Option.bind_some, Option.toList_some, Option.toList_none, List.cons_append, List.nil_append, Option.isSome_some, if_true, eq_self, or_true, true_or, xb_01, mcl_cl, not_true_eq_false, not_false_eq_true, if_false]
  | succ d ih =>
    intro j S s5 a b hj hO hp hd
    obtain ⟨m1, m2⟩ := sMany_eq hO.2.2.2.1 hw
    have h1 : ¬ nI (sMany S w) ≤ nI j := nI_ge (by omega) (by omega)
    obtain ⟨a1, b1, h2, h3⟩ := e189 (g := g) (n := n) (kc := kc) (ks := ks) (mu := mu) (j := nI j) (v := sVw S w) hw hO.2.2.2.1 hO.1 hO.2.1 hO.2.2.1 a b
    by_cases e : sLook S w (nI j) (sVw S w) = 0
    · obtain ⟨ea, eb⟩ := h3 e
      subst ea eb
      have hb := okb_look hO e
      have h4 := d190 (g := g) (n := n) (kc := kc) (ks := ks) (mu := mu) (j := nI j) (v := sVw S w) ho hO (by omega) hp hb
      by_cases e2 : sPin S o (nI j) (sVw S w) (sLk S w (nI j) (sVw S w)) = 0
      · obtain ⟨a2, b2, h5⟩ := ih (j + 1) (mPin S o (nI j) (sVw S w) (sLk S w (nI j) (sVw S w)) (sLv S w (nI j) (sVw S w))) (.val (.int 0)) (sLk S w (nI j) (sVw S w)) (sLv S w (nI j) (sVw S w)) (by rw [mPin_many]; omega) (mPin_ok hO hb) (mPin_pd hO hb (by omega) hp e2) (by rw [mPin_I (by decide)]; exact hd)
        rw [mPin_many, mPin_vw] at h5
        refine ⟨a2, b2, ?_⟩
        rw [mvL_go (f := stC w o) (y := 1) (T := mPin S o (nI j) (sVw S w) (sLk S w (nI j) (sVw S w)) (sLv S w (nI j) (sVw S w))) (by unfold stC; rw [if_pos e, e2])]
        simp only [x210_10, x210_12, x210_13, x210_14, x210_15, x210_18, x210_21, x210_22, x210_23, x210_25, x210_26, x210_29, x210_31, x210_33, x210_36, x210_37, x210_39, x210_40, x210_42, x210_45, x210_46, x210_47, x210_48, x210_50, x210_51, x210_54, x210_56, x210_58, x210_61, x210_62, x210_64, x210_65, x210_67, x210_70, x210_71, d185_3 hw, mIs3, m1, h1, h2, e, h4, e2, Option.bind_some, Option.toList_some, Option.toList_none, List.cons_append, List.nil_append, Option.isSome_some, if_true, eq_self, or_true, true_or, xb_01, mcl_cl, not_true_eq_false, not_false_eq_true, if_false]
        simp only [x210_74, nI_1]
        exact h5
      · refine ⟨sLk S w (nI j) (sVw S w), sLv S w (nI j) (sVw S w), ?_⟩
        rw [mPin_no e2] at h4
        have h5 := d208 (g := g) (n := n) (kc := kc) (ks := ks) (mu := mu) (i := nI j) (j := 1) (k := sPin S o (nI j) (sVw S w) (sLk S w (nI j) (sVw S w))) (a := sLk S w (nI j) (sVw S w)) (b := sLv S w (nI j) (sVw S w)) (p := j) (by omega) hp
        rw [mvL_no (f := stC w o) (y := 1) (z := sPin S o (nI j) (sVw S w) (sLk S w (nI j) (sVw S w))) (T := S) (by unfold stC; rw [if_pos e, mPin_no e2]) e2, fMv_1 e2]
        simp only [x210_10, x210_12, x210_13, x210_14, x210_15, x210_18, x210_21, x210_22, x210_23, x210_25, x210_26, x210_29, x210_31, x210_33, x210_36, x210_37, x210_39, x210_40, x210_42, x210_45, x210_46, x210_47, x210_48, x210_50, x210_51, x210_54, x210_56, x210_58, x210_61, x210_62, x210_64, x210_65, x210_67, x210_70, x210_71, d185_3 hw, mIs3, m1, h1, h2, e, h4, e2, h5, Option.bind_some, Option.toList_some, Option.toList_none, List.cons_append, List.nil_append, Option.isSome_some, if_true, eq_self, or_true, true_or, xb_01, mcl_cl, not_true_eq_false, not_false_eq_true, if_false]
    · refine ⟨a1, b1, ?_⟩
      have h5 := d208 (g := g) (n := n) (kc := kc) (ks := ks) (mu := mu) (i := nI j) (j := 0) (k := sLook S w (nI j) (sVw S w)) (a := a1) (b := b1) (p := j) (by omega) hp
      rw [mvL_no (f := stC w o) (y := 0) (z := sLook S w (nI j) (sVw S w)) (T := S) (by unfold stC; rw [if_neg e]) e, fMv_1 e]
      simp only [x210_10, x210_12, x210_13, x210_14, x210_15, x210_18, x210_21, x210_22, x210_23, x210_25, x210_26, x210_29, x210_31, x210_33, x210_36, x210_37, x210_39, x210_40, x210_42, x210_45, x210_46, x210_47, x210_48, x210_50, x210_51, x210_54, x210_56, x210_58, x210_61, x210_62, x210_64, x210_65, x210_67, x210_70, x210_71, d185_3 hw, mIs3, m1, h1, h2, e, h5, Option.bind_some, Option.toList_some, Option.toList_none, List.cons_append, List.nil_append, Option.isSome_some, if_true, eq_self, or_true, true_or, xb_01, mcl_cl, not_true_eq_false, not_false_eq_true, if_false]
theorem e210 {dd : Nat} (hw : w < 6) (ho : o < 6) (h24 : dd ≤ 24) (hO : mOk S) (hp : mPd S 0) (hd : S.1 24 = nI dd) : ∃ a b, X g 210 0 [.val (va_rf (some mu)), .val (.int (nI w)), .val (.int (nI o)), .unset, .unset, .unset] [] (mH n kc ks mu S) = some (some (.int (fMv (nI (sMany S w)) (mvL (stC w o) 0 (sMany S w) S)).1), mH n kc ks mu (mIs (fMv (nI (sMany S w)) (mvL (stC w o) 0 (sMany S w) S)).2 a b)) := by
  obtain ⟨a, b, h1⟩ := l210 (g := g) (n := n) (kc := kc) (ks := ks) (mu := mu) hw ho h24 (sMany S w) 0 S .unset (S.1 0) (S.2.1 1) (by omega) hO hp hd
  refine ⟨a, b, ?_⟩
  rw [mIs_self] at h1
  have h1' : X g 210 10 [.val (va_rf (some mu)), .val (.int (nI w)), .val (.int (nI o)), .val (.int (S.2.2.1 12 (5 * w + 4))), .val (.int 0), .unset] [] (mH n kc ks mu S) = _ := h1
  simp only [x210_0, x210_1, x210_2, x210_3, x210_6, x210_7, x210_8, d185_4 hw, h1', Option.bind_some, Option.toList_some, Option.toList_none, List.cons_append, List.nil_append, Option.isSome_some, if_true, eq_self, or_true, true_or, xb_01, mcl_cl, not_true_eq_false, not_false_eq_true, if_false]
/-- cells read at once -/
def mRr (S : MS) (A : Nat → Int32) (B : Nat → Int64) (c : Nat) : MS := (S.1, S.2.1, fun q i => if q = 27 ∧ i < c then A i else S.2.2.1 q i, fun q i => if q = 28 ∧ i < c then B i else S.2.2.2 q i)
theorem mRr_0 {A : Nat → Int32} {B : Nat → Int64} : mRr S A B 0 = S := by
  refine Prod.ext rfl (Prod.ext rfl (Prod.ext ?_ ?_))
  · funext q i
    simp [mRr]
  · funext q i
    simp [mRr]
theorem mRr_s {A : Nat → Int32} {B : Nat → Int64} {c : Nat} : msB (msA (mRr S A B c) 27 c (A c)) 28 c (B c) = mRr S A B (c + 1) := by
  refine Prod.ext rfl (Prod.ext rfl (Prod.ext ?_ ?_))
  · funext q i
    simp only [mRr, msA, msB]
    by_cases e : i = c
    · subst e
      by_cases e2 : q = 27
      · simp [e2]
      · simp [e2]
    · have hx : (i < c + 1) = (i < c) := propext (by omega)
      simp only [hx, e, and_false, if_false]
  · funext q i
    simp only [mRr, msA, msB]
    by_cases e : i = c
    · subst e
      by_cases e2 : q = 28
      · simp [e2]
      · simp [e2]
    · have hx : (i < c + 1) = (i < c) := propext (by omega)
      simp only [hx, e, and_false, if_false]
theorem mRr_A {A : Nat → Int32} {B : Nat → Int64} {c z : Nat} (h : z ≠ 27) (t : Nat) : (mRr S A B c).2.2.1 z t = S.2.2.1 z t := by
  simp [mRr, h]
theorem mRr_B {A : Nat → Int32} {B : Nat → Int64} {c z : Nat} (h : z ≠ 28) (t : Nat) : (mRr S A B c).2.2.2 z t = S.2.2.2 z t := by
  simp [mRr, h]
theorem mRr_ok {A : Nat → Int32} {B : Nat → Int64} {c : Nat} (hO : mOk S) : mOk (mRr S A B c) := by
  refine mOk_c hO (mRr_A (by decide)) (mRr_A (by decide)) (mRr_A (by decide)) ?_
  intro q hq
  rw [mRr_A (by decide), mRr_B (by decide)]
  exact okc_self hO hq
theorem mRr_pd {A : Nat → Int32} {B : Nat → Int64} {c : Nat} (h : mPd S p) : mPd (mRr S A B c) p := by
  refine ⟨h.1, fun x hx => ?_⟩
  rw [mRr_A (by decide)]
  exact h.2 x hx
theorem sLook_c {T : MS} (e12 : T.2.2.1 12 = S.2.2.1 12) (e7 : T.2.2.1 7 = S.2.2.1 7) (e2 : T.2.2.1 2 = S.2.2.1 2) (e3 : T.2.2.1 3 = S.2.2.1 3) : sLook T w i v = sLook S w i v := by
  unfold sLook sHas sRead sSl sCell mRow mr mIn
  rw [e12, e7, e2, e3]
theorem mRr_look {A : Nat → Int32} {B : Nat → Int64} {c : Nat} : sLook (mRr S A B c) w i v = sLook S w i v := by
  exact sLook_c (funext (mRr_A (by decide))) (funext (mRr_A (by decide))) (funext (mRr_A (by decide))) (funext (mRr_A (by decide)))
theorem mRr_lk {A : Nat → Int32} {B : Nat → Int64} {c : Nat} : sLk (mRr S A B c) w i v = sLk S w i v := by
  simp only [sLk, sBk, sAt, sSl, sCell, mr, mRr_A (z := 12) (by decide), mRr_A (z := 7) (by decide), mRr_A (z := 5) (by decide)]
theorem mRr_lv {A : Nat → Int32} {B : Nat → Int64} {c : Nat} : sLv (mRr S A B c) w i v = sLv S w i v := by
  simp only [sLv, sBv, sAt, sSl, sCell, mr, mRr_A (z := 12) (by decide), mRr_A (z := 7) (by decide), mRr_A (z := 2) (by decide), mRr_B (z := 6) (by decide)]
/-- one cell read, to be put later -/
def stR (w : Nat) (j : Nat) (S : MS) : Int32 × Int32 × MS := (0, sLook S w (nI j) (sVw S w), S)
/-- a box that was read, put -/
def stP (o : Nat) (v : Int32) (A : Nat → Int32) (B : Nat → Int64) (j : Nat) (S : MS) : Int32 × Int32 × MS := (1, sPin S o (nI j) v (A j), mPin S o (nI j) v (A j) (B j))
theorem l211b {dd : Nat} {A : Nat → Int32} {B : Nat → Int64} (hw : w < 6) (ho : o < 6) (h24 : dd ≤ 24) : ∀ d j (S : MS) (s5 : Slot) a b, j + d = sMany S w → mOk S → mPd S j → S.1 24 = nI dd → (∀ x, x < sMany S w → okb (A x) (B x) ∧ S.2.2.1 27 x = A x ∧ S.2.2.2 28 x = B x) → ∃ a' b', X g 211 77 [.val (va_rf (some mu)), .val (.int (nI w)), .val (.int (nI o)), .val (.int v), .val (.int (nI j)), s5] [] (mH n kc ks mu (mIs S a b)) = some (some (.int (fMv (nI (sMany S w)) (mvL (stP o v A B) j d S)).1), mH n kc ks mu (mIs (fMv (nI (sMany S w)) (mvL (stP o v A B) j d S)).2 a' b')) := by
  intro d
  induction d with
  | zero =>
    intro j S s5 a b hj hO hp hd _
    obtain ⟨m1, m2⟩ := sMany_eq hO.2.2.2.1 hw
    refine ⟨a, b, ?_⟩
    have h1 : nI (sMany S w) ≤ nI j := nI_le (by omega) (by omega)
    have h2 := d202 (g := g) (n := n) (kc := kc) (ks := ks) (mu := mu) (a := a) (b := b) hd h24 (by omega) hp
    simp only [x211_77, x211_79, x211_80, x211_81, x211_82, x211_85, x211_137, x211_138, x211_141, x211_142, x211_143, x211_144, x211_147, d185_3 hw, mIs3, m1, h1, h2, mSet_12, mvL, fMv_0, Option.bind_some, Option.toList_some, Option.toList_none, List.cons_append, List.nil_append, Option.isSome_some, if_true, eq_self, or_true, true_or, xb_01, mcl_cl, not_true_eq_false, not_false_eq_true, if_false]
  | succ d ih =>
    intro j S s5 a b hj hO hp hd hx
    obtain ⟨m1, m2⟩ := sMany_eq hO.2.2.2.1 hw
    have h1 : ¬ nI (sMany S w) ≤ nI j := nI_ge (by omega) (by omega)
    obtain ⟨hb, y1, y2⟩ := hx j (by omega)
    have j32 : j < 32 := by omega
    have h4 := d190 (g := g) (n := n) (kc := kc) (ks := ks) (mu := mu) (j := nI j) (v := v) ho hO (by omega) hp hb
    by_cases e2 : sPin S o (nI j) v (A j) = 0
    · obtain ⟨a2, b2, h5⟩ := ih (j + 1) (mPin S o (nI j) v (A j) (B j)) (.val (.int 0)) (A j) (B j) (by rw [mPin_many]; omega) (mPin_ok hO hb) (mPin_pd hO hb (by omega) hp e2) (by rw [mPin_I (by decide)]; exact hd) (by
        intro x hx'
        rw [mPin_many] at hx'
        obtain ⟨z1, z2, z3⟩ := hx x hx'
        refine ⟨z1, ?_, ?_⟩
        · rw [mPin_A (by decide) (by decide) (by decide), z2]
        · rw [← z3]
          unfold mPin mPb
          split
          · split
            · simp [mPut, mNote, msA, msB, msI]
            · rfl
          · rfl)
      rw [mPin_many] at h5
      refine ⟨a2, b2, ?_⟩
      rw [mvL_go (f := stP o v A B) (y := 1) (T := mPin S o (nI j) v (A j) (B j)) (by unfold stP; rw [e2])]
      simp only [x211_77, x211_79, x211_80, x211_81, x211_82, x211_85, x211_88, x211_89, x211_90, x211_93, x211_95, x211_96, x211_97, x211_100, x211_102, x211_103, x211_106, x211_107, x211_108, x211_110, x211_111, x211_114, x211_116, x211_118, x211_121, x211_122, x211_124, x211_125, x211_127, x211_130, x211_131, d185_3 hw, mf_27, ml_27, mf_28, ml_28, xin_nI j32 (by decide), nI_clamp (lt31 j32 (by decide)), mIs3, mIs4, m1, h1, y1, y2, c155', mIs_mIs, h4, e2, Option.bind_some, Option.toList_some, Option.toList_none, List.cons_append, List.nil_append, Option.isSome_some, if_true, eq_self, or_true, true_or, xb_01, mcl_cl, not_true_eq_false, not_false_eq_true, if_false]
      simp only [x211_134, nI_1]
      exact h5
    · refine ⟨A j, B j, ?_⟩
      rw [mPin_no e2] at h4
      have h5 := d208 (g := g) (n := n) (kc := kc) (ks := ks) (mu := mu) (i := nI j) (j := 1) (k := sPin S o (nI j) v (A j)) (a := A j) (b := B j) (p := j) (by omega) hp
      rw [mvL_no (f := stP o v A B) (y := 1) (z := sPin S o (nI j) v (A j)) (T := S) (by unfold stP; rw [mPin_no e2]) e2, fMv_1 e2]
      simp only [x211_77, x211_79, x211_80, x211_81, x211_82, x211_85, x211_88, x211_89, x211_90, x211_93, x211_95, x211_96, x211_97, x211_100, x211_102, x211_103, x211_106, x211_107, x211_108, x211_110, x211_111, x211_114, x211_116, x211_118, x211_121, x211_122, x211_124, x211_125, x211_127, x211_130, x211_131, d185_3 hw, mf_27, ml_27, mf_28, ml_28, xin_nI j32 (by decide), nI_clamp (lt31 j32 (by decide)), mIs3, mIs4, m1, h1, y1, y2, c155', mIs_mIs, h4, e2, h5, Option.bind_some, Option.toList_some, Option.toList_none, List.cons_append, List.nil_append, Option.isSome_some, if_true, eq_self, or_true, true_or, xb_01, mcl_cl, not_true_eq_false, not_false_eq_true, if_false]
/-- all cells read, then all put -/
def fCpA (S : MS) (w o : Nat) : Int32 × MS := if (mvL (stR w) 0 (sMany S w) S).2.2.1 = 0 then fMv (nI (sMany S w)) (mvL (stP o (sVw S w) (fun j => sLk S w (nI j) (sVw S w)) (fun j => sLv S w (nI j) (sVw S w))) 0 (sMany S w) (mRr S (fun j => sLk S w (nI j) (sVw S w)) (fun j => sLv S w (nI j) (sVw S w)) (sMany S w))) else (-100 - (mvL (stR w) 0 (sMany S w) S).1, mStop (mRr S (fun j => sLk S w (nI j) (sVw S w)) (fun j => sLv S w (nI j) (sVw S w)) (tn (mvL (stR w) 0 (sMany S w) S).1)) 0 (mvL (stR w) 0 (sMany S w) S).1 (mvL (stR w) 0 (sMany S w) S).2.1 (mvL (stR w) 0 (sMany S w) S).2.2.1)
theorem l211a (hw : w < 6) (hO : mOk S) (hp : mPd S 0) : ∀ d j (s5 : Slot) a b, j + d = sMany S w → (∀ x, x < j → sLook S w (nI x) (sVw S w) = 0) → (∃ a' b' s5', X g 211 10 [.val (va_rf (some mu)), .val (.int (nI w)), .val (.int (nI o)), .val (.int (sVw S w)), .val (.int (nI j)), s5] [] (mH n kc ks mu (mIs (mRr S (fun j => sLk S w (nI j) (sVw S w)) (fun j => sLv S w (nI j) (sVw S w)) j) a b)) = (if (mvL (stR w) j d S).2.2.1 = 0 then X g 211 77 [.val (va_rf (some mu)), .val (.int (nI w)), .val (.int (nI o)), .val (.int (sVw S w)), .val (.int 0), s5'] [] (mH n kc ks mu (mIs (mRr S (fun j => sLk S w (nI j) (sVw S w)) (fun j => sLv S w (nI j) (sVw S w)) (sMany S w)) a' b')) else some (some (.int (-100 - (mvL (stR w) j d S).1)), mH n kc ks mu (mIs (mStop (mRr S (fun j => sLk S w (nI j) (sVw S w)) (fun j => sLv S w (nI j) (sVw S w)) (tn (mvL (stR w) j d S).1)) 0 (mvL (stR w) j d S).1 (mvL (stR w) j d S).2.1 (mvL (stR w) j d S).2.2.1) a' b')))) ∧ ((mvL (stR w) j d S).2.2.1 = 0 → ∀ x, x < sMany S w → sLook S w (nI x) (sVw S w) = 0) := by
  obtain ⟨m1, m2⟩ := sMany_eq hO.2.2.2.1 hw
  have m1' : ∀ A B c, (mRr S A B c).2.2.1 12 (5 * w + 3) = nI (sMany S w) := fun A B c => by rw [mRr_A (by decide), m1]
  intro d
  induction d with
  | zero =>
    intro j s5 a b hj hx
    have e : j = sMany S w := by omega
    refine ⟨⟨a, b, s5, ?_⟩, fun _ => by rw [← e]; exact hx⟩
    have h1 : nI (sMany S w) ≤ nI j := nI_le (by omega) (by omega)
    rw [mvL, if_pos rfl, ← e]
    rw [← e] at m1' h1
    simp only [x211_10, x211_12, x211_13, x211_14, x211_15, x211_18, x211_74, x211_75, d185_3 hw, mIs3, m1', h1, Option.bind_some, Option.toList_some, Option.toList_none, List.cons_append, List.nil_append, Option.isSome_some, if_true, eq_self, or_true, true_or, xb_01, mcl_cl, not_true_eq_false, not_false_eq_true, if_false]
  | succ d ih =>
    intro j s5 a b hj hx
    have h1 : ¬ nI (sMany S w) ≤ nI j := nI_ge (by omega) (by omega)
    have j32 : j < 32 := by omega
    obtain ⟨a1, b1, h2, h3⟩ := e189 (g := g) (n := n) (kc := kc) (ks := ks) (mu := mu) (S := mRr S (fun j => sLk S w (nI j) (sVw S w)) (fun j => sLv S w (nI j) (sVw S w)) j) (j := nI j) (v := sVw S w) hw (mRr_ok hO).2.2.2.1 (mRr_ok hO).1 (mRr_ok hO).2.1 (mRr_ok hO).2.2.1 a b
    rw [mRr_look] at h2 h3
    rw [mRr_lk, mRr_lv] at h3
    by_cases e : sLook S w (nI j) (sVw S w) = 0
    · obtain ⟨ea, eb⟩ := h3 e
      subst ea eb
      have hg : mvL (stR w) j (d + 1) S = mvL (stR w) (j + 1) d S := mvL_go (y := 0) (by unfold stR; rw [e])
      rw [hg]
      obtain ⟨⟨a2, b2, s6, h5⟩, h6⟩ := ih (j + 1) (.val (.int 0)) (sLk S w (nI j) (sVw S w)) (sLv S w (nI j) (sVw S w)) (by omega) (by
        intro x hx'
        by_cases z : x = j
        · rw [z]; exact e
        · exact hx x (by omega))
      refine ⟨⟨a2, b2, s6, ?_⟩, h6⟩
      rw [← mRr_s] at h5
      simp only [x211_10, x211_12, x211_13, x211_14, x211_15, x211_18, x211_21, x211_22, x211_23, x211_25, x211_26, x211_29, x211_31, x211_33, x211_36, x211_37, x211_39, x211_40, x211_42, x211_45, x211_46, x211_47, x211_50, x211_52, x211_53, x211_56, x211_57, x211_58, x211_61, x211_63, x211_64, x211_67, x211_68, d185_3 hw, mf_27, ms_27, mf_28, ms_28, mf_0, mf_1, xin_nI j32 (by decide), nI_clamp (lt31 j32 (by decide)), mIs1, mIs2, mIs3, m1', h1, h2, e, msA1, msA2, msA3, msA4, msB1, msB2, msB3, msB4, msI1, msI2, msI3, msI4, msL1, msL2, msL3, msL4, Nat.reduceEqDiff, false_and, true_and, and_false, and_true, and_self, Option.bind_some, Option.toList_some, Option.toList_none, List.cons_append, List.nil_append, Option.isSome_some, if_true, eq_self, or_true, true_or, xb_01, mcl_cl, not_true_eq_false, not_false_eq_true, if_false]
      simp only [x211_71, nI_1]
      exact h5
    · have hg : mvL (stR w) j (d + 1) S = (nI j, 0, sLook S w (nI j) (sVw S w), S) := mvL_no rfl e
      rw [hg]
      refine ⟨⟨a1, b1, s5, ?_⟩, fun z => absurd z e⟩
      have h5 := d208 (g := g) (n := n) (kc := kc) (ks := ks) (mu := mu) (i := nI j) (j := 0) (k := sLook S w (nI j) (sVw S w)) (a := a1) (b := b1) (p := 0) (S := mRr S (fun j => sLk S w (nI j) (sVw S w)) (fun j => sLv S w (nI j) (sVw S w)) j) (by omega) (mRr_pd hp)
      have e16 : tn ((mRr S (fun j => sLk S w (nI j) (sVw S w)) (fun j => sLv S w (nI j) (sVw S w)) j).1 16) = 0 := by
        show tn (S.1 16) = 0
        rw [hp.1]
        rfl
      rw [e16] at h5
      simp only [x211_10, x211_12, x211_13, x211_14, x211_15, x211_18, x211_21, x211_22, x211_23, x211_25, x211_26, x211_29, x211_31, x211_33, x211_36, x211_37, x211_39, x211_40, x211_42, x211_45, x211_46, x211_47, x211_50, x211_52, x211_53, x211_56, x211_57, x211_58, x211_61, x211_63, x211_64, x211_67, x211_68, d185_3 hw, mIs3, m1', h1, h2, e, h5, tn_nI (show j < 2 ^ 31 by omega), Option.bind_some, Option.toList_some, Option.toList_none, List.cons_append, List.nil_append, Option.isSome_some, if_true, eq_self, or_true, true_or, xb_01, mcl_cl, not_true_eq_false, not_false_eq_true, if_false]
theorem e211 {dd : Nat} (hw : w < 6) (ho : o < 6) (h24 : dd ≤ 24) (hO : mOk S) (hp : mPd S 0) (hd : S.1 24 = nI dd) : ∃ a b, X g 211 0 [.val (va_rf (some mu)), .val (.int (nI w)), .val (.int (nI o)), .unset, .unset, .unset] [] (mH n kc ks mu S) = some (some (.int (fCpA S w o).1), mH n kc ks mu (mIs (fCpA S w o).2 a b)) := by
  obtain ⟨m1, m2⟩ := sMany_eq hO.2.2.2.1 hw
  obtain ⟨⟨a, b, s5, h1⟩, h2⟩ := l211a (g := g) (n := n) (kc := kc) (ks := ks) (mu := mu) (o := o) hw hO hp (sMany S w) 0 .unset (S.1 0) (S.2.1 1) (by omega) (fun x hx => absurd hx (by omega))
  rw [mRr_0, mIs_self] at h1
  have h1' : X g 211 10 [.val (va_rf (some mu)), .val (.int (nI w)), .val (.int (nI o)), .val (.int (S.2.2.1 12 (5 * w + 4))), .val (.int 0), .unset] [] (mH n kc ks mu S) = _ := h1
  unfold fCpA
  by_cases e : (mvL (stR w) 0 (sMany S w) S).2.2.1 = 0
  · rw [if_pos e]
    simp only [if_pos e] at h1'
    have em : ∀ c, sMany (mRr S (fun j => sLk S w (nI j) (sVw S w)) (fun j => sLv S w (nI j) (sVw S w)) c) w = sMany S w := fun c => by
      unfold sMany
      rw [mRr_A (by decide)]
    obtain ⟨a2, b2, h3⟩ := l211b (g := g) (n := n) (kc := kc) (ks := ks) (mu := mu) (v := sVw S w) (A := fun j => sLk S w (nI j) (sVw S w)) (B := fun j => sLv S w (nI j) (sVw S w)) hw ho h24 (sMany S w) 0 (mRr S (fun j => sLk S w (nI j) (sVw S w)) (fun j => sLv S w (nI j) (sVw S w)) (sMany S w)) s5 a b (by rw [em]; omega) (mRr_ok hO) (mRr_pd hp) hd (by
      intro x hx
      rw [em] at hx
      refine ⟨okb_look hO (h2 e x hx), ?_, ?_⟩
      · simp [mRr, hx]
      · simp [mRr, hx])
    rw [em] at h3
    have h3' : X g 211 77 [.val (va_rf (some mu)), .val (.int (nI w)), .val (.int (nI o)), .val (.int (sVw S w)), .val (.int 0), s5] [] (mH n kc ks mu (mIs (mRr S (fun j => sLk S w (nI j) (sVw S w)) (fun j => sLv S w (nI j) (sVw S w)) (sMany S w)) a b)) = _ := h3
    refine ⟨a2, b2, ?_⟩
    simp only [x211_0, x211_1, x211_2, x211_3, x211_6, x211_7, x211_8, d185_4 hw, h1', h3', Option.bind_some, Option.toList_some, Option.toList_none, List.cons_append, List.nil_append, Option.isSome_some, if_true, eq_self, or_true, true_or, xb_01, mcl_cl, not_true_eq_false, not_false_eq_true, if_false]
  · rw [if_neg e]
    simp only [if_neg e] at h1'
    refine ⟨a, b, ?_⟩
    simp only [x211_0, x211_1, x211_2, x211_3, x211_6, x211_7, x211_8, d185_4 hw, h1', Option.bind_some, Option.toList_some, Option.toList_none, List.cons_append, List.nil_append, Option.isSome_some, if_true, eq_self, or_true, true_or, xb_01, mcl_cl, not_true_eq_false, not_false_eq_true, if_false]
def fCopy (S : MS) (i j k : Int32) : Int32 × MS := if mSl i = false then (-1, S) else if mSl j = false then (-1, S) else if mWithin k.toInt 0 1 = false then (-1, S) else if k = 0 then fMv (nI (sMany S (tn i))) (mvL (stC (tn i) (tn j)) 0 (sMany S (tn i)) (msI S 16 0)) else fCpA (msI S 16 0) (tn i) (tn j)
theorem mPd_0 : mPd (msI S 16 0) 0 := ⟨rfl, fun x hx => absurd hx (by omega)⟩
theorem e212 {dd : Nat} (hd : S.1 24 = nI dd) (h24 : dd ≤ 24) (hO : mOk S) : ∃ a b, X g 212 0 [.val (va_rf (some mu)), .val (.int i), .val (.int j), .val (.int k)] [] (mH n kc ks mu S) = some (some (.int (fCopy S i j k).1), mH n kc ks mu (mIs (fCopy S i j k).2 a b)) := by
  unfold fCopy
  by_cases e1 : mSl i = false
  · rw [if_pos e1]
    refine ⟨S.1 0, S.2.1 1, ?_⟩
    rw [mIs_self]
    simp only [x212_0, x212_1, x212_4, x212_7, x212_8, x212_11, x212_14, x212_15, x212_16, x212_17, x212_18, x212_21, x212_24, x212_25, x212_26, x212_27, x212_30, x212_31, x212_34, x212_35, x212_36, x212_37, x212_40, x212_43, x212_44, x212_45, x212_46, x212_49, c184', e1, xb_f, Option.bind_some, Option.toList_some, Option.toList_none, List.cons_append, List.nil_append, Option.isSome_some, if_true, eq_self, or_true, true_or, xb_01, mcl_cl, not_true_eq_false, not_false_eq_true, if_false]
  · rw [if_neg e1]
    have e1 : mSl i = true := by simpa using e1
    obtain ⟨e2, e3⟩ := mSl_eq e1
    by_cases f1 : mSl j = false
    · rw [if_pos f1]
      refine ⟨S.1 0, S.2.1 1, ?_⟩
      rw [mIs_self]
      simp only [x212_0, x212_1, x212_4, x212_7, x212_8, x212_11, x212_14, x212_15, x212_16, x212_17, x212_18, x212_21, x212_24, x212_25, x212_26, x212_27, x212_30, x212_31, x212_34, x212_35, x212_36, x212_37, x212_40, x212_43, x212_44, x212_45, x212_46, x212_49, c184', e1, f1, xb_t, xb_f, i32_10, Option.bind_some, Option.toList_some, Option.toList_none, List.cons_append, List.nil_append, Option.isSome_some, if_true, eq_self, or_true, true_or, xb_01, mcl_cl, not_true_eq_false, not_false_eq_true, if_false]
    · rw [if_neg f1]
      have f1 : mSl j = true := by simpa using f1
      obtain ⟨f2, f3⟩ := mSl_eq f1
      by_cases e4 : mWithin k.toInt 0 1 = false
      · have e7 : mWithin k.toInt (Int64.toInt 0) (Int64.toInt 1) = false := e4
        rw [if_pos e4]
        refine ⟨S.1 0, S.2.1 1, ?_⟩
        rw [mIs_self]
        simp only [x212_0, x212_1, x212_4, x212_7, x212_8, x212_11, x212_14, x212_15, x212_16, x212_17, x212_18, x212_21, x212_24, x212_25, x212_26, x212_27, x212_30, x212_31, x212_34, x212_35, x212_36, x212_37, x212_40, x212_43, x212_44, x212_45, x212_46, x212_49, c184', c154, e1, f1, e7, i32_64, xb_t, xb_f, i32_10, Option.bind_some, Option.toList_some, Option.toList_none, List.cons_append, List.nil_append, Option.isSome_some, if_true, eq_self, or_true, true_or, xb_01, mcl_cl, not_true_eq_false, not_false_eq_true, if_false]
      · rw [if_neg e4]
        have e4 : mWithin k.toInt 0 1 = true := by simpa using e4
        have e7 : mWithin k.toInt (Int64.toInt 0) (Int64.toInt 1) = true := e4
        by_cases e5 : k = 0
        · rw [if_pos e5]
          obtain ⟨a, b, h1⟩ := e210 (g := g) (n := n) (kc := kc) (ks := ks) (mu := mu) (S := msI S 16 0) e3 f3 h24 hO mPd_0 hd
          refine ⟨a, b, ?_⟩
          rw [← e2, ← f2] at h1
          subst e5
          have h1' : X g 210 0 [.val (va_rf (some mu)), .val (.int i), .val (.int j), .unset, .unset, .unset] [] (mH n kc ks mu (msI S 16 0)) = some (some (.int (fMv (nI (sMany S (tn i))) (mvL (stC (tn i) (tn j)) 0 (sMany S (tn i)) (msI S 16 0))).1), mH n kc ks mu (mIs (fMv (nI (sMany S (tn i))) (mvL (stC (tn i) (tn j)) 0 (sMany S (tn i)) (msI S 16 0))).2 a b)) := h1
          simp only [x212_0, x212_1, x212_4, x212_7, x212_8, x212_11, x212_14, x212_15, x212_16, x212_17, x212_18, x212_21, x212_24, x212_25, x212_26, x212_27, x212_30, x212_31, x212_34, x212_35, x212_36, x212_37, x212_40, x212_43, x212_44, x212_45, x212_46, x212_49, c184', c154, c199, e1, f1, e7, i32_64, xb_t, i32_10, h1', Option.bind_some, Option.toList_some, Option.toList_none, List.cons_append, List.nil_append, Option.isSome_some, if_true, eq_self, or_true, true_or, xb_01, mcl_cl, not_true_eq_false, not_false_eq_true, if_false]
        · rw [if_neg e5]
          obtain ⟨a, b, h1⟩ := e211 (g := g) (n := n) (kc := kc) (ks := ks) (mu := mu) (S := msI S 16 0) e3 f3 h24 hO mPd_0 hd
          refine ⟨a, b, ?_⟩
          rw [← e2, ← f2] at h1
          simp only [x212_0, x212_1, x212_4, x212_7, x212_8, x212_11, x212_14, x212_15, x212_16, x212_17, x212_18, x212_21, x212_24, x212_25, x212_26, x212_27, x212_30, x212_31, x212_34, x212_35, x212_36, x212_37, x212_40, x212_43, x212_44, x212_45, x212_46, x212_49, c184', c154, c199, e1, f1, e7, e5, i32_64, xb_t, i32_10, h1, Option.bind_some, Option.toList_some, Option.toList_none, List.cons_append, List.nil_append, Option.isSome_some, if_true, eq_self, or_true, true_or, xb_01, mcl_cl, not_true_eq_false, not_false_eq_true, if_false]
/-- one cell filled -/
def stF (w : Nat) (a : Int32) (b : Int64) (j : Nat) (S : MS) : Int32 × Int32 × MS := (1, sPin S w (nI j) 8 a, mPin S w (nI j) 8 a b)
theorem l214 {dd : Nat} (hw : w < 6) (h24 : dd ≤ 24) (hb : okb a b) : ∀ d j (S : MS) (s6 : Slot), j + d = sMany S w → mOk S → mPd S j → S.1 24 = nI dd → X g 214 45 [.val (va_rf (some mu)), .val (.int (nI w)), .val (.int k), .val (.long u), .second, .val (.int (nI j)), s6] [] (mH n kc ks mu (mIs S a b)) = some (some (.int (fMv (nI (sMany S w)) (mvL (stF w a b) j d S)).1), mH n kc ks mu (mIs (fMv (nI (sMany S w)) (mvL (stF w a b) j d S)).2 a b)) := by
  intro d
  induction d with
  | zero =>
    intro j S s6 hj hO hp hd
    obtain ⟨m1, m2⟩ := sMany_eq hO.2.2.2.1 hw
    have h1 : nI (sMany S w) ≤ nI j := nI_le (by omega) (by omega)
    have h2 := d202 (g := g) (n := n) (kc := kc) (ks := ks) (mu := mu) (a := a) (b := b) hd h24 (by omega) hp
    simp only [x214_45, x214_47, x214_48, x214_49, x214_50, x214_53, x214_88, x214_89, x214_92, x214_93, x214_94, x214_95, x214_98, d185_3 hw, mIs3, m1, h1, h2, mSet_12, mvL, fMv_0, Option.bind_some, Option.toList_some, Option.toList_none, List.cons_append, List.nil_append, Option.isSome_some, if_true, eq_self, or_true, true_or, xb_01, mcl_cl, not_true_eq_false, not_false_eq_true, if_false]
  | succ d ih =>
    intro j S s6 hj hO hp hd
    obtain ⟨m1, m2⟩ := sMany_eq hO.2.2.2.1 hw
    have h1 : ¬ nI (sMany S w) ≤ nI j := nI_ge (by omega) (by omega)
    have h4 := d190 (g := g) (n := n) (kc := kc) (ks := ks) (mu := mu) (j := nI j) (v := 8) hw hO (by omega) hp hb
    by_cases e2 : sPin S w (nI j) 8 a = 0
    · have h5 := ih (j + 1) (mPin S w (nI j) 8 a b) (.val (.int 0)) (by rw [mPin_many]; omega) (mPin_ok hO hb) (mPin_pd hO hb (by omega) hp e2) (by rw [mPin_I (by decide)]; exact hd)
      rw [mPin_many] at h5
      rw [mvL_go (f := stF w a b) (y := 1) (T := mPin S w (nI j) 8 a b) (by unfold stF; rw [e2])]
      simp only [x214_45, x214_47, x214_48, x214_49, x214_50, x214_53, x214_56, x214_57, x214_58, x214_60, x214_62, x214_65, x214_67, x214_69, x214_72, x214_73, x214_75, x214_76, x214_78, x214_81, x214_82, d185_3 hw, mIs3, m1, h1, h4, e2, Option.bind_some, Option.toList_some, Option.toList_none, List.cons_append, List.nil_append, Option.isSome_some, if_true, eq_self, or_true, true_or, xb_01, mcl_cl, not_true_eq_false, not_false_eq_true, if_false]
      simp only [x214_85, nI_1]
      exact h5
    · rw [mPin_no e2] at h4
      have h5 := d208 (g := g) (n := n) (kc := kc) (ks := ks) (mu := mu) (i := nI j) (j := 1) (k := sPin S w (nI j) 8 a) (a := a) (b := b) (p := j) (by omega) hp
      rw [mvL_no (f := stF w a b) (y := 1) (z := sPin S w (nI j) 8 a) (T := S) (by unfold stF; rw [mPin_no e2]) e2, fMv_1 e2]
      simp only [x214_45, x214_47, x214_48, x214_49, x214_50, x214_53, x214_56, x214_57, x214_58, x214_60, x214_62, x214_65, x214_67, x214_69, x214_72, x214_73, x214_75, x214_76, x214_78, x214_81, x214_82, d185_3 hw, mIs3, m1, h1, h4, e2, h5, Option.bind_some, Option.toList_some, Option.toList_none, List.cons_append, List.nil_append, Option.isSome_some, if_true, eq_self, or_true, true_or, xb_01, mcl_cl, not_true_eq_false, not_false_eq_true, if_false]
def fFill (S : MS) (i k : Int32) (u : Int64) : Int32 × MS := if mSl i = false then (-1, S) else if mWithin k.toInt 0 10 = false then (-1, S) else if mNone k u = true then (-2, S) else fMv (nI (sMany S (tn i))) (mvL (stF (tn i) k (pBy k u)) 0 (sMany S (tn i)) (msI S 16 0))
theorem e214 {dd : Nat} (hd : S.1 24 = nI dd) (h24 : dd ≤ 24) (hO : mOk S) : ∃ a b, X g 214 0 [.val (va_rf (some mu)), .val (.int i), .val (.int k), .val (.long u), .second, .unset, .unset] [] (mH n kc ks mu S) = some (some (.int (fFill S i k u).1), mH n kc ks mu (mIs (fFill S i k u).2 a b)) := by
  unfold fFill
  by_cases e1 : mSl i = false
  · rw [if_pos e1]
    refine ⟨S.1 0, S.2.1 1, ?_⟩
    rw [mIs_self]
    simp only [x214_0, x214_1, x214_4, x214_7, x214_8, x214_9, x214_10, x214_13, x214_16, x214_19, x214_20, x214_21, x214_22, x214_23, x214_26, x214_29, x214_31, x214_32, x214_33, x214_34, x214_35, x214_38, x214_39, x214_42, x214_43, c184', e1, xb_f, Option.bind_some, Option.toList_some, Option.toList_none, List.cons_append, List.nil_append, Option.isSome_some, if_true, eq_self, or_true, true_or, xb_01, mcl_cl, not_true_eq_false, not_false_eq_true, if_false]
  · rw [if_neg e1]
    have e1 : mSl i = true := by simpa using e1
    obtain ⟨e2, e3⟩ := mSl_eq e1
    by_cases e4 : mWithin k.toInt 0 10 = false
    · have e7 : mWithin k.toInt (Int64.toInt 0) (Int64.toInt 10) = false := e4
      rw [if_pos e4]
      refine ⟨S.1 0, S.2.1 1, ?_⟩
      rw [mIs_self]
      simp only [x214_0, x214_1, x214_4, x214_7, x214_8, x214_9, x214_10, x214_13, x214_16, x214_19, x214_20, x214_21, x214_22, x214_23, x214_26, x214_29, x214_31, x214_32, x214_33, x214_34, x214_35, x214_38, x214_39, x214_42, x214_43, c184', c154, e1, e7, i32_64, xb_f, xb_t, i32_10, Option.bind_some, Option.toList_some, Option.toList_none, List.cons_append, List.nil_append, Option.isSome_some, if_true, eq_self, or_true, true_or, xb_01, mcl_cl, not_true_eq_false, not_false_eq_true, if_false]
    · rw [if_neg e4]
      have e4 : mWithin k.toInt 0 10 = true := by simpa using e4
      have e7 : mWithin k.toInt (Int64.toInt 0) (Int64.toInt 10) = true := e4
      by_cases e5 : mNone k u = true
      · rw [if_pos e5]
        refine ⟨S.1 0, S.2.1 1, ?_⟩
        rw [mIs_self]
        simp only [x214_0, x214_1, x214_4, x214_7, x214_8, x214_9, x214_10, x214_13, x214_16, x214_19, x214_20, x214_21, x214_22, x214_23, x214_26, x214_29, x214_31, x214_32, x214_33, x214_34, x214_35, x214_38, x214_39, x214_42, x214_43, c184', c154, c156, e1, e5, i32_64, e7, xb_f, xb_t, i32_10, Option.bind_some, Option.toList_some, Option.toList_none, List.cons_append, List.nil_append, Option.isSome_some, if_true, eq_self, or_true, true_or, xb_01, mcl_cl, not_true_eq_false, not_false_eq_true, if_false]
      · rw [if_neg e5]
        have e5 : mNone k u = false := by simpa using e5
        have h1 := l214 (g := g) (n := n) (kc := kc) (ks := ks) (mu := mu) (k := k) (u := u) (a := k) (b := pBy k u) (w := tn i) e3 h24 (okb_by (mWithin_iff.mp e4).1 (mWithin_iff.mp e4).2 e5) (sMany S (tn i)) 0 (msI S 16 0) .unset (by
          have : sMany (msI S 16 0) (tn i) = sMany S (tn i) := rfl
          omega) hO mPd_0 hd
        rw [← e2] at h1
        have h1' : X g 214 45 [.val (va_rf (some mu)), .val (.int i), .val (.int k), .val (.long u), .second, .val (.int 0), .unset] [] (mH n kc ks mu (mIs (msI S 16 0) k (pBy k u))) = some (some (.int (fMv (nI (sMany S (tn i))) (mvL (stF (tn i) k (pBy k u)) 0 (sMany S (tn i)) (msI S 16 0))).1), mH n kc ks mu (mIs (fMv (nI (sMany S (tn i))) (mvL (stF (tn i) k (pBy k u)) 0 (sMany S (tn i)) (msI S 16 0))).2 k (pBy k u))) := h1
        refine ⟨k, pBy k u, ?_⟩
        simp only [x214_0, x214_1, x214_4, x214_7, x214_8, x214_9, x214_10, x214_13, x214_16, x214_19, x214_20, x214_21, x214_22, x214_23, x214_26, x214_29, x214_31, x214_32, x214_33, x214_34, x214_35, x214_38, x214_39, x214_42, x214_43, c184', c154, c156, c199, e1, e5, i32_64, e7, xb_t, xb_f, i32_10, d157, msI_is (q := 16) (S := S) (by decide), h1', Option.bind_some, Option.toList_some, Option.toList_none, List.cons_append, List.nil_append, Option.isSome_some, if_true, eq_self, or_true, true_or, xb_01, mcl_cl, not_true_eq_false, not_false_eq_true, if_false]
/-- one pair of cells swapped -/
def stS (w o : Nat) (j : Nat) (S : MS) : Int32 × Int32 × MS := if ¬ sLook S w (nI j) 8 = 0 then (0, sLook S w (nI j) 8, S) else if ¬ sLook S o (nI j) 8 = 0 then (1, sLook S o (nI j) 8, S) else if ¬ sPin S o (nI j) 8 (sLk S w (nI j) 8) = 0 then (2, sPin S o (nI j) 8 (sLk S w (nI j) 8), S) else (3, sPin (mPin S o (nI j) 8 (sLk S w (nI j) 8) (sLv S w (nI j) 8)) w (nI j) 8 (sLk S o (nI j) 8), mPin (mPin S o (nI j) 8 (sLk S w (nI j) 8) (sLv S w (nI j) 8)) w (nI j) 8 (sLk S o (nI j) 8) (sLv S o (nI j) 8))
theorem l213 {dd : Nat} (hw : w < 6) (ho : o < 6) (h24 : dd ≤ 24) : ∀ d j (S : MS) (s4 s5 s6 s7 s8 s9 s10 : Slot) a b, j + d = sMany S w → mOk S → mPd S (2 * j) → S.1 24 = nI dd → ∃ a' b', X g 213 22 [.val (va_rf (some mu)), .val (.int (nI w)), .val (.int (nI o)), .val (.int (nI j)), s4, s5, s6, s7, s8, s9, s10] [] (mH n kc ks mu (mIs S a b)) = some (some (.int (fMv (nI (sMany S w)) (mvL (stS w o) j d S)).1), mH n kc ks mu (mIs (fMv (nI (sMany S w)) (mvL (stS w o) j d S)).2 a' b')) := by
  intro d
  induction d with
  | zero =>
    intro j S s4 s5 s6 s7 s8 s9 s10 a b hj hO hp hd
    obtain ⟨m1, m2⟩ := sMany_eq hO.2.2.2.1 hw
    refine ⟨a, b, ?_⟩
    have h1 : nI (sMany S w) ≤ nI j := nI_le (by omega) (by omega)
    have h2 := d202 (g := g) (n := n) (kc := kc) (ks := ks) (mu := mu) (a := a) (b := b) hd h24 (by omega) hp
    simp only [x213_22, x213_23, x213_24, x213_25, x213_26, x213_29, x213_174, x213_175, x213_178, x213_179, x213_180, x213_181, x213_184, d185_3 hw, mIs3, m1, h1, h2, mSet_12, mvL, fMv_0, Option.bind_some, Option.toList_some, Option.toList_none, List.cons_append, List.nil_append, Option.isSome_some, if_true, eq_self, or_true, true_or, xb_01, mcl_cl, not_true_eq_false, not_false_eq_true, if_false]
  | succ d ih =>
    intro j S s4 s5 s6 s7 s8 s9 s10 a b hj hO hp hd
    obtain ⟨m1, m2⟩ := sMany_eq hO.2.2.2.1 hw
    have h1 : ¬ nI (sMany S w) ≤ nI j := nI_ge (by omega) (by omega)
    obtain ⟨a1, b1, h2, h3⟩ := e189 (g := g) (n := n) (kc := kc) (ks := ks) (mu := mu) (j := nI j) (v := 8) hw hO.2.2.2.1 hO.1 hO.2.1 hO.2.2.1 a b
    by_cases e : sLook S w (nI j) 8 = 0
    · obtain ⟨ea, eb⟩ := h3 e
      subst ea eb
      have hb := okb_look hO e
      obtain ⟨a2, b2, k2, k3⟩ := e189 (g := g) (n := n) (kc := kc) (ks := ks) (mu := mu) (j := nI j) (v := 8) ho hO.2.2.2.1 hO.1 hO.2.1 hO.2.2.1 (sLk S w (nI j) 8) (sLv S w (nI j) 8)
      by_cases e9 : sLook S o (nI j) 8 = 0
      · obtain ⟨ea, eb⟩ := k3 e9
        subst ea eb
        have hb2 := okb_look hO e9
        have h4 := d190 (g := g) (n := n) (kc := kc) (ks := ks) (mu := mu) (j := nI j) (v := 8) ho hO (by omega) hp hb
        by_cases e2 : sPin S o (nI j) 8 (sLk S w (nI j) 8) = 0
        · have hO2 := mPin_ok (w := o) (j := nI j) (v := 8) hO hb
          have hp2 := mPin_pd (w := o) (j := nI j) (v := 8) hO hb (by omega) hp e2
          have h6 := d190 (g := g) (n := n) (kc := kc) (ks := ks) (mu := mu) (j := nI j) (v := 8) (a := sLk S o (nI j) 8) (b := sLv S o (nI j) 8) hw hO2 (by omega) hp2 hb2
          have hst : stS w o j S = (3, sPin (mPin S o (nI j) 8 (sLk S w (nI j) 8) (sLv S w (nI j) 8)) w (nI j) 8 (sLk S o (nI j) 8), mPin (mPin S o (nI j) 8 (sLk S w (nI j) 8) (sLv S w (nI j) 8)) w (nI j) 8 (sLk S o (nI j) 8) (sLv S o (nI j) 8)) := by
            unfold stS
            rw [if_neg (fun z => z e), if_neg (fun z => z e9), if_neg (fun z => z e2)]
          have m3 : (mPin S o (nI j) 8 (sLk S w (nI j) 8) (sLv S w (nI j) 8)).2.2.1 12 (5 * w + 3) = nI (sMany S w) := by
            rw [mPin_A (by decide) (by decide) (by decide), m1]
          by_cases e5 : sPin (mPin S o (nI j) 8 (sLk S w (nI j) 8) (sLv S w (nI j) 8)) w (nI j) 8 (sLk S o (nI j) 8) = 0
          · have hp3 := mPin_pd (w := w) (j := nI j) (v := 8) hO2 hb2 (by omega) hp2 e5
            obtain ⟨a3, b3, h5⟩ := ih (j + 1) (mPin (mPin S o (nI j) 8 (sLk S w (nI j) 8) (sLv S w (nI j) 8)) w (nI j) 8 (sLk S o (nI j) 8) (sLv S o (nI j) 8)) (.val (.int 0)) (.val (.int (sLk S w (nI j) 8))) (.val (.long (sLv S w (nI j) 8))) .second (.val (.int (sLk S o (nI j) 8))) (.val (.long (sLv S o (nI j) 8))) .second (sLk S o (nI j) 8) (sLv S o (nI j) 8) (by rw [mPin_many, mPin_many]; omega) (mPin_ok hO2 hb2) (by
              have : 2 * (j + 1) = 2 * j + 1 + 1 := by omega
              rw [this]
              exact hp3) (by rw [mPin_I (by decide), mPin_I (by decide)]; exact hd)
            rw [mPin_many, mPin_many] at h5
            refine ⟨a3, b3, ?_⟩
            rw [e5] at hst
            rw [mvL_go hst]
            simp only [x213_22, x213_23, x213_24, x213_25, x213_26, x213_29, x213_32, x213_33, x213_34, x213_35, x213_37, x213_40, x213_42, x213_44, x213_47, x213_48, x213_49, x213_50, x213_52, x213_55, x213_56, x213_57, x213_60, x213_62, x213_63, x213_66, x213_68, x213_69, x213_70, x213_71, x213_73, x213_76, x213_78, x213_80, x213_83, x213_84, x213_85, x213_86, x213_88, x213_91, x213_92, x213_93, x213_96, x213_98, x213_99, x213_102, x213_104, x213_105, x213_107, x213_109, x213_112, x213_113, x213_114, x213_115, x213_117, x213_120, x213_122, x213_124, x213_127, x213_128, x213_129, x213_130, x213_132, x213_135, x213_136, x213_137, x213_139, x213_141, x213_144, x213_145, x213_146, x213_147, x213_149, x213_152, x213_154, x213_156, x213_159, x213_160, x213_161, x213_162, x213_164, x213_167, x213_168, d185_3 hw, mf_0, mf_1, mIs1, mIs2, mIs3, m1, h1, h2, e, k2, e9, c155', mIs_mIs, h4, e2, h6, e5, Option.bind_some, Option.toList_some, Option.toList_none, List.cons_append, List.nil_append, Option.isSome_some, if_true, eq_self, or_true, true_or, xb_01, mcl_cl, not_true_eq_false, not_false_eq_true, if_false]
            simp only [x213_171, nI_1]
            exact h5
          · refine ⟨sLk S o (nI j) 8, sLv S o (nI j) 8, ?_⟩
            rw [mPin_no e5] at h6 hst
            have h5 := d208 (g := g) (n := n) (kc := kc) (ks := ks) (mu := mu) (i := nI j) (j := 3) (k := sPin (mPin S o (nI j) 8 (sLk S w (nI j) 8) (sLv S w (nI j) 8)) w (nI j) 8 (sLk S o (nI j) 8)) (a := sLk S o (nI j) 8) (b := sLv S o (nI j) 8) (p := 2 * j + 1) (by omega) hp2
            rw [mvL_no hst e5, fMv_1 e5]
            simp only [x213_22, x213_23, x213_24, x213_25, x213_26, x213_29, x213_32, x213_33, x213_34, x213_35, x213_37, x213_40, x213_42, x213_44, x213_47, x213_48, x213_49, x213_50, x213_52, x213_55, x213_56, x213_57, x213_60, x213_62, x213_63, x213_66, x213_68, x213_69, x213_70, x213_71, x213_73, x213_76, x213_78, x213_80, x213_83, x213_84, x213_85, x213_86, x213_88, x213_91, x213_92, x213_93, x213_96, x213_98, x213_99, x213_102, x213_104, x213_105, x213_107, x213_109, x213_112, x213_113, x213_114, x213_115, x213_117, x213_120, x213_122, x213_124, x213_127, x213_128, x213_129, x213_130, x213_132, x213_135, x213_136, x213_137, x213_139, x213_141, x213_144, x213_145, x213_146, x213_147, x213_149, x213_152, x213_154, x213_156, x213_159, x213_160, x213_161, x213_162, x213_164, x213_167, x213_168, d185_3 hw, mf_0, mf_1, mIs1, mIs2, mIs3, m1, h1, h2, e, k2, e9, c155', mIs_mIs, h4, e2, h6, e5, h5, Option.bind_some, Option.toList_some, Option.toList_none, List.cons_append, List.nil_append, Option.isSome_some, if_true, eq_self, or_true, true_or, xb_01, mcl_cl, not_true_eq_false, not_false_eq_true, if_false]
        · refine ⟨sLk S w (nI j) 8, sLv S w (nI j) 8, ?_⟩
          rw [mPin_no e2] at h4
          have hst : stS w o j S = (2, sPin S o (nI j) 8 (sLk S w (nI j) 8), S) := by
            unfold stS
            rw [if_neg (fun z => z e), if_neg (fun z => z e9), if_pos e2]
          have h5 := d208 (g := g) (n := n) (kc := kc) (ks := ks) (mu := mu) (i := nI j) (j := 2) (k := sPin S o (nI j) 8 (sLk S w (nI j) 8)) (a := sLk S w (nI j) 8) (b := sLv S w (nI j) 8) (p := 2 * j) (by omega) hp
          rw [mvL_no hst e2, fMv_1 e2]
          simp only [x213_22, x213_23, x213_24, x213_25, x213_26, x213_29, x213_32, x213_33, x213_34, x213_35, x213_37, x213_40, x213_42, x213_44, x213_47, x213_48, x213_49, x213_50, x213_52, x213_55, x213_56, x213_57, x213_60, x213_62, x213_63, x213_66, x213_68, x213_69, x213_70, x213_71, x213_73, x213_76, x213_78, x213_80, x213_83, x213_84, x213_85, x213_86, x213_88, x213_91, x213_92, x213_93, x213_96, x213_98, x213_99, x213_102, x213_104, x213_105, x213_107, x213_109, x213_112, x213_113, x213_114, x213_115, x213_117, x213_120, x213_122, x213_124, x213_127, x213_128, x213_129, x213_130, x213_132, x213_135, x213_136, x213_137, x213_139, x213_141, x213_144, x213_145, x213_146, x213_147, x213_149, x213_152, x213_154, x213_156, x213_159, x213_160, x213_161, x213_162, x213_164, x213_167, x213_168, d185_3 hw, mf_0, mf_1, mIs1, mIs2, mIs3, m1, h1, h2, e, k2, e9, c155', mIs_mIs, h4, e2, h5, Option.bind_some, Option.toList_some, Option.toList_none, List.cons_append, List.nil_append, Option.isSome_some, if_true, eq_self, or_true, true_or, xb_01, mcl_cl, not_true_eq_false, not_false_eq_true, if_false]
      · refine ⟨a2, b2, ?_⟩
        have hst : stS w o j S = (1, sLook S o (nI j) 8, S) := by
          unfold stS
          rw [if_neg (fun z => z e), if_pos e9]
        have h5 := d208 (g := g) (n := n) (kc := kc) (ks := ks) (mu := mu) (i := nI j) (j := 1) (k := sLook S o (nI j) 8) (a := a2) (b := b2) (p := 2 * j) (by omega) hp
        rw [mvL_no hst e9, fMv_1 e9]
        simp only [x213_22, x213_23, x213_24, x213_25, x213_26, x213_29, x213_32, x213_33, x213_34, x213_35, x213_37, x213_40, x213_42, x213_44, x213_47, x213_48, x213_49, x213_50, x213_52, x213_55, x213_56, x213_57, x213_60, x213_62, x213_63, x213_66, x213_68, x213_69, x213_70, x213_71, x213_73, x213_76, x213_78, x213_80, x213_83, x213_84, x213_85, x213_86, x213_88, x213_91, x213_92, x213_93, x213_96, x213_98, x213_99, x213_102, x213_104, x213_105, x213_107, x213_109, x213_112, x213_113, x213_114, x213_115, x213_117, x213_120, x213_122, x213_124, x213_127, x213_128, x213_129, x213_130, x213_132, x213_135, x213_136, x213_137, x213_139, x213_141, x213_144, x213_145, x213_146, x213_147, x213_149, x213_152, x213_154, x213_156, x213_159, x213_160, x213_161, x213_162, x213_164, x213_167, x213_168, d185_3 hw, mf_0, mf_1, mIs1, mIs2, mIs3, m1, h1, h2, e, k2, e9, h5, Option.bind_some, Option.toList_some, Option.toList_none, List.cons_append, List.nil_append, Option.isSome_some, if_true, eq_self, or_true, true_or, xb_01, mcl_cl, not_true_eq_false, not_false_eq_true, if_false]
    · refine ⟨a1, b1, ?_⟩
      have hst : stS w o j S = (0, sLook S w (nI j) 8, S) := by
        unfold stS
        rw [if_pos e]
      have h5 := d208 (g := g) (n := n) (kc := kc) (ks := ks) (mu := mu) (i := nI j) (j := 0) (k := sLook S w (nI j) 8) (a := a1) (b := b1) (p := 2 * j) (by omega) hp
      rw [mvL_no hst e, fMv_1 e]
      simp only [x213_22, x213_23, x213_24, x213_25, x213_26, x213_29, x213_32, x213_33, x213_34, x213_35, x213_37, x213_40, x213_42, x213_44, x213_47, x213_48, x213_49, x213_50, x213_52, x213_55, x213_56, x213_57, x213_60, x213_62, x213_63, x213_66, x213_68, x213_69, x213_70, x213_71, x213_73, x213_76, x213_78, x213_80, x213_83, x213_84, x213_85, x213_86, x213_88, x213_91, x213_92, x213_93, x213_96, x213_98, x213_99, x213_102, x213_104, x213_105, x213_107, x213_109, x213_112, x213_113, x213_114, x213_115, x213_117, x213_120, x213_122, x213_124, x213_127, x213_128, x213_129, x213_130, x213_132, x213_135, x213_136, x213_137, x213_139, x213_141, x213_144, x213_145, x213_146, x213_147, x213_149, x213_152, x213_154, x213_156, x213_159, x213_160, x213_161, x213_162, x213_164, x213_167, x213_168, d185_3 hw, mIs3, m1, h1, h2, e, h5, Option.bind_some, Option.toList_some, Option.toList_none, List.cons_append, List.nil_append, Option.isSome_some, if_true, eq_self, or_true, true_or, xb_01, mcl_cl, not_true_eq_false, not_false_eq_true, if_false]
def fSwap (S : MS) (i j : Int32) : Int32 × MS := if mSl i = false then (-1, S) else if mSl j = false then (-1, S) else fMv (nI (sMany S (tn i))) (mvL (stS (tn i) (tn j)) 0 (sMany S (tn i)) (msI S 16 0))
theorem e213 {dd : Nat} (hd : S.1 24 = nI dd) (h24 : dd ≤ 24) (hO : mOk S) : ∃ a b, X g 213 0 [.val (va_rf (some mu)), .val (.int i), .val (.int j), .unset, .unset, .unset, .unset, .unset, .unset, .unset, .unset] [] (mH n kc ks mu S) = some (some (.int (fSwap S i j).1), mH n kc ks mu (mIs (fSwap S i j).2 a b)) := by
  unfold fSwap
  by_cases e1 : mSl i = false
  · rw [if_pos e1]
    refine ⟨S.1 0, S.2.1 1, ?_⟩
    rw [mIs_self]
    simp only [x213_0, x213_1, x213_4, x213_7, x213_8, x213_11, x213_14, x213_15, x213_16, x213_17, x213_20, x213_21, c184', e1, xb_f, Option.bind_some, Option.toList_some, Option.toList_none, List.cons_append, List.nil_append, Option.isSome_some, if_true, eq_self, or_true, true_or, xb_01, mcl_cl, not_true_eq_false, not_false_eq_true, if_false]
  · rw [if_neg e1]
    have e1 : mSl i = true := by simpa using e1
    obtain ⟨e2, e3⟩ := mSl_eq e1
    by_cases f1 : mSl j = false
    · rw [if_pos f1]
      refine ⟨S.1 0, S.2.1 1, ?_⟩
      rw [mIs_self]
      simp only [x213_0, x213_1, x213_4, x213_7, x213_8, x213_11, x213_14, x213_15, x213_16, x213_17, x213_20, x213_21, c184', e1, f1, xb_t, xb_f, i32_10, Option.bind_some, Option.toList_some, Option.toList_none, List.cons_append, List.nil_append, Option.isSome_some, if_true, eq_self, or_true, true_or, xb_01, mcl_cl, not_true_eq_false, not_false_eq_true, if_false]
    · rw [if_neg f1]
      have f1 : mSl j = true := by simpa using f1
      obtain ⟨f2, f3⟩ := mSl_eq f1
      obtain ⟨a, b, h1⟩ := l213 (g := g) (n := n) (kc := kc) (ks := ks) (mu := mu) e3 f3 h24 (sMany S (tn i)) 0 (msI S 16 0) .unset .unset .unset .unset .unset .unset .unset (S.1 0) (S.2.1 1) (by
        have : sMany (msI S 16 0) (tn i) = sMany S (tn i) := rfl
        omega) hO mPd_0 hd
      rw [← e2, ← f2, ← msI_is (by decide), mIs_self] at h1
      have h1' : X g 213 22 [.val (va_rf (some mu)), .val (.int i), .val (.int j), .val (.int 0), .unset, .unset, .unset, .unset, .unset, .unset, .unset] [] (mH n kc ks mu (msI S 16 0)) = some (some (.int (fMv (nI (sMany S (tn i))) (mvL (stS (tn i) (tn j)) 0 (sMany S (tn i)) (msI S 16 0))).1), mH n kc ks mu (mIs (fMv (nI (sMany S (tn i))) (mvL (stS (tn i) (tn j)) 0 (sMany S (tn i)) (msI S 16 0))).2 a b)) := h1
      refine ⟨a, b, ?_⟩
      simp only [x213_0, x213_1, x213_4, x213_7, x213_8, x213_11, x213_14, x213_15, x213_16, x213_17, x213_20, x213_21, c184', c199, e1, f1, xb_t, i32_10, h1', Option.bind_some, Option.toList_some, Option.toList_none, List.cons_append, List.nil_append, Option.isSome_some, if_true, eq_self, or_true, true_or, xb_01, mcl_cl, not_true_eq_false, not_false_eq_true, if_false]
end M17
