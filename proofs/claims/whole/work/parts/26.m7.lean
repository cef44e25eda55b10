/-! THE REFERENCE's methods, 6: windows -/
/-- the first place that is so, or -5 -/
def mFst (f : Nat → Bool) : Nat → Nat → Int32
  | _, 0 => -5
  | s, d + 1 => if f s = true then nI s else mFst f (s + 1) d
def mSum (f : Nat → Int64) : Nat → Nat → Int64 → Int64
  | _, 0, z => z
  | s, d + 1, z => mSum f (s + 1) d (z + f s)
section M7
variable {g : xG} {n kc ks mu s w q p : Nat} {S : MS} {h : xH} {i j k v : Int32} {u : Int64} {a : Int32} {b : Int64}
theorem mIs1 : (mIs S a b).1 0 = a := rfl
theorem mIs2 : (mIs S a b).2.1 1 = b := rfl
theorem mIs3 : (mIs S a b).2.2.1 = S.2.2.1 := rfl
theorem mIs4 : (mIs S a b).2.2.2 = S.2.2.2 := rfl
theorem i32_10 : ((1 : Int32) = 0) = False := by simp
theorem b_ft : (false = true) = False := by simp
theorem b_tf : (true = false) = False := by simp
theorem d185_0 (hw : w < 6) : X g 185 0 [.val (va_rf (some mu)), .val (.int (nI w)), .val (.int 0)] [] (mH n kc ks mu S) = some (some (.int (S.2.2.1 12 (5 * w))), mH n kc ks mu S) := c185 (p := 0) hw (by decide)
theorem d185_1 (hw : w < 6) : X g 185 0 [.val (va_rf (some mu)), .val (.int (nI w)), .val (.int 1)] [] (mH n kc ks mu S) = some (some (.int (S.2.2.1 12 (5 * w + 1))), mH n kc ks mu S) := c185 (p := 1) hw (by decide)
theorem d185_2 (hw : w < 6) : X g 185 0 [.val (va_rf (some mu)), .val (.int (nI w)), .val (.int 2)] [] (mH n kc ks mu S) = some (some (.int (S.2.2.1 12 (5 * w + 2))), mH n kc ks mu S) := c185 (p := 2) hw (by decide)
theorem d185_3 (hw : w < 6) : X g 185 0 [.val (va_rf (some mu)), .val (.int (nI w)), .val (.int 3)] [] (mH n kc ks mu S) = some (some (.int (S.2.2.1 12 (5 * w + 3))), mH n kc ks mu S) := c185 (p := 3) hw (by decide)
theorem d185_4 (hw : w < 6) : X g 185 0 [.val (va_rf (some mu)), .val (.int (nI w)), .val (.int 4)] [] (mH n kc ks mu S) = some (some (.int (S.2.2.1 12 (5 * w + 4))), mH n kc ks mu S) := c185 (p := 4) hw (by decide)
/-- windows: the slot from 0 to 9, many from 0 to 32, the view from 0 to 8 -/
def mW (S : MS) : Prop := ∀ w, w < 6 → (0 ≤ (S.2.2.1 12 (5 * w)).toInt ∧ (S.2.2.1 12 (5 * w)).toInt ≤ 9) ∧ (0 ≤ (S.2.2.1 12 (5 * w + 3)).toInt ∧ (S.2.2.1 12 (5 * w + 3)).toInt ≤ 32) ∧ (0 ≤ (S.2.2.1 12 (5 * w + 4)).toInt ∧ (S.2.2.1 12 (5 * w + 4)).toInt ≤ 8)
def sCell (S : MS) (w : Nat) (j : Int32) : Int32 := S.2.2.1 12 (5 * w + 1) + j * S.2.2.1 12 (5 * w + 2)
def sSl (S : MS) (w : Nat) : Nat := tn (S.2.2.1 12 (5 * w))
def sHas (S : MS) (w : Nat) (j : Int32) : Bool := mWithin j.toInt 0 (S.2.2.1 12 (5 * w + 3) - 1).toInt
def sLook (S : MS) (w : Nat) (j v : Int32) : Int32 := if sHas S w j = true then sRead S (sSl S w) (sCell S w j) v else -13
def sLk (S : MS) (w : Nat) (j v : Int32) : Int32 := sBk S (sSl S w) (sCell S w j) v
def sLv (S : MS) (w : Nat) (j v : Int32) : Int64 := sBv S (sSl S w) (sCell S w j) v
theorem sSl_eq (hW : mW S) (hw : w < 6) : S.2.2.1 12 (5 * w) = nI (sSl S w) ∧ sSl S w < 10 := by
  obtain ⟨⟨h1, h2⟩, _⟩ := hW w hw
  refine ⟨nI_tn h1, ?_⟩
  unfold sSl tn
  omega
theorem e173 (hs : s < 10) (hz : mZ S) (hv : mV S) (hk : mKd S) (a : Int32) (b : Int64) : ∃ a' b', X g 173 0 [.val (va_rf (some mu)), .val (.int (nI s)), .val (.int i), .val (.int v), .unset, .unset] [] (mH n kc ks mu (mIs S a b)) = some (some (.int (sRead S s i v)), mH n kc ks mu (mIs S a' b')) ∧ (sRead S s i v = 0 → a' = sBk S s i v ∧ b' = sBv S s i v) := by
  have e := c173 (g := g) (n := n) (kc := kc) (ks := ks) (mu := mu) (i := i) (v := v) (S := mIs S a b) hs hz hv hk
  have e1 : sRead (mIs S a b) s i v = sRead S s i v := rfl
  have e2 : sBk (mIs S a b) s i v = sBk S s i v := rfl
  have e3 : sBv (mIs S a b) s i v = sBv S s i v := rfl
  unfold mRd at e
  rw [e1, e2, e3] at e
  by_cases z : sRead S s i v = 0
  · rw [if_pos z, mIs_mIs] at e
    exact ⟨_, _, e, fun _ => ⟨rfl, rfl⟩⟩
  · rw [if_neg z] at e
    exact ⟨_, _, e, fun y => absurd y z⟩
theorem e189 (hw : w < 6) (hW : mW S) (hz : mZ S) (hv : mV S) (hk : mKd S) (a : Int32) (b : Int64) : ∃ a' b', X g 189 0 [.val (va_rf (some mu)), .val (.int (nI w)), .val (.int j), .val (.int v)] [] (mH n kc ks mu (mIs S a b)) = some (some (.int (sLook S w j v)), mH n kc ks mu (mIs S a' b')) ∧ (sLook S w j v = 0 → a' = sLk S w j v ∧ b' = sLv S w j v) := by
  obtain ⟨e1, e2⟩ := sSl_eq hW hw
  unfold sLook
  by_cases e3 : sHas S w j = true
  · rw [if_pos e3]
    have e4 : mWithin j.toInt 0 (S.2.2.1 12 (5 * w + 3) - 1).toInt = true := e3
    obtain ⟨a', b', h1, h2⟩ := e173 (g := g) (n := n) (kc := kc) (ks := ks) (mu := mu) (i := sCell S w j) (v := v) e2 hz hv hk a b
    refine ⟨a', b', ?_, h2⟩
    unfold sCell at h1
    simp only [x189_0, x189_1, x189_2, x189_3, x189_4, x189_5, x189_6, x189_9, x189_10, x189_11, x189_12, x189_15, x189_18, x189_19, x189_20, x189_21, x189_22, x189_25, x189_26, x189_27, x189_28, x189_31, x189_32, x189_35, x189_38, x189_40, d185_3 hw, d185_0 hw, c188 hw, c154, mIs3, e1, e4, h1, i32_64, Int64.toInt_zero, xb_t, i32_10, if_false, Option.bind_some, Option.toList_some, Option.toList_none, List.cons_append, List.nil_append, Option.isSome_some, if_true, eq_self, or_true, true_or, xb_01, mcl_cl, not_true_eq_false, not_false_eq_true, if_false]
    rfl
  · have e3 : sHas S w j = false := by simpa using e3
    have e4 : mWithin j.toInt 0 (S.2.2.1 12 (5 * w + 3) - 1).toInt = false := e3
    refine ⟨a, b, ?_, ?_⟩
    · simp only [x189_0, x189_1, x189_2, x189_3, x189_4, x189_5, x189_6, x189_9, x189_10, x189_11, x189_12, x189_15, x189_18, x189_19, x189_20, x189_21, x189_22, x189_25, x189_26, x189_27, x189_28, x189_31, x189_32, x189_35, x189_38, x189_40, d185_3 hw, c154, mIs3, e3, e4, i32_64, Int64.toInt_zero, xb_f, b_ft, if_false, Option.bind_some, Option.toList_some, Option.toList_none, List.cons_append, List.nil_append, Option.isSome_some, if_true, eq_self, or_true, true_or, xb_01, mcl_cl, not_true_eq_false, not_false_eq_true, if_false]
    · rw [if_neg (by rw [e3]; simp)]
      intro z
      exact absurd z (by decide)
theorem c190 (hw : w < 6) (hW : mW S) (hz : mZ S) (hp : p < 64) (e : S.1 16 = nI p) (hb : okv (S.1 0) (S.2.1 1)) : X g 190 0 [.val (va_rf (some mu)), .val (.int (nI w)), .val (.int j), .val (.int v)] [] (mH n kc ks mu S) = some (some (.int (if sHas S w j = true then sPutBy S (sSl S w) (sCell S w j) v (S.1 0) else -13)), mH n kc ks mu (if sHas S w j = true then mPutS S p (sSl S w) (sCell S w j) v else S)) := by
  obtain ⟨e1, e2⟩ := sSl_eq hW hw
  by_cases e3 : sHas S w j = true
  · rw [if_pos e3, if_pos e3]
    have e4 : mWithin j.toInt 0 (S.2.2.1 12 (5 * w + 3) - 1).toInt = true := e3
    have h1 := c175 (g := g) (n := n) (kc := kc) (ks := ks) (mu := mu) (i := sCell S w j) (v := v) e2 hz hp e hb
    unfold sCell at h1
    simp only [x190_0, x190_1, x190_2, x190_3, x190_4, x190_5, x190_6, x190_9, x190_10, x190_11, x190_12, x190_15, x190_18, x190_19, x190_20, x190_21, x190_22, x190_25, x190_26, x190_27, x190_28, x190_31, x190_32, x190_35, x190_38, x190_40, d185_3 hw, d185_0 hw, c188 hw, c154, e1, e4, h1, i32_64, Int64.toInt_zero, xb_t, i32_10, if_false, Option.bind_some, Option.toList_some, Option.toList_none, List.cons_append, List.nil_append, Option.isSome_some, if_true, eq_self, or_true, true_or, xb_01, mcl_cl, not_true_eq_false, not_false_eq_true, if_false]
    rfl
  · have e3 : sHas S w j = false := by simpa using e3
    have e4 : mWithin j.toInt 0 (S.2.2.1 12 (5 * w + 3) - 1).toInt = false := e3
    simp only [x190_0, x190_1, x190_2, x190_3, x190_4, x190_5, x190_6, x190_9, x190_10, x190_11, x190_12, x190_15, x190_18, x190_19, x190_20, x190_21, x190_22, x190_25, x190_26, x190_27, x190_28, x190_31, x190_32, x190_35, x190_38, x190_40, d185_3 hw, c154, e3, e4, i32_64, Int64.toInt_zero, xb_f, b_ft, if_false, Option.bind_some, Option.toList_some, Option.toList_none, List.cons_append, List.nil_append, Option.isSome_some, if_true, eq_self, or_true, true_or, xb_01, mcl_cl, not_true_eq_false, not_false_eq_true, if_false]
/-- why a cell of a window has no amount -/
def sFa (S : MS) (w : Nat) (j : Int32) : Int32 := if sLook S w j (S.2.2.1 12 (5 * w + 4)) = 0 ∧ 8 ≤ sLk S w j (S.2.2.1 12 (5 * w + 4)) then -12 else sLook S w j (S.2.2.1 12 (5 * w + 4))
theorem e192 (hw : w < 6) (hW : mW S) (hz : mZ S) (hv : mV S) (hk : mKd S) (a : Int32) (b : Int64) : ∃ a' b', X g 192 0 [.val (va_rf (some mu)), .val (.int (nI w)), .val (.int j), .unset] [] (mH n kc ks mu (mIs S a b)) = some (some (.int (sFa S w j)), mH n kc ks mu (mIs S a' b')) := by
  obtain ⟨a', b', h1, h2⟩ := e189 (g := g) (n := n) (kc := kc) (ks := ks) (mu := mu) (j := j) (v := S.2.2.1 12 (5 * w + 4)) hw hW hz hv hk a b
  refine ⟨a', b', ?_⟩
  unfold sFa
  by_cases e : sLook S w j (S.2.2.1 12 (5 * w + 4)) = 0
  · obtain ⟨y1, y2⟩ := h2 e
    by_cases e2 : (8 : Int32) ≤ sLk S w j (S.2.2.1 12 (5 * w + 4))
    · have e3 : ¬ sLk S w j (S.2.2.1 12 (5 * w + 4)) < 8 := Int32.not_lt.mpr e2
      simp only [x192_0, x192_1, x192_2, x192_3, x192_4, x192_5, x192_6, x192_9, x192_12, x192_13, x192_14, x192_17, x192_18, x192_21, x192_23, x192_26, x192_28, x192_31, x192_32, d185_4 hw, mIs3, h1, mf_0, mIs1, y1, e, e2, e3, and_self, not_true_eq_false, if_false, Option.bind_some, Option.toList_some, Option.toList_none, List.cons_append, List.nil_append, Option.isSome_some, if_true, eq_self, or_true, true_or, xb_01, mcl_cl, not_true_eq_false, not_false_eq_true, if_false]
    · have e3 : sLk S w j (S.2.2.1 12 (5 * w + 4)) < 8 := Int32.not_le.mp e2
      simp only [x192_0, x192_1, x192_2, x192_3, x192_4, x192_5, x192_6, x192_9, x192_12, x192_13, x192_14, x192_17, x192_18, x192_21, x192_23, x192_26, x192_28, x192_31, x192_32, d185_4 hw, mIs3, h1, mf_0, mIs1, y1, e, e2, e3, and_false, not_true_eq_false, if_false, Option.bind_some, Option.toList_some, Option.toList_none, List.cons_append, List.nil_append, Option.isSome_some, if_true, eq_self, or_true, true_or, xb_01, mcl_cl, not_true_eq_false, not_false_eq_true, if_false]
  · simp only [x192_0, x192_1, x192_2, x192_3, x192_4, x192_5, x192_6, x192_9, x192_12, x192_13, x192_14, x192_17, x192_18, x192_21, x192_23, x192_26, x192_28, x192_31, x192_32, d185_4 hw, mIs3, h1, e, false_and, not_false_eq_true, if_false, Option.bind_some, Option.toList_some, Option.toList_none, List.cons_append, List.nil_append, Option.isSome_some, if_true, eq_self, or_true, true_or, xb_01, mcl_cl, not_true_eq_false, not_false_eq_true, if_false]
def sMany (S : MS) (w : Nat) : Nat := tn (S.2.2.1 12 (5 * w + 3))
theorem sMany_eq (hW : mW S) (hw : w < 6) : S.2.2.1 12 (5 * w + 3) = nI (sMany S w) ∧ sMany S w ≤ 32 := by
  obtain ⟨_, ⟨h1, h2⟩, _⟩ := hW w hw
  refine ⟨nI_tn h1, ?_⟩
  unfold sMany tn
  omega
def sFf (S : MS) (w : Nat) : Int32 := mFst (fun j => !decide (sFa S w (nI j) = 0)) 0 (sMany S w)
theorem l193 (hw : w < 6) (hW : mW S) (hz : mZ S) (hv : mV S) (hk : mKd S) : ∀ d s a b, s + d = sMany S w → ∃ a' b', X g 193 2 [.val (va_rf (some mu)), .val (.int (nI w)), .val (.int (nI s))] [] (mH n kc ks mu (mIs S a b)) = some (some (.int (mFst (fun j => !decide (sFa S w (nI j) = 0)) s d)), mH n kc ks mu (mIs S a' b')) := by
  obtain ⟨m1, m2⟩ := sMany_eq hW hw
  intro d
  induction d with
  | zero =>
    intro s a b hs
    have h1 : nI (sMany S w) ≤ nI s := nI_le (by omega) (by omega)
    refine ⟨a, b, ?_⟩
    simp only [x193_0, x193_1, x193_2, x193_3, x193_4, x193_5, x193_6, x193_9, x193_12, x193_13, x193_14, x193_15, x193_18, x193_21, x193_22, x193_23, x193_29, x193_31, d185_3 hw, mIs3, m1, h1, mFst, Option.bind_some, Option.toList_some, Option.toList_none, List.cons_append, List.nil_append, Option.isSome_some, if_true, eq_self, or_true, true_or, xb_01, mcl_cl, not_true_eq_false, not_false_eq_true, if_false]
  | succ d ih =>
    intro s a b hs
    have h1 : ¬ nI (sMany S w) ≤ nI s := nI_ge (by omega) (by omega)
    obtain ⟨a1, b1, h2⟩ := e192 (g := g) (n := n) (kc := kc) (ks := ks) (mu := mu) (j := nI s) hw hW hz hv hk a b
    by_cases h3 : sFa S w (nI s) = 0
    · obtain ⟨a2, b2, h4⟩ := ih (s + 1) a1 b1 (by omega)
      refine ⟨a2, b2, ?_⟩
      simp only [x193_0, x193_1, x193_2, x193_3, x193_4, x193_5, x193_6, x193_9, x193_12, x193_13, x193_14, x193_15, x193_18, x193_21, x193_22, x193_23, x193_29, x193_31, d185_3 hw, mIs3, m1, h1, h2, h3, if_false, Option.bind_some, Option.toList_some, Option.toList_none, List.cons_append, List.nil_append, Option.isSome_some, if_true, eq_self, or_true, true_or, xb_01, mcl_cl, not_true_eq_false, not_false_eq_true, if_false]
      simp only [x193_26, nI_1]
      rw [h4]
      simp [mFst, h3]
    · refine ⟨a1, b1, ?_⟩
      simp only [x193_0, x193_1, x193_2, x193_3, x193_4, x193_5, x193_6, x193_9, x193_12, x193_13, x193_14, x193_15, x193_18, x193_21, x193_22, x193_23, x193_29, x193_31, d185_3 hw, mIs3, m1, h1, h2, h3, if_false, Option.bind_some, Option.toList_some, Option.toList_none, List.cons_append, List.nil_append, Option.isSome_some, if_true, eq_self, or_true, true_or, xb_01, mcl_cl, not_true_eq_false, not_false_eq_true, if_false]
      simp [mFst, h3]
theorem e193 (hw : w < 6) (hW : mW S) (hz : mZ S) (hv : mV S) (hk : mKd S) (a : Int32) (b : Int64) : ∃ a' b', X g 193 0 [.val (va_rf (some mu)), .val (.int (nI w)), .unset] [] (mH n kc ks mu (mIs S a b)) = some (some (.int (sFf S w)), mH n kc ks mu (mIs S a' b')) := by
  obtain ⟨a', b', h1⟩ := l193 (g := g) (n := n) (kc := kc) (ks := ks) (mu := mu) hw hW hz hv hk (sMany S w) 0 a b (by omega)
  refine ⟨a', b', ?_⟩
  simp only [x193_0, x193_1]
  exact h1
end M7
