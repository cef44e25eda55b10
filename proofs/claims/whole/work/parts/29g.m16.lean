/-! THE REFERENCE's methods, 15: one cell's act -/
section M16
variable {g : xG} {n kc ks mu s w q p r t f A : Nat} {S : MS} {h : xH} {i j k m v x : Int32} {u : Int64} {a : Int32} {b : Int64}
theorem mPut_is {y : Int64} : mPut (mIs S a b) p q k y = mIs (mPut S p q k y) a b := by
  refine Prod.ext ?_ (Prod.ext ?_ rfl)
  · funext z
    simp only [mPut, mNote, mIs, msI, msA, msB, msL]
    by_cases e : z = 16
    · subst e; simp
    · simp [e]
  · rfl
theorem msI_is (hq : q ≠ 0) : msI (mIs S a b) q x = mIs (msI S q x) a b := by
  refine Prod.ext ?_ rfl
  funext z
  simp only [mIs, msI, msL]
  by_cases e : z = q
  · subst e; simp [hq]
  · simp [e]
theorem msA_is : msA (mIs S a b) q p x = mIs (msA S q p x) a b := rfl
theorem msB_is : msB (mIs S a b) q p u = mIs (msB S q p u) a b := rfl
theorem mKs_is {k : Nat} : mKs (mIs S a b) p A k = mIs (mKs S p A k) a b := rfl
theorem mMv_is {k : Nat} : mMv (mIs S a b) f t k = mIs (mMv S f t k) a b := rfl
theorem mSh_is : ∀ d y (S : MS), mSh y d (mIs S a b) = mIs (mSh y d S) a b := by
  intro d
  induction d with
  | zero => intro y S; rfl
  | succ d ih =>
    intro y S
    rw [mSh, mSh, mMv_is, ih]
theorem mIs_1 (hq : q ≠ 0) : (mIs S a b).1 q = S.1 q := by
  simp [mIs, msI, msL, hq]
theorem mKeep_is : mKeep (mIs S a b) p = mIs (mKeep S p) a b := by
  unfold mKeep
  rw [mIs_1 (by decide)]
  by_cases e : S.1 24 = 24
  · rw [if_pos e, if_pos e, msI_is (q := 23) (by decide), mSh_is, msI_is (q := 23) (by decide), msA_is, mKs_is, msI_is (q := 23) (by decide), msI_is (q := 24) (by decide)]
  · rw [if_neg e, if_neg e, msI_is (q := 23) (by decide), msA_is, mKs_is, msI_is (q := 23) (by decide), msI_is (q := 24) (by decide)]
theorem mDn_is {o : Nat → Nat} {e : Nat → Int32} {y : Nat → Int64} : ∀ k (S : MS), mDn o e y k (mIs S a b) = mIs (mDn o e y k S) a b := by
  intro k
  induction k with
  | zero => intro S; rfl
  | succ k ih =>
    intro S
    rw [mDn, mDn, msA_is, msB_is, ih]
theorem mStop_is : mStop (mIs S a b) p i j k = mIs (mStop S p i j k) a b := by
  unfold mStop
  rw [mDn_is, mIs3, mIs4, msI_is (by decide), msI_is (by decide), msA_is, msA_is, msA_is]
/-- a box put into a cell of a slot -/
def mPb (S : MS) (s : Nat) (i v a : Int32) (b : Int64) : MS := if sPutBy S s i v a = 0 then mPut S (tn (S.1 16)) (sAt S s i) (sNk (S.2.2.1 2 (mr S s)) a) (sNv (S.2.2.1 2 (mr S s)) a b) else S
theorem mPb_eq (e : S.1 16 = nI p) (hp : p < 64) : mPutS (mIs S a b) p s i v = mIs (mPb S s i v a b) a b := by
  have e1 : tn (S.1 16) = p := by rw [e]; exact tn_nI (by omega)
  show (if sPutBy S s i v a = 0 then mPut (mIs S a b) p (sAt S s i) (sNk (S.2.2.1 2 (mr S s)) a) (sNv (S.2.2.1 2 (mr S s)) a b) else mIs S a b) = _
  unfold mPb
  rw [e1]
  split
  · rw [mPut_is]
  · rfl
/-- the state is sound -/
def okl (k : Int32) (v : Int64) : Prop := 0 ≤ k.toInt ∧ (k = 9 → v = v.toInt32.toInt64) ∧ (k = 10 → 0 ≤ v.toInt ∧ v.toInt ≤ 9) ∧ k.toInt ≤ 10
def okb (k : Int32) (v : Int64) : Prop := okv k v ∧ okl k v
def mLn (S : MS) : Prop := ∀ q, q < 320 → okl (S.2.2.1 5 q) (S.2.2.2 6 q)
def mOk (S : MS) : Prop := mZ S ∧ mV S ∧ mKd S ∧ mW S ∧ mK S ∧ mLn S
def okc (S : MS) (q : Nat) (k : Int32) (v : Int64) : Prop := q < 320 ∧ okv k v ∧ (S.2.2.1 2 (q / 32) < 8 → k = S.2.2.1 2 (q / 32)) ∧ okl k v
theorem okl_o {y : Int64} (h0 : 0 ≤ k.toInt) (h1 : k.toInt ≤ 10) (h9 : ¬ k = 9) (h10 : ¬ k = 10) : okl k y := ⟨h0, fun e => absurd e h9, fun e => absurd e h10, h1⟩
theorem okl_n {y : Int64} (h0 : 0 ≤ k.toInt) (h : k < 8) : okl k y := okl_o h0 (by rw [i32_lt, show (8 : Int32).toInt = 8 from rfl] at h; omega) (fun e => by rw [e] at h; exact absurd h (by decide)) (fun e => by rw [e] at h; exact absurd h (by decide))
theorem pBy_9 : pBy 9 u = u.toInt32.toInt64 := by
  unfold pBy
  rw [if_neg (by decide), if_neg (by decide), if_neg (by decide), if_neg (by decide), if_neg (by decide), if_neg (by decide), if_neg (by decide), if_neg (by decide), if_pos rfl]
theorem pBy_10 : pBy 10 u = u := by
  unfold pBy
  rw [if_neg (by decide), if_neg (by decide), if_neg (by decide), if_neg (by decide), if_neg (by decide), if_neg (by decide), if_neg (by decide), if_neg (by decide), if_neg (by decide)]
theorem okb_by (h0 : 0 ≤ k.toInt) (h1 : k.toInt ≤ 10) (h : mNone k u = false) : okb k (pBy k u) := by
  refine ⟨okv_by k u, h0, ?_, ?_, h1⟩
  · intro e
    subst e
    rw [pBy_9, Int32.toInt32_toInt64]
  · intro e
    subst e
    rw [pBy_10]
    unfold mNone at h
    have : mWithin u.toInt 0 9 = true := by simpa using h
    exact mWithin_iff.mp this
theorem okb_num (h : mWithin k.toInt 0 7 = true) : okb k (pBy k u) := by
  have h1 := mWithin_iff.mp h
  refine okb_by h1.1 (by have := h1.2; omega) ?_
  unfold mNone
  have : ¬ k = 10 := by
    intro e
    rw [e] at h1
    exact absurd h1.2 (by decide)
  simp [this]
theorem pMay_8 (h : pMay k v = true) : v < 8 := by
  rw [i32_lt, show (8 : Int32).toInt = 8 from rfl]
  unfold pMay at h
  by_cases e : k = v
  · rw [if_pos e] at h
    have := mWithin_iff.mp h
    rw [← e]
    omega
  · rw [if_neg e] at h
    by_cases e1 : k = 1
    · rw [if_pos e1] at h
      have := mWithin_iff.mp h
      omega
    · rw [if_neg e1] at h
      by_cases e1 : k = 2
      · rw [if_pos e1] at h
        have := mWithin_iff.mp h
        omega
      · rw [if_neg e1] at h
        by_cases e1 : k = 3
        · rw [if_pos e1] at h
          have := mWithin_iff.mp h
          omega
        · rw [if_neg e1] at h
          by_cases e1 : k = 4
          · rw [if_pos e1] at h
            have := mWithin_iff.mp h
            omega
          · rw [if_neg e1] at h
            by_cases e1 : k = 5
            · rw [if_pos e1] at h
              have := mWithin_iff.mp h
              omega
            · rw [if_neg e1] at h
              by_cases e1 : k = 6
              · rw [if_pos e1] at h
                rw [of_decide_eq_true h]
                decide
              · rw [if_neg e1] at h
                exact absurd h (by simp)
theorem pMay_0 (h : pMay k v = true) : 0 ≤ v.toInt := by
  unfold pMay at h
  by_cases e : k = v
  · rw [if_pos e] at h
    have := mWithin_iff.mp h
    rw [← e]
    omega
  · rw [if_neg e] at h
    by_cases e1 : k = 1
    · rw [if_pos e1] at h
      have := mWithin_iff.mp h
      omega
    · rw [if_neg e1] at h
      by_cases e1 : k = 2
      · rw [if_pos e1] at h
        have := mWithin_iff.mp h
        omega
      · rw [if_neg e1] at h
        by_cases e1 : k = 3
        · rw [if_pos e1] at h
          have := mWithin_iff.mp h
          omega
        · rw [if_neg e1] at h
          by_cases e1 : k = 4
          · rw [if_pos e1] at h
            have := mWithin_iff.mp h
            omega
          · rw [if_neg e1] at h
            by_cases e1 : k = 5
            · rw [if_pos e1] at h
              have := mWithin_iff.mp h
              omega
            · rw [if_neg e1] at h
              by_cases e1 : k = 6
              · rw [if_pos e1] at h
                rw [of_decide_eq_true h]
                decide
              · rw [if_neg e1] at h
                exact absurd h (by simp)
theorem okb_read (hz : mZ S) (hv : mV S) (hk : mKd S) (hl : mLn S) (h : sRead S s i v = 0) : okb (sBk S s i v) (sBv S s i v) := by
  refine ⟨okv_read hz hv hk h, ?_⟩
  obtain ⟨h1, h2, h3⟩ := sRead_0 h
  obtain ⟨e3, hr⟩ := mRow_eq h1
  obtain ⟨z1, z2, _⟩ := mIn_eq hz hr h2
  unfold sBk sBv sAt
  by_cases e : v = 8
  · rw [if_pos e, if_pos e]
    exact hl _ (by omega)
  · rw [if_neg e, if_neg e]
    exact okl_n (pMay_0 (h3 e).2) (pMay_8 (h3 e).2)
theorem okb_look (hO : mOk S) (h : sLook S w j v = 0) : okb (sLk S w j v) (sLv S w j v) := by
  unfold sLook at h
  by_cases e : sHas S w j = true
  · rw [if_pos e] at h
    exact okb_read hO.1 hO.2.1 hO.2.2.1 hO.2.2.2.2.2 h
  · rw [if_neg e] at h
    exact absurd h (by decide)
/-- puts are pending -/
def mPd (S : MS) (p : Nat) : Prop := S.1 16 = nI p ∧ ∀ x, x < p → 0 ≤ (S.2.2.1 13 x).toInt ∧ (S.2.2.1 13 x).toInt < 320
theorem mOk_is : mOk (mIs S a b) ↔ mOk S := Iff.rfl
theorem mOk_c {T : MS} (h : mOk S) (e2 : ∀ i, T.2.2.1 2 i = S.2.2.1 2 i) (e3 : ∀ i, T.2.2.1 3 i = S.2.2.1 3 i) (e12 : ∀ i, T.2.2.1 12 i = S.2.2.1 12 i) (hc : ∀ q, q < 320 → okc S q (T.2.2.1 5 q) (T.2.2.2 6 q)) : mOk T := by
  obtain ⟨h1, h2, h3, h4, h5, _⟩ := h
  refine ⟨?_, ?_, ?_, ?_, ?_, fun q hq => (hc q hq).2.2.2⟩
  · intro r hr
    rw [e3]
    exact h1 r hr
  · intro q hq
    exact (hc q hq).2.1
  · intro r p hr hp h8
    rw [e2] at h8 ⊢
    have := (hc (32 * r + p) (by omega)).2.2.1
    rw [show (32 * r + p) / 32 = r by omega] at this
    exact this h8
  · intro w hw
    rw [e12, e12, e12]
    exact h4 w hw
  · intro r hr
    rw [e2]
    exact h5 r hr
theorem okc_self (h : mOk S) (hq : q < 320) : okc S q (S.2.2.1 5 q) (S.2.2.2 6 q) := by
  refine ⟨hq, h.2.1 q hq, fun h8 => ?_, h.2.2.2.2.2 q hq⟩
  have := h.2.2.1 (q / 32) (q % 32) (by omega) (by omega) h8
  rw [show 32 * (q / 32) + q % 32 = q by omega] at this
  exact this
theorem mOk_cell {y : Int64} (h : mOk S) (hc : okc S q k y) : mOk (msB (msA S 5 q k) 6 q y) := by
  refine mOk_c h (fun i => by simp [msA, msB]) (fun i => by simp [msA, msB]) (fun i => by simp [msA, msB]) ?_
  intro t ht
  by_cases e : t = q
  · subst e
    simpa [msA, msB] using hc
  · simpa [msA, msB, e] using okc_self h ht
theorem mPut_A {z : Nat} {y : Int64} (h5 : z ≠ 5) (h13 : z ≠ 13) (h14 : z ≠ 14) (t : Nat) : (mPut S p q k y).2.2.1 z t = S.2.2.1 z t := by
  simp [mPut, mNote, msA, msB, msI, h5, h13, h14]
theorem mPut_5 {y : Int64} (t : Nat) : (mPut S p q k y).2.2.1 5 t = if t = q then k else S.2.2.1 5 t := by
  simp [mPut, mNote, msA, msB, msI]
theorem mPut_6 {y : Int64} (t : Nat) : (mPut S p q k y).2.2.2 6 t = if t = q then y else S.2.2.2 6 t := by
  simp [mPut, mNote, msA, msB, msI]
theorem mPut_13 {y : Int64} (t : Nat) : (mPut S p q k y).2.2.1 13 t = if t = p then nI q else S.2.2.1 13 t := by
  simp [mPut, mNote, msA, msB, msI]
theorem mPut_I {z : Nat} {y : Int64} (h : z ≠ 16) : (mPut S p q k y).1 z = S.1 z := by
  simp [mPut, mNote, msA, msB, msI, h]
theorem mPut_16 {y : Int64} : (mPut S p q k y).1 16 = nI (p + 1) := by
  simp [mPut, mNote, msA, msB, msI]
theorem mOk_put {y : Int64} (h : mOk S) (hc : okc S q k y) : mOk (mPut S p q k y) := by
  refine mOk_c h (mPut_A (by decide) (by decide) (by decide)) (mPut_A (by decide) (by decide) (by decide)) (mPut_A (by decide) (by decide) (by decide)) ?_
  intro t ht
  rw [mPut_5, mPut_6]
  by_cases e : t = q
  · subst e
    rw [if_pos rfl, if_pos rfl]
    exact hc
  · rw [if_neg e, if_neg e]
    exact okc_self h ht
theorem mPd_put {y : Int64} (h : mPd S p) (hq : q < 320) : mPd (mPut S p q k y) (p + 1) := by
  refine ⟨mPut_16, fun x hx => ?_⟩
  rw [mPut_13]
  by_cases e : x = p
  · rw [if_pos e, nI_toInt (by omega)]
    omega
  · rw [if_neg e]
    exact h.2 x (by omega)
theorem sPutBy_0 (h : sPutBy S s i v a = 0) : mRow S s = true ∧ mIn S (mr S s) i = true ∧ sAdm (S.2.2.1 2 (mr S s)) a = true ∧ ¬ (v ≠ 8 ∧ 8 ≤ S.2.2.1 2 (mr S s)) ∧ ¬ (S.2.2.1 2 (mr S s) < 8 ∧ a = 8) ∧ ¬ S.2.2.1 7 s = -11 := by
  unfold sPutBy at h
  by_cases e1 : S.2.2.1 7 s = -11
  · rw [if_pos e1] at h; exact absurd h (by decide)
  · rw [if_neg e1] at h
    by_cases e2 : mRow S s = false
    · rw [if_pos e2] at h; exact absurd h (by decide)
    · rw [if_neg e2] at h
      by_cases e3 : v ≠ 8 ∧ 8 ≤ S.2.2.1 2 (mr S s)
      · rw [if_pos e3] at h; exact absurd h (by decide)
      · rw [if_neg e3] at h
        by_cases e4 : S.2.2.1 2 (mr S s) < 8 ∧ a = 8
        · rw [if_pos e4] at h; exact absurd h (by decide)
        · rw [if_neg e4] at h
          by_cases e5 : mIn S (mr S s) i = false
          · rw [if_pos e5] at h; exact absurd h (by decide)
          · rw [if_neg e5] at h
            by_cases e6 : sAdm (S.2.2.1 2 (mr S s)) a = false
            · rw [if_pos e6] at h; exact absurd h (by decide)
            · exact ⟨by simpa using e2, by simpa using e5, by simpa using e6, e3, e4, e1⟩
theorem okc_put (hO : mOk S) (hb : okb a b) (h : sPutBy S s i v a = 0) : okc S (sAt S s i) (sNk (S.2.2.1 2 (mr S s)) a) (sNv (S.2.2.1 2 (mr S s)) a b) := by
  obtain ⟨h1, h2, h3, _⟩ := sPutBy_0 h
  obtain ⟨e3, hr⟩ := mRow_eq h1
  obtain ⟨z1, z2, _⟩ := mIn_eq hO.1 hr h2
  unfold sAt
  refine ⟨by omega, ?_, ?_, ?_⟩
  · unfold sNk sNv
    split
    · exact okv_view hb.1
    · exact hb.1
  · rw [show (32 * mr S s + tn i) / 32 = mr S s by omega]
    intro h8
    unfold sNk
    rw [if_pos h8]
  · unfold sNk sNv
    split
    · rename_i e
      exact okl_n (hO.2.2.2.2.1 (mr S s) hr).1 e
    · exact hb.2
theorem mPb_ok (hO : mOk S) (hb : okb a b) : mOk (mPb S s i v a b) := by
  unfold mPb
  split
  · rename_i e
    exact mOk_put hO (okc_put hO hb e)
  · exact hO
theorem mPb_pd (hO : mOk S) (hb : okb a b) (hp : p < 64) (h : mPd S p) (e : sPutBy S s i v a = 0) : mPd (mPb S s i v a b) (p + 1) := by
  unfold mPb
  rw [if_pos e, h.1, tn_nI (by omega)]
  exact mPd_put h (okc_put hO hb e).1
theorem mPb_I {z : Nat} (h : z ≠ 16) : (mPb S s i v a b).1 z = S.1 z := by
  unfold mPb
  split
  · exact mPut_I h
  · rfl
theorem mPb_A {z : Nat} (h5 : z ≠ 5) (h13 : z ≠ 13) (h14 : z ≠ 14) (t : Nat) : (mPb S s i v a b).2.2.1 z t = S.2.2.1 z t := by
  unfold mPb
  split
  · exact mPut_A h5 h13 h14 t
  · rfl
/-- pending puts become an act -/
def mSet (S : MS) : MS := if tn (S.1 16) = 0 then S else mKeep S (tn (S.1 16))
theorem mSet_is : mSet (mIs S a b) = mIs (mSet S) a b := by
  unfold mSet
  rw [mIs_1 (by decide)]
  split
  · rfl
  · rw [mKeep_is]
theorem d202 {d : Nat} (hd : S.1 24 = nI d) (h24 : d ≤ 24) (hp : p ≤ 64) (h : mPd S p) : X g 202 0 [.val (va_rf (some mu)), .unset, .unset, .unset, .unset] [] (mH n kc ks mu (mIs S a b)) = some (none, mH n kc ks mu (mIs (mSet S) a b)) := by
  have e1 : tn (S.1 16) = p := by rw [h.1]; exact tn_nI (by omega)
  rw [c202 (S := mIs S a b) (d := d) (p := p) (by rw [mIs_1 (by decide)]; exact hd) h24 (by rw [mIs_1 (by decide)]; exact h.1) hp h.2, ← mSet_is]
  unfold mSet
  rw [mIs_1 (by decide), e1]
theorem d208 (hp : p ≤ 64) (h : mPd S p) : X g 208 0 [.val (va_rf (some mu)), .val (.int i), .val (.int j), .val (.int k)] [] (mH n kc ks mu (mIs S a b)) = some (some (.int (-100 - i)), mH n kc ks mu (mIs (mStop S (tn (S.1 16)) i j k) a b)) := by
  have e1 : tn (S.1 16) = p := by rw [h.1]; exact tn_nI (by omega)
  rw [c208 (S := mIs S a b) hp (by rw [mIs_1 (by decide)]; exact h.1) h.2, mStop_is, e1]
theorem d175 (hs : s < 10) (hO : mOk S) (hp : p < 64) (h : mPd S p) (hb : okb a b) : X g 175 0 [.val (va_rf (some mu)), .val (.int (nI s)), .val (.int i), .val (.int v)] [] (mH n kc ks mu (mIs S a b)) = some (some (.int (sPutBy S s i v a)), mH n kc ks mu (mIs (mPb S s i v a b) a b)) := by
  rw [c175 (S := mIs S a b) hs hO.1 hp (by rw [mIs_1 (by decide)]; exact h.1) hb.1, mPb_eq h.1 hp]
  rfl
theorem d174 (hs : s < 10) (hO : mOk S) (hp : p < 64) (h : mPd S p) (hb : okb a b) : X g 174 0 [.val (va_rf (some mu)), .val (.int (nI s)), .val (.int i), .unset, .unset, .unset] [] (mH n kc ks mu (mIs S a b)) = some (some (.int (sPutBy S s i 8 a)), mH n kc ks mu (mIs (mPb S s i 8 a b) a b)) := by
  rw [c174 (S := mIs S a b) hs hO.1 hp (by rw [mIs_1 (by decide)]; exact h.1) hb.1, mPb_eq h.1 hp]
  rfl
/-- one cell's act -/
def fWrs (S : MS) (s : Nat) (i v a : Int32) (b : Int64) : MS := if sPutBy S s i v a = 0 then mSet (mPb (msI S 16 0) s i v a b) else mCtd (msI S 16 0) (sPutBy S s i v a)
theorem e180 {d : Nat} (hd : S.1 24 = nI d) (h24 : d ≤ 24) (hs : s < 10) (hO : mOk S) (hb : okb a b) : X g 180 0 [.val (va_rf (some mu)), .val (.int (nI s)), .val (.int i), .val (.int v), .unset] [] (mH n kc ks mu (mIs S a b)) = some (some (.int (sAns (sPutBy S s i v a))), mH n kc ks mu (mIs (fWrs S s i v a b) a b)) := by
  have hp : mPd (msI S 16 0) 0 := ⟨rfl, fun x hx => absurd hx (by omega)⟩
  have hO' : mOk (msI S 16 0) := hO
  have h1 := d175 (g := g) (n := n) (kc := kc) (ks := ks) (mu := mu) (i := i) (v := v) hs hO' (by omega) hp hb
  have e0 : sPutBy (msI S 16 0) s i v a = sPutBy S s i v a := rfl
  rw [e0] at h1
  have h2 := e176 (g := g) (n := n) (kc := kc) (ks := ks) (mu := mu) (S := mIs (mPb (msI S 16 0) s i v a b) a b) (sPutBy_why S s i v a)
  unfold fWrs
  by_cases e : sPutBy S s i v a = 0
  · rw [if_pos e]
    have h3 := mPb_pd (S := msI S 16 0) (s := s) (i := i) (v := v) (a := a) (b := b) (p := 0) hO' hb (by omega) hp e
    have h4 := d202 (g := g) (n := n) (kc := kc) (ks := ks) (mu := mu) (a := a) (b := b) (S := mPb (msI S 16 0) s i v a b) (d := d) (p := 1) (by rw [mPb_I (by decide)]; exact hd) h24 (by omega) h3
    have h5 := fun T => e176 (g := g) (n := n) (kc := kc) (ks := ks) (mu := mu) (S := T) (x := 0) (Or.inl rfl)
    simp only [if_true] at h5
    simp only [x180_0, x180_1, x180_4, x180_5, x180_6, x180_7, x180_8, x180_11, x180_13, x180_15, x180_18, x180_19, x180_22, x180_23, x180_25, x180_28, c199, msI_is (q := 16) (S := S) (by decide), h1, h4, e, h5, Option.bind_some, Option.toList_some, Option.toList_none, List.cons_append, List.nil_append, Option.isSome_some, if_true, eq_self, or_true, true_or, xb_01, mcl_cl, not_true_eq_false, not_false_eq_true, if_false]
  · rw [if_neg e]
    rw [if_neg e, mCtd_is] at h2
    have h3 : mPb (msI S 16 0) s i v a b = msI S 16 0 := by
      unfold mPb
      rw [if_neg]
      exact e
    rw [h3] at h1 h2
    simp only [x180_0, x180_1, x180_4, x180_5, x180_6, x180_7, x180_8, x180_11, x180_13, x180_15, x180_18, x180_19, x180_22, x180_23, x180_25, x180_28, c199, msI_is (q := 16) (S := S) (by decide), h1, e, h2, Option.bind_some, Option.toList_some, Option.toList_none, List.cons_append, List.nil_append, Option.isSome_some, if_true, eq_self, or_true, true_or, xb_01, mcl_cl, not_true_eq_false, not_false_eq_true, if_false]
def fWrite (S : MS) (i j v : Int32) (u : Int64) : Int32 × MS := if mSlot i = false then (-1, S) else if mWithin v.toInt 0 7 = false then (-1, S) else (sAns (sPutBy S (tn i) j v v), fWrs S (tn i) j v v (pBy v u))
theorem e181 {d : Nat} (hd : S.1 24 = nI d) (h24 : d ≤ 24) (hO : mOk S) : ∃ a b, X g 181 0 [.val (va_rf (some mu)), .val (.int i), .val (.int j), .val (.int v), .val (.long u), .second] [] (mH n kc ks mu S) = some (some (.int (fWrite S i j v u).1), mH n kc ks mu (mIs (fWrite S i j v u).2 a b)) := by
  unfold fWrite
  by_cases e1 : mSlot i = false
  · rw [if_pos e1]
    refine ⟨S.1 0, S.2.1 1, ?_⟩
    rw [mIs_self]
    simp only [x181_0, x181_1, x181_4, x181_7, x181_8, x181_9, x181_10, x181_13, x181_16, x181_19, x181_20, x181_21, x181_22, x181_23, x181_25, x181_28, x181_29, x181_30, x181_31, x181_32, x181_35, c164, e1, xb_f, Option.bind_some, Option.toList_some, Option.toList_none, List.cons_append, List.nil_append, Option.isSome_some, if_true, eq_self, or_true, true_or, xb_01, mcl_cl, not_true_eq_false, not_false_eq_true, if_false]
  · rw [if_neg e1]
    have e1 : mSlot i = true := by simpa using e1
    obtain ⟨e2, e3⟩ := mSlot_eq e1
    by_cases e4 : mWithin v.toInt 0 7 = false
    · have e7 : mWithin v.toInt (Int64.toInt 0) (Int64.toInt 7) = false := e4
      rw [if_pos e4]
      refine ⟨S.1 0, S.2.1 1, ?_⟩
      rw [mIs_self]
      simp only [x181_0, x181_1, x181_4, x181_7, x181_8, x181_9, x181_10, x181_13, x181_16, x181_19, x181_20, x181_21, x181_22, x181_23, x181_25, x181_28, x181_29, x181_30, x181_31, x181_32, x181_35, c164, c154, e1, i32_64, e7, xb_f, xb_t, i32_10, Option.bind_some, Option.toList_some, Option.toList_none, List.cons_append, List.nil_append, Option.isSome_some, if_true, eq_self, or_true, true_or, xb_01, mcl_cl, not_true_eq_false, not_false_eq_true, if_false]
    · rw [if_neg e4]
      have e4 : mWithin v.toInt 0 7 = true := by simpa using e4
      have e7 : mWithin v.toInt (Int64.toInt 0) (Int64.toInt 7) = true := e4
      refine ⟨v, pBy v u, ?_⟩
      have h1 := e180 (g := g) (n := n) (kc := kc) (ks := ks) (mu := mu) (i := j) (v := v) (b := pBy v u) hd h24 e3 hO (okb_num e4)
      rw [← e2] at h1
      simp only [x181_0, x181_1, x181_4, x181_7, x181_8, x181_9, x181_10, x181_13, x181_16, x181_19, x181_20, x181_21, x181_22, x181_23, x181_25, x181_28, x181_29, x181_30, x181_31, x181_32, x181_35, c164, c154, e1, i32_64, e7, xb_t, i32_10, d157, h1, Option.bind_some, Option.toList_some, Option.toList_none, List.cons_append, List.nil_append, Option.isSome_some, if_true, eq_self, or_true, true_or, xb_01, mcl_cl, not_true_eq_false, not_false_eq_true, if_false]
def fBox (S : MS) (i j k : Int32) (u : Int64) : Int32 × MS := if mSlot i = false then (-1, S) else if mWithin k.toInt 0 10 = false then (-1, S) else if mNone k u = true then (-2, S) else (sAns (sPutBy S (tn i) j 8 k), fWrs S (tn i) j 8 k (pBy k u))
theorem e183 {d : Nat} (hd : S.1 24 = nI d) (h24 : d ≤ 24) (hO : mOk S) : ∃ a b, X g 183 0 [.val (va_rf (some mu)), .val (.int i), .val (.int j), .val (.int k), .val (.long u), .second] [] (mH n kc ks mu S) = some (some (.int (fBox S i j k u).1), mH n kc ks mu (mIs (fBox S i j k u).2 a b)) := by
  unfold fBox
  by_cases e1 : mSlot i = false
  · rw [if_pos e1]
    refine ⟨S.1 0, S.2.1 1, ?_⟩
    rw [mIs_self]
    simp only [x183_0, x183_1, x183_4, x183_7, x183_8, x183_9, x183_10, x183_13, x183_16, x183_19, x183_20, x183_21, x183_22, x183_24, x183_27, x183_30, x183_32, x183_33, x183_34, x183_35, x183_37, x183_40, x183_41, x183_42, x183_43, x183_45, x183_48, c164, e1, xb_f, Option.bind_some, Option.toList_some, Option.toList_none, List.cons_append, List.nil_append, Option.isSome_some, if_true, eq_self, or_true, true_or, xb_01, mcl_cl, not_true_eq_false, not_false_eq_true, if_false]
  · rw [if_neg e1]
    have e1 : mSlot i = true := by simpa using e1
    obtain ⟨e2, e3⟩ := mSlot_eq e1
    by_cases e4 : mWithin k.toInt 0 10 = false
    · have e7 : mWithin k.toInt (Int64.toInt 0) (Int64.toInt 10) = false := e4
      rw [if_pos e4]
      refine ⟨S.1 0, S.2.1 1, ?_⟩
      rw [mIs_self]
      simp only [x183_0, x183_1, x183_4, x183_7, x183_8, x183_9, x183_10, x183_13, x183_16, x183_19, x183_20, x183_21, x183_22, x183_24, x183_27, x183_30, x183_32, x183_33, x183_34, x183_35, x183_37, x183_40, x183_41, x183_42, x183_43, x183_45, x183_48, c164, c154, e1, i32_64, e7, xb_f, xb_t, i32_10, Option.bind_some, Option.toList_some, Option.toList_none, List.cons_append, List.nil_append, Option.isSome_some, if_true, eq_self, or_true, true_or, xb_01, mcl_cl, not_true_eq_false, not_false_eq_true, if_false]
    · rw [if_neg e4]
      have e4 : mWithin k.toInt 0 10 = true := by simpa using e4
      have e7 : mWithin k.toInt (Int64.toInt 0) (Int64.toInt 10) = true := e4
      by_cases e5 : mNone k u = true
      · rw [if_pos e5]
        refine ⟨S.1 0, S.2.1 1, ?_⟩
        rw [mIs_self]
        simp only [x183_0, x183_1, x183_4, x183_7, x183_8, x183_9, x183_10, x183_13, x183_16, x183_19, x183_20, x183_21, x183_22, x183_24, x183_27, x183_30, x183_32, x183_33, x183_34, x183_35, x183_37, x183_40, x183_41, x183_42, x183_43, x183_45, x183_48, c164, c154, c156, e1, e5, i32_64, e7, xb_f, xb_t, i32_10, Option.bind_some, Option.toList_some, Option.toList_none, List.cons_append, List.nil_append, Option.isSome_some, if_true, eq_self, or_true, true_or, xb_01, mcl_cl, not_true_eq_false, not_false_eq_true, if_false]
      · rw [if_neg e5]
        have e5 : mNone k u = false := by simpa using e5
        refine ⟨k, pBy k u, ?_⟩
        have h1 := e180 (g := g) (n := n) (kc := kc) (ks := ks) (mu := mu) (i := j) (v := 8) hd h24 e3 hO (okb_by (mWithin_iff.mp e4).1 (mWithin_iff.mp e4).2 e5)
        rw [← e2] at h1
        simp only [x183_0, x183_1, x183_4, x183_7, x183_8, x183_9, x183_10, x183_13, x183_16, x183_19, x183_20, x183_21, x183_22, x183_24, x183_27, x183_30, x183_32, x183_33, x183_34, x183_35, x183_37, x183_40, x183_41, x183_42, x183_43, x183_45, x183_48, c164, c154, c156, e1, e5, i32_64, e7, xb_t, xb_f, i32_10, d157, h1, Option.bind_some, Option.toList_some, Option.toList_none, List.cons_append, List.nil_append, Option.isSome_some, if_true, eq_self, or_true, true_or, xb_01, mcl_cl, not_true_eq_false, not_false_eq_true, if_false]
end M16
