/-! THE REFERENCE's methods, 17: slots -/
section M18
variable {g : xG} {n kc ks mu s w q p r t f o : Nat} {S T : MS} {h : xH} {i j k m v x : Int32} {u : Int64} {a : Int32} {b : Int64}
/-- the acts are sound -/
def mJ (S : MS) (d c : Nat) : Prop := S.1 24 = nI d ∧ S.1 23 = nI c ∧ d ≤ c ∧ c ≤ 24 ∧ ∀ w, w < c → mJa S w
def mLo (S : MS) (s : Nat) : MS := msA S 7 s (-11)
/-- whether nobody holds a slot's row once the slot lets it go -/
def mDrp (S : MS) (s : Nat) : Bool := mRow S s && decide (mHolders (mLo S s) (S.2.2.1 7 s) = 0)
def sLet (S : MS) (s : Nat) : Nat × Nat × (Nat → Nat) := if mDrp S s = true then sSel S (S.2.2.1 7 s) else (tn (S.1 23), tn (S.1 24), fun x => x)
/-- a slot let go -/
def mLet (S : MS) (s : Nat) (T : MS) : Prop := mSo T (mLo S s) ∧ T.1 23 = nI (sLet S s).1 ∧ T.1 24 = nI (sLet S s).2.1 ∧ (∀ x, x < (sLet S s).1 → mAc T S x ((sLet S s).2.2 x)) ∧ (sLet S s).1 ≤ tn (S.1 23)
theorem sSel_lo : sSel (mLo S s) i = sSel S i := by
  have h1 : ∀ y, sHs (mLo S s) i y = sHs S i y := by
    intro y
    unfold sHs mLo
    simp [msA]
  have h2 : sHs (mLo S s) i = sHs S i := funext h1
  unfold sSel
  rw [h2]
  rfl
theorem mAc_lo {T : MS} {x y : Nat} (h : mAc T (mLo S s) x y) : mAc T S x y := by
  obtain ⟨h1, h2⟩ := h
  refine ⟨?_, fun k hk => ?_⟩
  · rw [h1]
    simp [mLo, msA]
  · obtain ⟨a1, a2, a3, a4, a5⟩ := h2 k hk
    refine ⟨?_, ?_, ?_, ?_, ?_⟩
    · rw [a1]; simp [mLo, msA]
    · rw [a2]; simp [mLo, msA]
    · rw [a3]; rfl
    · rw [a4]; simp [mLo, msA]
    · rw [a5]; rfl
theorem e167 {d c : Nat} (hs : s < 10) (hj : mJ S d c) : ∃ T, X g 167 0 [.val (va_rf (some mu)), .val (.int (nI s)), .unset] [] (mH n kc ks mu S) = some (none, mH n kc ks mu T) ∧ mLet S s T := by
  obtain ⟨j1, j2, j3, j4, j5⟩ := hj
  have a1 := xin_nI hs (n := 10) (by decide)
  have a2 := nI_clamp (lt31 hs (by decide))
  have hkeep : mDrp S s = false → mLet S s (mLo S s) := by
    intro hd
    unfold mLet
    rw [show sLet S s = (tn (S.1 23), tn (S.1 24), fun x => x) by unfold sLet; rw [hd, if_neg (by simp)]]
    refine ⟨mSo_refl, ?_, ?_, fun x _ => mAc_lo (mAc_refl x), Nat.le_refl _⟩
    · show S.1 23 = nI (tn (S.1 23))
      rw [j2, tn_nI (by omega)]
    · show S.1 24 = nI (tn (S.1 24))
      rw [j1, tn_nI (by omega)]
  by_cases e1 : S.2.2.1 7 s < 0
  · refine ⟨mLo S s, ?_, hkeep (by unfold mDrp mRow; simp [e1])⟩
    simp only [x167_0, x167_1, x167_4, x167_5, x167_6, x167_7, x167_8, x167_11, x167_12, x167_14, x167_15, x167_16, x167_19, x167_20, x167_22, x167_25, x167_26, x167_27, x167_30, x167_33, x167_34, x167_35, x167_38, mf_7, ml_7, ms_7, a1, a2, e1, Option.bind_some, Option.toList_some, Option.toList_none, List.cons_append, List.nil_append, Option.isSome_some, if_true, eq_self, or_true, true_or, xb_01, mcl_cl, not_true_eq_false, not_false_eq_true, if_false]
    rfl
  · by_cases e2 : 10 ≤ S.2.2.1 7 s
    · refine ⟨mLo S s, ?_, hkeep (by unfold mDrp mRow; simp [e2])⟩
      simp only [x167_0, x167_1, x167_4, x167_5, x167_6, x167_7, x167_8, x167_11, x167_12, x167_14, x167_15, x167_16, x167_19, x167_20, x167_22, x167_25, x167_26, x167_27, x167_30, x167_33, x167_34, x167_35, x167_38, mf_7, ml_7, ms_7, a1, a2, e1, e2, Option.bind_some, Option.toList_some, Option.toList_none, List.cons_append, List.nil_append, Option.isSome_some, if_true, eq_self, or_true, true_or, xb_01, mcl_cl, not_true_eq_false, not_false_eq_true, if_false]
      rfl
    · have e3 : mRow S s = true := by unfold mRow; simp [e1, e2]
      by_cases e4 : mHolders (mLo S s) (S.2.2.1 7 s) = 0
      · have e5 : mDrp S s = true := by unfold mDrp; simp [e3, e4]
        obtain ⟨T, h1, h2, h3, h4, h5⟩ := e204 (g := g) (n := n) (kc := kc) (ks := ks) (mu := mu) (S := mLo S s) (i := S.2.2.1 7 s) (dn := d) (c := c) j1 j2 j3 j4 (fun w hw => by
          have := j5 w hw
          unfold mJa at this ⊢
          simpa [mLo, msA] using this)
        rw [sSel_lo] at h1 h4 h5
        have hsl : sLet S s = sSel S (S.2.2.1 7 s) := by unfold sLet; rw [if_pos e5]
        refine ⟨msI (msI T 23 (nI (sSel S (S.2.2.1 7 s)).1)) 24 (nI (sSel S (S.2.2.1 7 s)).2.1), ?_, ?_⟩
        · have e6 : nI (mHolders (mLo S s) (S.2.2.1 7 s)) = 0 := by rw [e4]; rfl
          have e6' : nI (mHolders (msA S 7 s (-11)) (S.2.2.1 7 s)) = 0 := e6
          have h1' : X g 204 0 [.val (va_rf (some mu)), .val (.int (S.2.2.1 7 s)), .unset, .unset, .unset, .unset, .unset] [] (mH n kc ks mu (msA S 7 s (-11))) = _ := h1
          simp only [x167_0, x167_1, x167_4, x167_5, x167_6, x167_7, x167_8, x167_11, x167_12, x167_14, x167_15, x167_16, x167_19, x167_20, x167_22, x167_25, x167_26, x167_27, x167_30, x167_33, x167_34, x167_35, x167_38, mf_7, ml_7, ms_7, a1, a2, e1, e2, c166, e6', h1', Option.bind_some, Option.toList_some, Option.toList_none, List.cons_append, List.nil_append, Option.isSome_some, if_true, eq_self, or_true, true_or, xb_01, mcl_cl, not_true_eq_false, not_false_eq_true, if_false]
        · unfold mLet
          rw [hsl]
          refine ⟨?_, rfl, rfl, ?_, ?_⟩
          · refine mSo_trans ?_ h3
            refine ⟨rfl, fun q a b => ?_, fun _ _ _ _ _ _ => rfl, fun _ _ _ _ => rfl⟩
            simp [msI, a, b]
          · intro x hx
            exact mAc_lo (h4 x hx)
          · rw [j2, tn_nI (by omega)]
            exact h5
      · have e5 : mDrp S s = false := by unfold mDrp; simp [e4]
        refine ⟨mLo S s, ?_, hkeep e5⟩
        have e6 : ¬ nI (mHolders (msA S 7 s (-11)) (S.2.2.1 7 s)) = 0 := by
          have hm : ∀ (f : Nat → Bool) d y, mCnt f y d ≤ d := by
            intro f d
            induction d with
            | zero => intro y; exact Nat.le_refl _
            | succ d ih =>
              intro y
              rw [mCnt]
              have := ih (y + 1)
              cases f y <;> simp <;> omega
          have h9 := hm (fun q => decide ((msA S 7 s (-11)).2.2.1 7 q = S.2.2.1 7 s)) 10 0
          refine nI_ne0 (Nat.pos_of_ne_zero e4) ?_
          show mCnt _ 0 10 < _
          omega
        simp only [x167_0, x167_1, x167_4, x167_5, x167_6, x167_7, x167_8, x167_11, x167_12, x167_14, x167_15, x167_16, x167_19, x167_20, x167_22, x167_25, x167_26, x167_27, x167_30, x167_33, x167_34, x167_35, x167_38, mf_7, ml_7, ms_7, a1, a2, e1, e2, c166, e6, Option.bind_some, Option.toList_some, Option.toList_none, List.cons_append, List.nil_append, Option.isSome_some, if_true, eq_self, or_true, true_or, xb_01, mcl_cl, not_true_eq_false, not_false_eq_true, if_false]
        rfl
/-- some row is free -/
theorem pigeon : ∀ m (H : Nat → Int32) (L : List Int32), L.Nodup → m < L.length → ∃ x, x ∈ L ∧ ∀ q, q < m → H q ≠ x := by
  intro m
  induction m with
  | zero =>
    intro H L _ hl
    cases L with
    | nil => simp at hl
    | cons x l => exact ⟨x, by simp, fun q hq => absurd hq (by omega)⟩
  | succ m ih =>
    intro H L hn hl
    by_cases hm : H m ∈ L
    · have h1 := List.length_erase_of_mem hm
      obtain ⟨x, h2, h3⟩ := ih H (L.erase (H m)) (hn.erase _) (by omega)
      have h4 := (hn.mem_erase_iff).mp h2
      refine ⟨x, h4.2, fun q hq => ?_⟩
      by_cases e : q = m
      · rw [e]; exact fun z => h4.1 z.symm
      · exact h3 q (by omega)
    · obtain ⟨x, h2, h3⟩ := ih H L hn (by omega)
      refine ⟨x, h2, fun q hq => ?_⟩
      by_cases e : q = m
      · rw [e]; exact fun z => hm (z ▸ h2)
      · exact h3 q (by omega)
theorem mCnt_0 {f : Nat → Bool} : ∀ d y, (∀ x, y ≤ x → x < y + d → f x = false) → mCnt f y d = 0 := by
  intro d
  induction d with
  | zero => intro y _; rfl
  | succ d ih =>
    intro y h
    rw [mCnt, h y (by omega) (by omega), ih (y + 1) (fun x a b => h x (by omega) (by omega))]
    rfl
theorem mCnt_pos {f : Nat → Bool} : ∀ d y x, y ≤ x → x < y + d → f x = true → 0 < mCnt f y d := by
  intro d
  induction d with
  | zero => intro y x a b; omega
  | succ d ih =>
    intro y x a b hf
    rw [mCnt]
    by_cases e : x = y
    · rw [← e, hf]
      simp
      omega
    · have := ih (y + 1) x (by omega) (by omega) hf
      omega
theorem mCnt_le {f : Nat → Bool} : ∀ d y, mCnt f y d ≤ d := by
  intro d
  induction d with
  | zero => intro y; exact Nat.le_refl _
  | succ d ih =>
    intro y
    rw [mCnt]
    have := ih (y + 1)
    cases f y <;> simp <;> omega
/-- the first row that nobody holds -/
def mFr (S : MS) (s : Nat) : Nat := mUnl (fun r => !decide (mHolders (mLo S s) (nI r) = 0)) 0 10
theorem mUnl_lt {f : Nat → Bool} : ∀ d y x, y ≤ x → x < y + d → f x = false → mUnl f y d ≤ x := by
  intro d
  induction d with
  | zero => intro y x a b; omega
  | succ d ih =>
    intro y x a b hf
    rw [mUnl]
    by_cases e : x = y
    · rw [← e, hf, if_neg (by simp)]
      exact Nat.le_refl _
    · split
      · exact ih (y + 1) x (by omega) (by omega) hf
      · exact a
theorem mFr_lt (hs : s < 10) : mFr S s < 10 := by
  obtain ⟨x, h1, h2⟩ := pigeon 9 (fun q => (mLo S s).2.2.1 7 (if q < s then q else q + 1)) ((List.range 10).map nI) (by decide) (by decide)
  obtain ⟨r, hr, rfl⟩ := List.mem_map.mp h1
  have hr := List.mem_range.mp hr
  have h3 : mHolders (mLo S s) (nI r) = 0 := by
    unfold mHolders
    refine mCnt_0 10 0 (fun q _ hq => ?_)
    rw [decide_eq_false]
    by_cases e : q = s
    · subst e
      have e7 : (mLo S q).2.2.1 7 q = -11 := by simp [mLo, msA]
      rw [e7]
      intro z
      have := congrArg Int32.toInt z
      rw [nI_toInt (by omega)] at this
      have e : (-11 : Int32).toInt = -11 := rfl
      rw [e] at this
      omega
    · by_cases e2 : q < s
      · have := h2 q (by omega)
        rw [if_pos e2] at this
        exact this
      · have := h2 (q - 1) (by omega)
        rw [if_neg (by omega), show q - 1 + 1 = q by omega] at this
        exact this
  have := mUnl_lt (f := fun r => !decide (mHolders (mLo S s) (nI r) = 0)) 10 0 r (by omega) (by omega) (by simp [h3])
  unfold mFr
  omega
theorem mUnl_no {f : Nat → Bool} : ∀ d y, mUnl f y d < y + d → f (mUnl f y d) = false := by
  intro d
  induction d with
  | zero => intro y h; rw [mUnl] at h; omega
  | succ d ih =>
    intro y h
    rw [mUnl] at h ⊢
    by_cases e : f y = true
    · rw [if_pos e] at h ⊢
      exact ih (y + 1) (by omega)
    · rw [if_neg e]
      simpa using e
theorem l168a (hT : ∀ q, T.2.2.1 7 q = (mLo S s).2.2.1 7 q) : ∀ d y, y + d = 10 → mUnl (fun r => !decide (mHolders (mLo S s) (nI r) = 0)) y d < 10 → X g 168 45 [.val (va_rf (some mu)), .val (.int i), .val (.int j), .val (.int k), .val (.int (nI y)), .unset] [] (mH n kc ks mu T) = X g 168 60 [.val (va_rf (some mu)), .val (.int i), .val (.int j), .val (.int k), .val (.int (nI (mUnl (fun r => !decide (mHolders (mLo S s) (nI r) = 0)) y d))), .unset] [] (mH n kc ks mu T) := by
  have hh : ∀ x, mHolders T x = mHolders (mLo S s) x := by
    intro x
    unfold mHolders
    simp only [hT]
  intro d
  induction d with
  | zero =>
    intro y hy h
    rw [mUnl] at h
    omega
  | succ d ih =>
    intro y hy h
    rw [mUnl] at h ⊢
    by_cases e : mHolders (mLo S s) (nI y) = 0
    · have e1 : nI (mHolders (mLo S s) (nI y)) ≤ 0 := by rw [e]; decide
      rw [if_neg (by simp [e])]
      simp only [x168_45, x168_46, x168_48, x168_51, c166, hh, e1, Option.bind_some, Option.toList_some, Option.toList_none, List.cons_append, List.nil_append, Option.isSome_some, if_true, eq_self, or_true, true_or, xb_01, mcl_cl, not_true_eq_false, not_false_eq_true, if_false]
    · have e1 : ¬ nI (mHolders (mLo S s) (nI y)) ≤ 0 := by
        have hm : mHolders (mLo S s) (nI y) ≤ 10 := mCnt_le 10 0
        generalize mHolders (mLo S s) (nI y) = hh at hm e
        exact nI_ge (a := 0) (b := hh) (Nat.pos_of_ne_zero e) (by omega)
      rw [if_pos (by simp [e])] at h ⊢
      have h9 := ih (y + 1) (by omega) h
      simp only [x168_45, x168_46, x168_48, x168_51, c166, hh, e1, Option.bind_some, Option.toList_some, Option.toList_none, List.cons_append, List.nil_append, Option.isSome_some, if_true, eq_self, or_true, true_or, xb_01, mcl_cl, not_true_eq_false, not_false_eq_true, if_false]
      simp only [x168_54, x168_57, nI_1]
      exact h9
/-- a row's cells, all alike -/
def mFl (T : MS) (r : Nat) (k : Int32) (c : Nat) : MS := (T.1, T.2.1, fun q i => if q = 5 ∧ 32 * r ≤ i ∧ i < 32 * r + c then k else T.2.2.1 q i, fun q i => if q = 6 ∧ 32 * r ≤ i ∧ i < 32 * r + c then 0 else T.2.2.2 q i)
theorem mFl_0 : mFl T r k 0 = T := by
  refine Prod.ext rfl (Prod.ext rfl (Prod.ext ?_ ?_))
  · funext q i
    simp only [mFl]
    rw [if_neg (by omega)]
  · funext q i
    simp only [mFl]
    rw [if_neg (by omega)]
theorem mFl_s {c : Nat} : msB (msA (mFl T r k c) 5 (32 * r + c) k) 6 (32 * r + c) 0 = mFl T r k (c + 1) := by
  refine Prod.ext rfl (Prod.ext rfl (Prod.ext ?_ ?_))
  · funext q i
    simp only [mFl, msA, msB]
    by_cases e : i = 32 * r + c
    · subst e
      by_cases e2 : q = 5
      · subst e2
        simp
      · simp [e2]
    · rw [if_neg (by omega)]
      have hx : (32 * r ≤ i ∧ i < 32 * r + (c + 1)) = (32 * r ≤ i ∧ i < 32 * r + c) := propext (by omega)
      simp only [hx]
  · funext q i
    simp only [mFl, msA, msB]
    by_cases e : i = 32 * r + c
    · subst e
      by_cases e2 : q = 6
      · subst e2
        simp
      · simp [e2]
    · rw [if_neg (by omega)]
      have hx : (32 * r ≤ i ∧ i < 32 * r + (c + 1)) = (32 * r ≤ i ∧ i < 32 * r + c) := propext (by omega)
      simp only [hx]
theorem l168b (hr : r < 10) : ∀ d c, c + d = 32 → X g 168 95 [.val (va_rf (some mu)), .val (.int i), .val (.int j), .val (.int k), .val (.int (nI r)), .val (.int (nI c))] [] (mH n kc ks mu (mFl T r (if j < 8 then j else 8) c)) = some (some (.int 1), mH n kc ks mu (mFl T r (if j < 8 then j else 8) 32)) := by
  intro d
  induction d with
  | zero =>
    intro c hc
    have e : c = 32 := by omega
    subst e
    have h1 : (32 : Int32) ≤ nI 32 := by decide
    simp only [x168_95, x168_97, x168_99, x168_102, x168_103, x168_106, x168_108, x168_110, x168_111, x168_113, x168_114, x168_115, x168_117, x168_120, x168_121, x168_124, x168_126, x168_127, x168_128, x168_131, x168_133, x168_135, x168_136, x168_138, x168_139, x168_140, x168_141, x168_147, x168_148, h1, Option.bind_some, Option.toList_some, Option.toList_none, List.cons_append, List.nil_append, Option.isSome_some, if_true, eq_self, or_true, true_or, xb_01, mcl_cl, not_true_eq_false, not_false_eq_true, if_false]
  | succ d ih =>
    intro c hc
    have h1 : ¬ (32 : Int32) ≤ nI c := nI_ge (b := 32) (by omega) (by decide)
    have h2 : 32 * r + c < 320 := by omega
    have h9 := ih (c + 1) (by omega)
    by_cases e : j < 8
    · have e' : ¬ (8 : Int32) ≤ j := Int32.not_le.mpr e
      rw [if_pos e] at h9 ⊢
      simp only [x168_95, x168_97, x168_99, x168_102, x168_103, x168_106, x168_108, x168_110, x168_111, x168_113, x168_114, x168_115, x168_117, x168_120, x168_121, x168_124, x168_126, x168_127, x168_128, x168_131, x168_133, x168_135, x168_136, x168_138, x168_139, x168_140, x168_141, h1, e', mf_5, ms_5, mf_6, ms_6, nI_cell, xin_nI h2 (by decide), nI_clamp (lt31 h2 (by decide)), Option.bind_some, Option.toList_some, Option.toList_none, List.cons_append, List.nil_append, Option.isSome_some, if_true, eq_self, or_true, true_or, xb_01, mcl_cl, not_true_eq_false, not_false_eq_true, if_false]
      simp only [x168_144, nI_1, mFl_s]
      exact h9
    · have e' : (8 : Int32) ≤ j := Int32.not_lt.mp e
      rw [if_neg e] at h9 ⊢
      simp only [x168_95, x168_97, x168_99, x168_102, x168_103, x168_106, x168_108, x168_110, x168_111, x168_113, x168_114, x168_115, x168_117, x168_120, x168_121, x168_124, x168_126, x168_127, x168_128, x168_131, x168_133, x168_135, x168_136, x168_138, x168_139, x168_140, x168_141, h1, e', mf_5, ms_5, mf_6, ms_6, nI_cell, xin_nI h2 (by decide), nI_clamp (lt31 h2 (by decide)), Option.bind_some, Option.toList_some, Option.toList_none, List.cons_append, List.nil_append, Option.isSome_some, if_true, eq_self, or_true, true_or, xb_01, mcl_cl, not_true_eq_false, not_false_eq_true, if_false]
      simp only [x168_144, nI_1, mFl_s]
      exact h9
/-- a new row in a slot -/
def mMk (T : MS) (s r : Nat) (k c : Int32) : MS := mFl (msA (msA (msA (msA T 7 s (nI r)) 2 r k) 3 r c) 4 r 0) r (if k < 8 then k else 8) 32
def sMake (i k c : Int32) : Int32 := if mSlot i = false then -1 else if mWithin k.toInt 0 9 = false then -2 else if ¬ c ≤ 32 then -2 else if ¬ 0 ≤ c then -14 else 1
theorem e168 {d e : Nat} (hj : mJ S d e) : ∃ T, X g 168 0 [.val (va_rf (some mu)), .val (.int i), .val (.int k), .val (.int j), .unset, .unset] [] (mH n kc ks mu S) = some (some (.int (sMake i k j)), mH n kc ks mu (if sMake i k j = 1 then mMk T (tn i) (mFr S (tn i)) k j else S)) ∧ (sMake i k j = 1 → mLet S (tn i) T) := by
  unfold sMake
  by_cases e1 : mSlot i = false
  · refine ⟨S, ?_, ?_⟩
    · rw [if_pos e1, if_neg (by decide)]
      simp only [x168_0, x168_1, x168_4, x168_7, x168_8, x168_9, x168_10, x168_11, x168_12, x168_15, x168_18, x168_21, x168_22, x168_24, x168_27, x168_29, x168_30, x168_31, x168_34, x168_36, x168_37, x168_38, x168_39, x168_42, x168_43, c164, e1, xb_f, Option.bind_some, Option.toList_some, Option.toList_none, List.cons_append, List.nil_append, Option.isSome_some, if_true, eq_self, or_true, true_or, xb_01, mcl_cl, not_true_eq_false, not_false_eq_true, if_false]
    · rw [if_pos e1]
      intro z
      exact absurd z (by decide)
  · rw [if_neg e1]
    have e1 : mSlot i = true := by simpa using e1
    obtain ⟨e2, e3⟩ := mSlot_eq e1
    by_cases e4 : mWithin k.toInt 0 9 = false
    · have e7 : mWithin k.toInt (Int64.toInt 0) (Int64.toInt 9) = false := e4
      refine ⟨S, ?_, ?_⟩
      · rw [if_pos e4, if_neg (by decide)]
        simp only [x168_0, x168_1, x168_4, x168_7, x168_8, x168_9, x168_10, x168_11, x168_12, x168_15, x168_18, x168_21, x168_22, x168_24, x168_27, x168_29, x168_30, x168_31, x168_34, x168_36, x168_37, x168_38, x168_39, x168_42, x168_43, c164, c154, e1, e7, i32_64, xb_t, xb_f, i32_10, Option.bind_some, Option.toList_some, Option.toList_none, List.cons_append, List.nil_append, Option.isSome_some, if_true, eq_self, or_true, true_or, xb_01, mcl_cl, not_true_eq_false, not_false_eq_true, if_false]
      · rw [if_pos e4]
        intro z
        exact absurd z (by decide)
    · rw [if_neg e4]
      have e4 : mWithin k.toInt 0 9 = true := by simpa using e4
      have e7 : mWithin k.toInt (Int64.toInt 0) (Int64.toInt 9) = true := e4
      by_cases e5 : j ≤ 32
      · rw [if_neg (fun z => z e5)]
        by_cases e6 : 0 ≤ j
        · rw [if_neg (fun z => z e6)]
          obtain ⟨T, h1, h2⟩ := e167 (g := g) (n := n) (kc := kc) (ks := ks) (mu := mu) e3 hj
          rw [← e2] at h1
          have hT : ∀ q, T.2.2.1 7 q = (mLo S (tn i)).2.2.1 7 q := fun q => h2.1.2.2.1 7 q (by decide) (by decide) (by decide) (by decide)
          have hr := mFr_lt (S := S) e3
          have h3 := l168a (g := g) (n := n) (kc := kc) (ks := ks) (mu := mu) (i := i) (j := k) (k := j) hT 10 0 (by omega) hr
          have h3' : X g 168 45 [.val (va_rf (some mu)), .val (.int i), .val (.int k), .val (.int j), .val (.int 0), .unset] [] (mH n kc ks mu T) = X g 168 60 [.val (va_rf (some mu)), .val (.int i), .val (.int k), .val (.int j), .val (.int (nI (mFr S (tn i)))), .unset] [] (mH n kc ks mu T) := h3
          have h4 := l168b (g := g) (n := n) (kc := kc) (ks := ks) (mu := mu) (i := i) (j := k) (k := j) (T := msA (msA (msA (msA T 7 (tn i) (nI (mFr S (tn i)))) 2 (mFr S (tn i)) k) 3 (mFr S (tn i)) j) 4 (mFr S (tn i)) 0) hr 32 0 (by omega)
          rw [mFl_0] at h4
          have h4' : X g 168 95 [.val (va_rf (some mu)), .val (.int i), .val (.int k), .val (.int j), .val (.int (nI (mFr S (tn i)))), .val (.int 0)] [] (mH n kc ks mu (msA (msA (msA (msA T 7 (tn i) (nI (mFr S (tn i)))) 2 (mFr S (tn i)) k) 3 (mFr S (tn i)) j) 4 (mFr S (tn i)) 0)) = _ := h4
          have a1 : xin i 10 = true := by rw [e2]; exact xin_nI e3 (by decide)
          have a2 : i.toNatClampNeg = tn i := by
            have := nI_clamp (lt31 e3 (by decide))
            rw [← e2] at this
            exact this
          refine ⟨T, ?_, fun _ => h2⟩
          rw [if_pos rfl]
          simp only [x168_0, x168_1, x168_4, x168_7, x168_8, x168_9, x168_10, x168_11, x168_12, x168_15, x168_18, x168_21, x168_22, x168_24, x168_27, x168_29, x168_30, x168_31, x168_34, x168_36, x168_37, x168_38, x168_39, x168_42, x168_43, x168_60, x168_61, x168_64, x168_65, x168_67, x168_68, x168_69, x168_72, x168_74, x168_75, x168_76, x168_77, x168_80, x168_82, x168_83, x168_84, x168_85, x168_88, x168_90, x168_91, x168_92, x168_93, c164, c154, e1, e7, e5, e6, i32_64, xb_t, i32_10, h1, h3', mf_7, ms_7, mf_2, ms_2, mf_3, ms_3, mf_4, ms_4, a1, a2, xin_nI hr (by decide), nI_clamp (lt31 hr (by decide)), h4', Option.bind_some, Option.toList_some, Option.toList_none, List.cons_append, List.nil_append, Option.isSome_some, if_true, eq_self, or_true, true_or, xb_01, mcl_cl, not_true_eq_false, not_false_eq_true, if_false]
          rfl
        · refine ⟨S, ?_, ?_⟩
          · rw [if_pos e6, if_neg (by decide)]
            simp only [x168_0, x168_1, x168_4, x168_7, x168_8, x168_9, x168_10, x168_11, x168_12, x168_15, x168_18, x168_21, x168_22, x168_24, x168_27, x168_29, x168_30, x168_31, x168_34, x168_36, x168_37, x168_38, x168_39, x168_42, x168_43, c164, c154, e1, e7, e5, e6, i32_64, xb_t, i32_10, Option.bind_some, Option.toList_some, Option.toList_none, List.cons_append, List.nil_append, Option.isSome_some, if_true, eq_self, or_true, true_or, xb_01, mcl_cl, not_true_eq_false, not_false_eq_true, if_false]
          · rw [if_pos e6]
            intro z
            exact absurd z (by decide)
      · refine ⟨S, ?_, ?_⟩
        · rw [if_pos e5, if_neg (by decide)]
          simp only [x168_0, x168_1, x168_4, x168_7, x168_8, x168_9, x168_10, x168_11, x168_12, x168_15, x168_18, x168_21, x168_22, x168_24, x168_27, x168_29, x168_30, x168_31, x168_34, x168_36, x168_37, x168_38, x168_39, x168_42, x168_43, c164, c154, e1, e7, e5, i32_64, xb_t, i32_10, Option.bind_some, Option.toList_some, Option.toList_none, List.cons_append, List.nil_append, Option.isSome_some, if_true, eq_self, or_true, true_or, xb_01, mcl_cl, not_true_eq_false, not_false_eq_true, if_false]
        · rw [if_pos e5]
          intro z
          exact absurd z (by decide)
/-- a label, a word or nothing in a slot -/
def mTh (T : MS) (s : Nat) (k j : Int32) : MS := msA (msA T 7 s (if k = -1 then -11 else 10 + k)) 8 s (if k = -1 then 0 else j)
def sThing (i k j : Int32) : Int32 := if mSlot i = false then -1 else if mWithin k.toInt (-1) 1 = false then -2 else if k = 1 ∧ mWithin j.toInt 0 9 = false then -2 else 1
theorem e169 {d e : Nat} (hj : mJ S d e) : ∃ T, X g 169 0 [.val (va_rf (some mu)), .val (.int i), .val (.int k), .val (.int j)] [] (mH n kc ks mu S) = some (some (.int (sThing i k j)), mH n kc ks mu (if sThing i k j = 1 then mTh T (tn i) k j else S)) ∧ (sThing i k j = 1 → mLet S (tn i) T) := by
  unfold sThing
  by_cases e1 : mSlot i = false
  · refine ⟨S, ?_, ?_⟩
    · rw [if_pos e1, if_neg (by decide)]
      simp only [x169_0, x169_1, x169_4, x169_7, x169_8, x169_9, x169_10, x169_11, x169_14, x169_15, x169_18, x169_21, x169_22, x169_23, x169_26, x169_27, x169_28, x169_29, x169_32, x169_35, x169_38, x169_40, x169_41, x169_42, x169_43, x169_46, x169_47, x169_50, x169_51, x169_52, x169_53, x169_56, x169_58, x169_61, x169_63, x169_64, x169_65, x169_66, x169_67, x169_70, x169_71, x169_72, x169_73, x169_76, x169_77, x169_80, x169_81, x169_82, x169_83, c164, e1, xb_f, Option.bind_some, Option.toList_some, Option.toList_none, List.cons_append, List.nil_append, Option.isSome_some, if_true, eq_self, or_true, true_or, xb_01, mcl_cl, not_true_eq_false, not_false_eq_true, if_false]
    · rw [if_pos e1]
      intro z
      exact absurd z (by decide)
  · rw [if_neg e1]
    have e1 : mSlot i = true := by simpa using e1
    obtain ⟨e2, e3⟩ := mSlot_eq e1
    by_cases e4 : mWithin k.toInt (-1) 1 = false
    · have e7 : mWithin k.toInt (Int64.toInt (-1)) (Int64.toInt 1) = false := e4
      refine ⟨S, ?_, ?_⟩
      · rw [if_pos e4, if_neg (by decide)]
        simp only [x169_0, x169_1, x169_4, x169_7, x169_8, x169_9, x169_10, x169_11, x169_14, x169_15, x169_18, x169_21, x169_22, x169_23, x169_26, x169_27, x169_28, x169_29, x169_32, x169_35, x169_38, x169_40, x169_41, x169_42, x169_43, x169_46, x169_47, x169_50, x169_51, x169_52, x169_53, x169_56, x169_58, x169_61, x169_63, x169_64, x169_65, x169_66, x169_67, x169_70, x169_71, x169_72, x169_73, x169_76, x169_77, x169_80, x169_81, x169_82, x169_83, c164, c154, e1, e7, i32_64, xb_t, xb_f, i32_10, Option.bind_some, Option.toList_some, Option.toList_none, List.cons_append, List.nil_append, Option.isSome_some, if_true, eq_self, or_true, true_or, xb_01, mcl_cl, not_true_eq_false, not_false_eq_true, if_false]
      · rw [if_pos e4]
        intro z
        exact absurd z (by decide)
    · rw [if_neg e4]
      have e4 : mWithin k.toInt (-1) 1 = true := by simpa using e4
      have e7 : mWithin k.toInt (Int64.toInt (-1)) (Int64.toInt 1) = true := e4
      by_cases e5 : k = 1 ∧ mWithin j.toInt 0 9 = false
      · have e8 : mWithin j.toInt (Int64.toInt 0) (Int64.toInt 9) = false := e5.2
        refine ⟨S, ?_, ?_⟩
        · rw [if_pos e5, if_neg (by decide)]
          obtain ⟨k1, _⟩ := e5
          subst k1
          simp only [x169_0, x169_1, x169_4, x169_7, x169_8, x169_9, x169_10, x169_11, x169_14, x169_15, x169_18, x169_21, x169_22, x169_23, x169_26, x169_27, x169_28, x169_29, x169_32, x169_35, x169_38, x169_40, x169_41, x169_42, x169_43, x169_46, x169_47, x169_50, x169_51, x169_52, x169_53, x169_56, x169_58, x169_61, x169_63, x169_64, x169_65, x169_66, x169_67, x169_70, x169_71, x169_72, x169_73, x169_76, x169_77, x169_80, x169_81, x169_82, x169_83, c164, c154, e1, e7, e8, i32_64, xb_t, xb_f, i32_10, Option.bind_some, Option.toList_some, Option.toList_none, List.cons_append, List.nil_append, Option.isSome_some, if_true, eq_self, or_true, true_or, xb_01, mcl_cl, not_true_eq_false, not_false_eq_true, if_false]
        · rw [if_pos e5]
          intro z
          exact absurd z (by decide)
      · rw [if_neg e5]
        obtain ⟨T, h1, h2⟩ := e167 (g := g) (n := n) (kc := kc) (ks := ks) (mu := mu) e3 hj
        rw [← e2] at h1
        refine ⟨T, ?_, fun _ => h2⟩
        rw [if_pos rfl]
        have a1 : xin i 10 = true := by rw [e2]; exact xin_nI e3 (by decide)
        have a2 : i.toNatClampNeg = tn i := by
          have := nI_clamp (lt31 e3 (by decide))
          rw [← e2] at this
          exact this
        unfold mTh
        by_cases k1 : k = 1
        · have e8 : mWithin j.toInt (Int64.toInt 0) (Int64.toInt 9) = true := by
            have : ¬ mWithin j.toInt 0 9 = false := fun z => e5 ⟨k1, z⟩
            simpa using this
          subst k1
          have z1 : ¬ (1 : Int32) = -1 := by decide
          simp only [x169_0, x169_1, x169_4, x169_7, x169_8, x169_9, x169_10, x169_11, x169_14, x169_15, x169_18, x169_21, x169_22, x169_23, x169_26, x169_27, x169_28, x169_29, x169_32, x169_35, x169_38, x169_40, x169_41, x169_42, x169_43, x169_46, x169_47, x169_50, x169_51, x169_52, x169_53, x169_56, x169_58, x169_61, x169_63, x169_64, x169_65, x169_66, x169_67, x169_70, x169_71, x169_72, x169_73, x169_76, x169_77, x169_80, x169_81, x169_82, x169_83, c164, c154, e1, e7, e8, z1, h1, mf_7, ms_7, mf_8, ms_8, a1, a2, i32_64, xb_t, i32_10, Option.bind_some, Option.toList_some, Option.toList_none, List.cons_append, List.nil_append, Option.isSome_some, if_true, eq_self, or_true, true_or, xb_01, mcl_cl, not_true_eq_false, not_false_eq_true, if_false]
        · by_cases k2 : k = -1
          · subst k2
            have z1 : ¬ (-1 : Int32) = 1 := by decide
            simp only [x169_0, x169_1, x169_4, x169_7, x169_8, x169_9, x169_10, x169_11, x169_14, x169_15, x169_18, x169_21, x169_22, x169_23, x169_26, x169_27, x169_28, x169_29, x169_32, x169_35, x169_38, x169_40, x169_41, x169_42, x169_43, x169_46, x169_47, x169_50, x169_51, x169_52, x169_53, x169_56, x169_58, x169_61, x169_63, x169_64, x169_65, x169_66, x169_67, x169_70, x169_71, x169_72, x169_73, x169_76, x169_77, x169_80, x169_81, x169_82, x169_83, c164, c154, e1, e7, z1, h1, mf_7, ms_7, mf_8, ms_8, a1, a2, i32_64, xb_t, i32_10, Option.bind_some, Option.toList_some, Option.toList_none, List.cons_append, List.nil_append, Option.isSome_some, if_true, eq_self, or_true, true_or, xb_01, mcl_cl, not_true_eq_false, not_false_eq_true, if_false]
          · simp only [x169_0, x169_1, x169_4, x169_7, x169_8, x169_9, x169_10, x169_11, x169_14, x169_15, x169_18, x169_21, x169_22, x169_23, x169_26, x169_27, x169_28, x169_29, x169_32, x169_35, x169_38, x169_40, x169_41, x169_42, x169_43, x169_46, x169_47, x169_50, x169_51, x169_52, x169_53, x169_56, x169_58, x169_61, x169_63, x169_64, x169_65, x169_66, x169_67, x169_70, x169_71, x169_72, x169_73, x169_76, x169_77, x169_80, x169_81, x169_82, x169_83, c164, c154, e1, e7, k1, k2, h1, mf_7, ms_7, mf_8, ms_8, a1, a2, i32_64, xb_t, i32_10, Option.bind_some, Option.toList_some, Option.toList_none, List.cons_append, List.nil_append, Option.isSome_some, if_true, eq_self, or_true, true_or, xb_01, mcl_cl, not_true_eq_false, not_false_eq_true, if_false]
/-- a slot holds what another one holds -/
def mSam (T : MS) (s t : Nat) : MS := msA (msA T 7 s (T.2.2.1 7 t)) 8 s (T.2.2.1 8 t)
def sSame (i j : Int32) : Int32 := if mSlot i = false then -1 else if mSlot j = false then -1 else 1
/-- whether a slot changes -/
def mChg (S : MS) (s t : Nat) : Bool := !decide (s = t) && !(mRow S s && decide (S.2.2.1 7 s = S.2.2.1 7 t))
theorem e170 {d e : Nat} (hj : mJ S d e) : ∃ T, X g 170 0 [.val (va_rf (some mu)), .val (.int i), .val (.int j)] [] (mH n kc ks mu S) = some (some (.int (sSame i j)), mH n kc ks mu (if sSame i j = 1 ∧ mChg S (tn i) (tn j) = true then mSam T (tn i) (tn j) else S)) ∧ (sSame i j = 1 → mLet S (tn i) T) := by
  unfold sSame
  by_cases e1 : mSlot i = false
  · refine ⟨S, ?_, ?_⟩
    · rw [if_pos e1, if_neg (fun z => absurd z.1 (by decide))]
      simp only [x170_0, x170_1, x170_4, x170_7, x170_8, x170_11, x170_14, x170_15, x170_16, x170_17, x170_18, x170_21, x170_22, x170_23, x170_26, x170_29, x170_30, x170_33, x170_34, x170_35, x170_36, x170_39, x170_40, x170_41, x170_44, x170_45, x170_46, x170_49, x170_50, x170_53, x170_54, x170_55, x170_58, x170_59, x170_60, x170_61, x170_62, x170_65, x170_66, x170_67, x170_70, x170_71, x170_72, x170_73, x170_74, c164, e1, xb_f, Option.bind_some, Option.toList_some, Option.toList_none, List.cons_append, List.nil_append, Option.isSome_some, if_true, eq_self, or_true, true_or, xb_01, mcl_cl, not_true_eq_false, not_false_eq_true, if_false]
    · rw [if_pos e1]
      intro z
      exact absurd z (by decide)
  · rw [if_neg e1]
    have e1 : mSlot i = true := by simpa using e1
    obtain ⟨e2, e3⟩ := mSlot_eq e1
    by_cases f1 : mSlot j = false
    · refine ⟨S, ?_, ?_⟩
      · rw [if_pos f1, if_neg (fun z => absurd z.1 (by decide))]
        simp only [x170_0, x170_1, x170_4, x170_7, x170_8, x170_11, x170_14, x170_15, x170_16, x170_17, x170_18, x170_21, x170_22, x170_23, x170_26, x170_29, x170_30, x170_33, x170_34, x170_35, x170_36, x170_39, x170_40, x170_41, x170_44, x170_45, x170_46, x170_49, x170_50, x170_53, x170_54, x170_55, x170_58, x170_59, x170_60, x170_61, x170_62, x170_65, x170_66, x170_67, x170_70, x170_71, x170_72, x170_73, x170_74, c164, e1, f1, xb_f, xb_t, i32_10, Option.bind_some, Option.toList_some, Option.toList_none, List.cons_append, List.nil_append, Option.isSome_some, if_true, eq_self, or_true, true_or, xb_01, mcl_cl, not_true_eq_false, not_false_eq_true, if_false]
      · rw [if_pos f1]
        intro z
        exact absurd z (by decide)
    · rw [if_neg f1]
      have f1 : mSlot j = true := by simpa using f1
      obtain ⟨f2, f3⟩ := mSlot_eq f1
      obtain ⟨T, h1, h2⟩ := e167 (g := g) (n := n) (kc := kc) (ks := ks) (mu := mu) e3 hj
      refine ⟨T, ?_, fun _ => h2⟩
      have hT : ∀ q, T.2.2.1 7 q = (mLo S (tn i)).2.2.1 7 q := fun q => h2.1.2.2.1 7 q (by decide) (by decide) (by decide) (by decide)
      unfold mChg
      generalize tn i = s at *
      generalize tn j = t at *
      subst e2 f2
      have a1 := xin_nI e3 (n := 10) (by decide)
      have a2 := nI_clamp (lt31 e3 (by decide))
      have b1 := xin_nI f3 (n := 10) (by decide)
      have b2 := nI_clamp (lt31 f3 (by decide))
      by_cases z : s = t
      · subst z
        rw [if_neg (by simp)]
        simp only [x170_0, x170_1, x170_4, x170_7, x170_8, x170_11, x170_14, x170_15, x170_16, x170_17, x170_18, x170_21, x170_22, x170_23, x170_26, x170_29, x170_30, x170_33, x170_34, x170_35, x170_36, x170_39, x170_40, x170_41, x170_44, x170_45, x170_46, x170_49, x170_50, x170_53, x170_54, x170_55, x170_58, x170_59, x170_60, x170_61, x170_62, x170_65, x170_66, x170_67, x170_70, x170_71, x170_72, x170_73, x170_74, c164, e1, xb_t, i32_10, Option.bind_some, Option.toList_some, Option.toList_none, List.cons_append, List.nil_append, Option.isSome_some, if_true, eq_self, or_true, true_or, xb_01, mcl_cl, not_true_eq_false, not_false_eq_true, if_false]
      · have z1 : ¬ nI s = nI t := fun y => z ((nI_eq (by omega) (by omega)).mp y)
        cases e4 : mRow S s with
        | false =>
          rw [if_pos (by simp [z])]
          simp only [x170_0, x170_1, x170_4, x170_7, x170_8, x170_11, x170_14, x170_15, x170_16, x170_17, x170_18, x170_21, x170_22, x170_23, x170_26, x170_29, x170_30, x170_33, x170_34, x170_35, x170_36, x170_39, x170_40, x170_41, x170_44, x170_45, x170_46, x170_49, x170_50, x170_53, x170_54, x170_55, x170_58, x170_59, x170_60, x170_61, x170_62, x170_65, x170_66, x170_67, x170_70, x170_71, x170_72, x170_73, x170_74, c164, c165 e3, e1, f1, z1, e4, xb_t, xb_f, i32_10, h1, mf_7, ml_7, ms_7, mf_8, ml_8, ms_8, a1, a2, b1, b2, msA1, msA2, msA3, msA4, msB1, msB2, msB3, msB4, msI1, msI2, msI3, msI4, msL1, msL2, msL3, msL4, Nat.reduceEqDiff, false_and, true_and, and_false, and_true, and_self, Option.bind_some, Option.toList_some, Option.toList_none, List.cons_append, List.nil_append, Option.isSome_some, if_true, eq_self, or_true, true_or, xb_01, mcl_cl, not_true_eq_false, not_false_eq_true, if_false]
          rfl
        | true =>
          by_cases e5 : S.2.2.1 7 s = S.2.2.1 7 t
          · rw [if_neg (by simp [e5])]
            simp only [x170_0, x170_1, x170_4, x170_7, x170_8, x170_11, x170_14, x170_15, x170_16, x170_17, x170_18, x170_21, x170_22, x170_23, x170_26, x170_29, x170_30, x170_33, x170_34, x170_35, x170_36, x170_39, x170_40, x170_41, x170_44, x170_45, x170_46, x170_49, x170_50, x170_53, x170_54, x170_55, x170_58, x170_59, x170_60, x170_61, x170_62, x170_65, x170_66, x170_67, x170_70, x170_71, x170_72, x170_73, x170_74, c164, c165 e3, e1, f1, z1, e4, xb_t, i32_10, mf_7, ml_7, a1, a2, b1, b2, e5, Option.bind_some, Option.toList_some, Option.toList_none, List.cons_append, List.nil_append, Option.isSome_some, if_true, eq_self, or_true, true_or, xb_01, mcl_cl, not_true_eq_false, not_false_eq_true, if_false]
          · rw [if_pos (by simp [z, e5])]
            simp only [x170_0, x170_1, x170_4, x170_7, x170_8, x170_11, x170_14, x170_15, x170_16, x170_17, x170_18, x170_21, x170_22, x170_23, x170_26, x170_29, x170_30, x170_33, x170_34, x170_35, x170_36, x170_39, x170_40, x170_41, x170_44, x170_45, x170_46, x170_49, x170_50, x170_53, x170_54, x170_55, x170_58, x170_59, x170_60, x170_61, x170_62, x170_65, x170_66, x170_67, x170_70, x170_71, x170_72, x170_73, x170_74, c164, c165 e3, e1, f1, z1, e4, xb_t, i32_10, mf_7, ml_7, a1, a2, b1, b2, e5, h1, ms_7, mf_8, ml_8, ms_8, msA1, msA2, msA3, msA4, msB1, msB2, msB3, msB4, msI1, msI2, msI3, msI4, msL1, msL2, msL3, msL4, Nat.reduceEqDiff, false_and, true_and, and_false, and_true, and_self, Option.bind_some, Option.toList_some, Option.toList_none, List.cons_append, List.nil_append, Option.isSome_some, if_true, eq_self, or_true, true_or, xb_01, mcl_cl, not_true_eq_false, not_false_eq_true, if_false]
            rfl
end M18
