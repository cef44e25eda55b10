/-! THE REFERENCE's methods, 14: an act kept -/
section M15
variable {g : xG} {n kc ks mu s w q p r t f A : Nat} {S : MS} {h : xH} {i j k m v x : Int32} {u : Int64} {a : Int32} {b : Int64}
def mAt (S : MS) (k : Nat) : Nat := tn (S.2.2.1 13 k)
/-- the next put of the same cell, or how many there are -/
def sNx (S : MS) (p k : Nat) : Nat := mUnl (fun t => !decide (S.2.2.1 13 t = S.2.2.1 13 k)) (k + 1) (p - (k + 1))
def sIk (S : MS) (p k : Nat) : Int32 := if sNx S p k < p then S.2.2.1 14 (sNx S p k) else S.2.2.1 5 (mAt S k)
def sIv (S : MS) (p k : Nat) : Int64 := if sNx S p k < p then S.2.2.2 15 (sNx S p k) else S.2.2.2 6 (mAt S k)
/-- what is touched -/
def mTch (o : Nat → Nat) (f : Nat → Int32) : Nat → Nat → Int32
  | 0, r => f r
  | k + 1, r => if r = o k / 32 then mTch o f k r ||| (1 <<< (nI (o k % 32) &&& 31)) else mTch o f k r
/-- the first k puts are in act A -/
def mKs (S : MS) (p A k : Nat) : MS := (S.1, S.2.1, fun q i => if q = 4 then mTch (mAt S) (S.2.2.1 4) k i else if q = 17 ∧ 64 * A ≤ i ∧ i < 64 * A + k then S.2.2.1 13 (i - 64 * A) else if q = 18 ∧ 64 * A ≤ i ∧ i < 64 * A + k then S.2.2.1 14 (i - 64 * A) else if q = 20 ∧ 64 * A ≤ i ∧ i < 64 * A + k then sIk S p (i - 64 * A) else S.2.2.1 q i, fun q i => if q = 19 ∧ 64 * A ≤ i ∧ i < 64 * A + k then S.2.2.2 15 (i - 64 * A) else if q = 21 ∧ 64 * A ≤ i ∧ i < 64 * A + k then sIv S p (i - 64 * A) else S.2.2.2 q i)
theorem mKs_1 {k : Nat} : (mKs S p A k).1 = S.1 := rfl
theorem mKs_5 {k i : Nat} : (mKs S p A k).2.2.1 5 i = S.2.2.1 5 i := by simp [mKs]
theorem mKs_13 {k i : Nat} : (mKs S p A k).2.2.1 13 i = S.2.2.1 13 i := by simp [mKs]
theorem mKs_14 {k i : Nat} : (mKs S p A k).2.2.1 14 i = S.2.2.1 14 i := by simp [mKs]
theorem mKs_4 {k i : Nat} : (mKs S p A k).2.2.1 4 i = mTch (mAt S) (S.2.2.1 4) k i := by simp [mKs]
theorem mKs_15 {k i : Nat} : (mKs S p A k).2.2.2 15 i = S.2.2.2 15 i := by simp [mKs]
theorem mKs_6 {k i : Nat} : (mKs S p A k).2.2.2 6 i = S.2.2.2 6 i := by simp [mKs]
theorem mKs_0 : mKs S p A 0 = S := by
  refine Prod.ext rfl (Prod.ext rfl (Prod.ext ?_ ?_))
  · funext q i
    simp only [mKs, mTch]
    by_cases e : q = 4
    · rw [if_pos e, e]
    · rw [if_neg e, if_neg (by omega), if_neg (by omega), if_neg (by omega)]
  · funext q i
    simp only [mKs]
    rw [if_neg (by omega), if_neg (by omega)]
theorem mKs_step {k : Nat} : msA (msB (msA (msB (msA (msA (mKs S p A k) 17 (64 * A + k) (S.2.2.1 13 k)) 18 (64 * A + k) (S.2.2.1 14 k)) 19 (64 * A + k) (S.2.2.2 15 k)) 20 (64 * A + k) (sIk S p k)) 21 (64 * A + k) (sIv S p k)) 4 (mAt S k / 32) (mTch (mAt S) (S.2.2.1 4) k (mAt S k / 32) ||| (1 <<< (nI (mAt S k % 32) &&& 31))) = mKs S p A (k + 1) := by
  have e9 : 64 * A + k - 64 * A = k := by omega
  refine Prod.ext rfl (Prod.ext rfl (Prod.ext ?_ ?_))
  · funext q i
    simp only [mKs, msA, msB]
    by_cases e0 : q = 4
    · subst e0
      by_cases e1 : i = mAt S k / 32
      · subst e1
        simp [mTch]
      · rw [if_neg (by omega), if_neg (by omega), if_neg (by omega), if_neg (by omega), if_pos rfl, if_pos rfl, mTch, if_neg e1]
    · rw [if_neg (by omega), if_neg e0, if_neg e0]
      by_cases e1 : i = 64 * A + k
      · subst e1
        rw [e9]
        by_cases q17 : q = 17
        · subst q17
          simp
        · by_cases q18 : q = 18
          · subst q18
            simp
          · by_cases q20 : q = 20
            · subst q20
              simp
            · simp [q17, q18, q20]
      · rw [if_neg (by omega), if_neg (by omega), if_neg (by omega)]
        have hx : (64 * A ≤ i ∧ i < 64 * A + (k + 1)) = (64 * A ≤ i ∧ i < 64 * A + k) := propext (by omega)
        simp only [hx]
  · funext q i
    simp only [mKs, msA, msB]
    by_cases e1 : i = 64 * A + k
    · subst e1
      rw [e9]
      by_cases q19 : q = 19
      · subst q19
        simp
      · by_cases q21 : q = 21
        · subst q21
          simp
        · simp [q19, q21]
    · rw [if_neg (by omega), if_neg (by omega)]
      have hx : (64 * A ≤ i ∧ i < 64 * A + (k + 1)) = (64 * A ≤ i ∧ i < 64 * A + k) := propext (by omega)
      simp only [hx]
theorem l202i {T : MS} (hT : T.1 16 = nI p) (hp : p ≤ 64) (i1 i2 : Int32) : ∀ d s, s + d = p → X g 202 133 [.val (va_rf (some mu)), .val (.int i1), .val (.int i2), .val (.int i), .val (.int (nI s))] [] (mH n kc ks mu T) = X g 202 159 [.val (va_rf (some mu)), .val (.int i1), .val (.int i2), .val (.int i), .val (.int (nI (mUnl (fun t => !decide (T.2.2.1 13 t = i)) s d)))] [] (mH n kc ks mu T) := by
  intro d
  induction d with
  | zero =>
    intro s hs
    have h1 : nI p ≤ nI s := nI_le (by omega) (by omega)
    simp only [x202_133, x202_135, x202_136, x202_139, x202_142, x202_143, x202_146, x202_148, x202_149, x202_150, x202_153, mf_16, hT, h1, mUnl, Option.bind_some, Option.toList_some, Option.toList_none, List.cons_append, List.nil_append, Option.isSome_some, if_true, eq_self, or_true, true_or, xb_01, mcl_cl, not_true_eq_false, not_false_eq_true, if_false]
  | succ d ih =>
    intro s hs
    have h1 : ¬ nI p ≤ nI s := nI_ge (by omega) (by omega)
    have h2 : s < 64 := by omega
    by_cases e : T.2.2.1 13 s = i
    · simp only [x202_133, x202_135, x202_136, x202_139, x202_142, x202_143, x202_146, x202_148, x202_149, x202_150, x202_153, mf_16, hT, h1, mf_13, ml_13, xin_nI h2 (by decide), nI_clamp (lt31 h2 (by decide)), e, Option.bind_some, Option.toList_some, Option.toList_none, List.cons_append, List.nil_append, Option.isSome_some, if_true, eq_self, or_true, true_or, xb_01, mcl_cl, not_true_eq_false, not_false_eq_true, if_false]
      rw [mUnl, decide_eq_true e, if_neg (by simp)]
    · simp only [x202_133, x202_135, x202_136, x202_139, x202_142, x202_143, x202_146, x202_148, x202_149, x202_150, x202_153, mf_16, hT, h1, mf_13, ml_13, xin_nI h2 (by decide), nI_clamp (lt31 h2 (by decide)), e, Option.bind_some, Option.toList_some, Option.toList_none, List.cons_append, List.nil_append, Option.isSome_some, if_true, eq_self, or_true, true_or, xb_01, mcl_cl, not_true_eq_false, not_false_eq_true, if_false]
      simp only [x202_156, nI_1]
      rw [ih (s + 1) (by omega), mUnl, decide_eq_false e, if_pos (by simp)]
theorem l202 (e16 : S.1 16 = nI p) (hp : p ≤ 64) (hA : A < 24) (e23 : S.1 23 = nI A) (hq : ∀ x, x < p → 0 ≤ (S.2.2.1 13 x).toInt ∧ (S.2.2.1 13 x).toInt < 320) : ∀ d k (s2 s3 s4 : Slot), k + d = p → X g 202 72 [.val (va_rf (some mu)), .val (.int (nI k)), s2, s3, s4] [] (mH n kc ks mu (mKs S p A k)) = some (none, mH n kc ks mu (msI (msI (mKs S p A p) 23 (nI (A + 1))) 24 (nI (A + 1)))) := by
  intro d
  induction d with
  | zero =>
    intro k s2 s3 s4 hk
    have e : k = p := by omega
    subst e
    have h1 : nI k ≤ nI k := nI_le (by omega) (by omega)
    have h2 : (msI (mKs S k A k) 23 (nI (A + 1))).1 23 = nI (A + 1) := by simp [msI]
    simp only [x202_72, x202_73, x202_74, x202_77, x202_245, x202_246, x202_247, x202_250, x202_251, x202_252, x202_255, x202_256, x202_257, x202_260, x202_263, mf_16, mf_23, mp_23, mf_24, mp_24, mKs_1, e16, e23, h1, h2, nI_1, Option.bind_some, Option.toList_some, Option.toList_none, List.cons_append, List.nil_append, Option.isSome_some, if_true, eq_self, or_true, true_or, xb_01, mcl_cl, not_true_eq_false, not_false_eq_true, if_false]
  | succ d ih =>
    intro k s2 s3 s4 hk
    have h1 : ¬ nI p ≤ nI k := nI_ge (by omega) (by omega)
    have h2 : k < 64 := by omega
    have h3 : 64 * A + k < 1536 := by omega
    obtain ⟨q1, q2⟩ := hq k (by omega)
    have q3 : S.2.2.1 13 k = nI (mAt S k) := nI_tn q1
    have q4 : mAt S k < 320 := by unfold mAt tn; omega
    have q5 : mAt S k / 32 < 10 := by omega
    have q6 : nI (mAt S k) / 32 = nI (mAt S k / 32) := pk_div (d := 32) (by omega) (by decide) (by decide)
    have q7 : nI (mAt S k) - nI (mAt S k / 32) * 32 = nI (mAt S k % 32) := by
      rw [← q6]
      exact pk_rem (d := 32) (by omega) (by decide) (by decide)
    have q8 : ¬ (32 : Int32) = 0 := by decide
    have h64 : (64 : Int32) * nI A = nI (64 * A) := pk_mul 64 A
    have h4 : ∀ T : MS, T.1 16 = nI p → (∀ t, T.2.2.1 13 t = S.2.2.1 13 t) → X g 202 133 [.val (va_rf (some mu)), .val (.int (nI k)), .val (.int (nI (64 * A + k))), .val (.int (nI (mAt S k))), .val (.int (nI (k + 1)))] [] (mH n kc ks mu T) = X g 202 159 [.val (va_rf (some mu)), .val (.int (nI k)), .val (.int (nI (64 * A + k))), .val (.int (nI (mAt S k))), .val (.int (nI (sNx S p k)))] [] (mH n kc ks mu T) := by
      intro T h5 h6
      have := l202i (g := g) (n := n) (kc := kc) (ks := ks) (mu := mu) (T := T) (i := nI (mAt S k)) h5 hp (nI k) (nI (64 * A + k)) (p - (k + 1)) (k + 1) (by omega)
      rw [this]
      unfold sNx
      rw [q3]
      have e : (fun t => !decide (T.2.2.1 13 t = nI (mAt S k))) = (fun t => !decide (S.2.2.1 13 t = nI (mAt S k))) := by
        funext t
        rw [h6]
      rw [e]
    have hn := mUnl_le (f := fun t => !decide (S.2.2.1 13 t = S.2.2.1 13 k)) (p - (k + 1)) (k + 1)
    have hn2 : sNx S p k ≤ p := by
      have : sNx S p k = mUnl (fun t => !decide (S.2.2.1 13 t = S.2.2.1 13 k)) (k + 1) (p - (k + 1)) := rfl
      omega
    have h7 := fun s2 s3 s4 => ih (k + 1) s2 s3 s4 (by omega)
    rw [← mKs_step] at h7
    have h8 := h4 (msB (msA (msA (mKs S p A k) 17 (64 * A + k) (nI (mAt S k))) 18 (64 * A + k) (S.2.2.1 14 k)) 19 (64 * A + k) (S.2.2.2 15 k)) e16 (fun t => by
      simp [msA, msB, mKs_13])
    simp only [x202_72, x202_73, x202_74, x202_77, x202_80, x202_82, x202_83, x202_86, x202_87, x202_88, x202_89, x202_90, x202_91, x202_94, x202_95, x202_96, x202_97, x202_98, x202_101, x202_102, x202_103, x202_104, x202_105, x202_108, x202_109, x202_110, x202_113, x202_114, x202_115, x202_116, x202_117, x202_120, x202_121, x202_122, x202_125, x202_126, x202_127, x202_128, x202_129, x202_130, x202_131, mf_16, mf_23, mf_13, ml_13, mf_14, ml_14, mf_15, ml_15, mf_17, ms_17, mf_18, ms_18, mf_19, ms_19, mKs_1, mKs_13, mKs_14, mKs_15, e16, e23, h1, h64, nI_add, q3, xin_nI h2 (by decide), nI_clamp (lt31 h2 (by decide)), xin_nI h3 (by decide), nI_clamp (lt31 h3 (by decide)), nI_1, h8, msA1, msA2, msA3, msA4, msB1, msB2, msB3, msB4, msI1, msI2, msI3, msI4, msL1, msL2, msL3, msL4, Nat.reduceEqDiff, false_and, true_and, and_false, and_true, and_self, Option.bind_some, Option.toList_some, Option.toList_none, List.cons_append, List.nil_append, Option.isSome_some, if_true, eq_self, or_true, true_or, xb_01, mcl_cl, not_true_eq_false, not_false_eq_true, if_false]
    by_cases z : sNx S p k < p
    · have z1 : ¬ nI p ≤ nI (sNx S p k) := nI_ge z (by omega)
      have z2 : sNx S p k < 64 := by omega
      have i1 : sIk S p k = S.2.2.1 14 (sNx S p k) := if_pos z
      have i2 : sIv S p k = S.2.2.2 15 (sNx S p k) := if_pos z
      rw [i1, i2, q3] at h7
      simp only [x202_159, x202_160, x202_163, x202_164, x202_166, x202_167, x202_170, x202_173, x202_174, x202_177, x202_179, x202_180, x202_183, x202_184, x202_187, x202_188, x202_189, x202_190, x202_191, x202_194, x202_195, x202_197, x202_198, x202_201, x202_204, x202_205, x202_208, x202_210, x202_211, x202_214, x202_215, x202_218, x202_219, x202_220, x202_221, x202_222, x202_225, x202_226, x202_228, x202_229, x202_230, x202_231, x202_232, x202_233, x202_235, x202_236, x202_237, x202_238, x202_239, mf_16, mf_14, ml_14, mf_15, ml_15, mf_20, ms_20, mf_21, ms_21, mf_4, ml_4, ms_4, mKs_1, mKs_14, mKs_15, mKs_4, e16, z1, q6, q7, q8, xin_nI z2 (by decide), nI_clamp (lt31 z2 (by decide)), xin_nI h3 (by decide), nI_clamp (lt31 h3 (by decide)), xin_nI q5 (by decide), nI_clamp (lt31 q5 (by decide)), msA1, msA2, msA3, msA4, msB1, msB2, msB3, msB4, msI1, msI2, msI3, msI4, msL1, msL2, msL3, msL4, Nat.reduceEqDiff, false_and, true_and, and_false, and_true, and_self, Option.bind_some, Option.toList_some, Option.toList_none, List.cons_append, List.nil_append, Option.isSome_some, if_true, eq_self, or_true, true_or, xb_01, mcl_cl, not_true_eq_false, not_false_eq_true, if_false]
      simp only [x202_242, nI_1]
      exact h7 _ _ _
    · have z1 : nI p ≤ nI (sNx S p k) := nI_le (by omega) (by omega)
      have i1 : sIk S p k = S.2.2.1 5 (mAt S k) := if_neg z
      have i2 : sIv S p k = S.2.2.2 6 (mAt S k) := if_neg z
      rw [i1, i2, q3] at h7
      simp only [x202_159, x202_160, x202_163, x202_164, x202_166, x202_167, x202_170, x202_173, x202_174, x202_177, x202_179, x202_180, x202_183, x202_184, x202_187, x202_188, x202_189, x202_190, x202_191, x202_194, x202_195, x202_197, x202_198, x202_201, x202_204, x202_205, x202_208, x202_210, x202_211, x202_214, x202_215, x202_218, x202_219, x202_220, x202_221, x202_222, x202_225, x202_226, x202_228, x202_229, x202_230, x202_231, x202_232, x202_233, x202_235, x202_236, x202_237, x202_238, x202_239, mf_16, mf_5, ml_5, mf_6, ml_6, mf_20, ms_20, mf_21, ms_21, mf_4, ml_4, ms_4, mKs_1, mKs_5, mKs_6, mKs_4, e16, z1, q6, q7, q8, xin_nI q4 (by decide), nI_clamp (lt31 q4 (by decide)), xin_nI h3 (by decide), nI_clamp (lt31 h3 (by decide)), xin_nI q5 (by decide), nI_clamp (lt31 q5 (by decide)), msA1, msA2, msA3, msA4, msB1, msB2, msB3, msB4, msI1, msI2, msI3, msI4, msL1, msL2, msL3, msL4, Nat.reduceEqDiff, false_and, true_and, and_false, and_true, and_self, Option.bind_some, Option.toList_some, Option.toList_none, List.cons_append, List.nil_append, Option.isSome_some, if_true, eq_self, or_true, true_or, xb_01, mcl_cl, not_true_eq_false, not_false_eq_true, if_false]
      simp only [x202_242, nI_1]
      exact h7 _ _ _
/-- all acts moved down by one -/
def mSh : Nat → Nat → MS → MS
  | _, 0, S => S
  | y, d + 1, S => mSh (y + 1) d (mMv S y (y - 1) 64)
theorem l202s : ∀ d y T, 1 ≤ y → y + d = 24 → X g 202 27 [.val (va_rf (some mu)), .val (.int (nI y)), .unset, .unset, .unset] [] (mH n kc ks mu T) = X g 202 47 [.val (va_rf (some mu)), .val (.int (nI 24)), .unset, .unset, .unset] [] (mH n kc ks mu (mSh y d T)) := by
  intro d
  induction d with
  | zero =>
    intro y T h1 hy
    have e : y = 24 := by omega
    subst e
    have h2 : (24 : Int32) ≤ nI 24 := by decide
    simp only [x202_27, x202_28, x202_30, x202_33, x202_34, x202_35, x202_36, x202_37, x202_38, x202_41, h2, mSh, Option.bind_some, Option.toList_some, Option.toList_none, List.cons_append, List.nil_append, Option.isSome_some, if_true, eq_self, or_true, true_or, xb_01, mcl_cl, not_true_eq_false, not_false_eq_true, if_false]
  | succ d ih =>
    intro y T h1 hy
    have h2 : ¬ (24 : Int32) ≤ nI y := nI_ge (b := 24) (by omega) (by decide)
    have h3 : nI y - 1 = nI (y - 1) := pk_sub (b := 1) h1
    simp only [x202_27, x202_28, x202_30, x202_33, x202_34, x202_35, x202_36, x202_37, x202_38, x202_41, h2, h3, c201 (f := y) (t := y - 1) (by omega) (by omega), Option.bind_some, Option.toList_some, Option.toList_none, List.cons_append, List.nil_append, Option.isSome_some, if_true, eq_self, or_true, true_or, xb_01, mcl_cl, not_true_eq_false, not_false_eq_true, if_false]
    simp only [x202_44, nI_1]
    rw [ih (y + 1) _ (by omega) (by omega), mSh]
/-- the acts, with one more -/
def mKeep (S : MS) (p : Nat) : MS := if S.1 24 = 24 then msI (msI (mKs (msA (msI (mSh 1 23 (msI S 23 24)) 23 23) 22 23 (nI p)) p 23 p) 23 24) 24 24 else msI (msI (mKs (msA (msI S 23 (S.1 24)) 22 (tn (S.1 24)) (nI p)) p (tn (S.1 24)) p) 23 (S.1 24 + 1)) 24 (S.1 24 + 1)
theorem mSh_so : ∀ d y T, mSo (mSh y d T) T ∧ (mSh y d T).1 = T.1 := by
  intro d
  induction d with
  | zero => intro y T; exact ⟨mSo_refl, rfl⟩
  | succ d ih =>
    intro y T
    obtain ⟨h1, h2⟩ := ih (y + 1) (mMv T y (y - 1) 64)
    exact ⟨mSo_trans h1 mMv_so, h2⟩
theorem c202 {d : Nat} (hd : S.1 24 = nI d) (h24 : d ≤ 24) (e16 : S.1 16 = nI p) (hp : p ≤ 64) (hq : ∀ x, x < p → 0 ≤ (S.2.2.1 13 x).toInt ∧ (S.2.2.1 13 x).toInt < 320) : X g 202 0 [.val (va_rf (some mu)), .unset, .unset, .unset, .unset] [] (mH n kc ks mu S) = some (none, mH n kc ks mu (if p = 0 then S else mKeep S p)) := by
  by_cases p0 : p = 0
  · subst p0
    have e0 : S.1 16 = 0 := e16
    rw [if_pos rfl]
    simp only [x202_0, x202_1, x202_4, x202_7, x202_8, x202_9, x202_10, x202_13, x202_16, x202_17, x202_20, x202_22, x202_25, x202_26, x202_27, x202_28, x202_30, x202_33, x202_34, x202_35, x202_36, x202_37, x202_38, x202_41, x202_47, x202_48, x202_49, x202_52, x202_53, x202_54, x202_57, x202_58, x202_61, x202_62, x202_65, x202_66, x202_69, x202_70, x202_71, mf_16, e0, Option.bind_some, Option.toList_some, Option.toList_none, List.cons_append, List.nil_append, Option.isSome_some, if_true, eq_self, or_true, true_or, xb_01, mcl_cl, not_true_eq_false, not_false_eq_true, if_false]
  · rw [if_neg p0]
    have e0 : ¬ nI p = 0 := nI_ne0 (by omega) (by omega)
    unfold mKeep
    by_cases e24 : d = 24
    · subst e24
      have f24 : S.1 24 = 24 := hd
      rw [if_pos f24]
      have h1 := l202s (g := g) (n := n) (kc := kc) (ks := ks) (mu := mu) 23 1 (msI S 23 24) (by omega) (by omega)
      have h1' : X g 202 27 [.val (va_rf (some mu)), .val (.int 1), .unset, .unset, .unset] [] (mH n kc ks mu (msI S 23 24)) = _ := h1
      obtain ⟨so, s1⟩ := mSh_so 23 1 (msI S 23 24)
      have f1 : (mSh 1 23 (msI S 23 24)).1 23 = 24 := by rw [s1]; rfl
      have f2 : (mSh 1 23 (msI S 23 24)).1 16 = nI p := by rw [s1]; exact e16
      have g3 : ∀ x, (mSh 1 23 (msI S 23 24)).2.2.1 13 x = S.2.2.1 13 x := fun x => so.2.2.1 13 x (by omega) (by omega) (by omega) (by omega)
      generalize mSh 1 23 (msI S 23 24) = T at *
      have h2 := l202 (g := g) (n := n) (kc := kc) (ks := ks) (mu := mu) (S := msA (msI T 23 23) 22 23 (nI p)) (p := p) (A := 23) f2 hp (by omega) rfl (fun x hx => by
        have e : (msA (msI T 23 23) 22 23 (nI p)).2.2.1 13 x = S.2.2.1 13 x := by
          rw [← g3 x]
          simp [msA, msI]
        rw [e]
        exact hq x hx) p 0 .unset .unset .unset (by omega)
      rw [mKs_0] at h2
      have h3 := l202 (g := g) (n := n) (kc := kc) (ks := ks) (mu := mu) (S := msA (msI T 23 23) 22 23 (nI p)) (p := p) (A := 23) f2 hp (by omega) rfl (fun x hx => by
        have e : (msA (msI T 23 23) 22 23 (nI p)).2.2.1 13 x = S.2.2.1 13 x := by
          rw [← g3 x]
          simp [msA, msI]
        rw [e]
        exact hq x hx) p 0 .unset .unset .unset (by omega)
      rw [mKs_0] at h3
      have z24 : (24 : Int32) - 1 = 23 := by decide
      have w1 : xin 23 24 = true := by decide
      have w2 : Int32.toNatClampNeg 23 = 23 := by decide
      have h2' : X g 202 72 [.val (va_rf (some mu)), .val (.int 0), .unset, .unset, .unset] [] (mH n kc ks mu (msA (msI T 23 23) 22 23 (nI p))) = some (none, mH n kc ks mu (msI (msI (mKs (msA (msI T 23 23) 22 23 (nI p)) p 23 p) 23 24) 24 24)) := h2
      have m1 : (msI S 23 24).1 23 = 24 := rfl
      have m2 : (msI T 23 23).1 23 = 23 := rfl
      have m3 : (msI T 23 23).1 16 = nI p := f2
      simp only [x202_0, x202_1, x202_4, x202_7, x202_8, x202_9, x202_10, x202_13, x202_16, x202_17, x202_20, x202_22, x202_25, x202_26, mf_16, mf_24, mf_23, mp_23, e16, e0, f24, m1, h1', Option.bind_some, Option.toList_some, Option.toList_none, List.cons_append, List.nil_append, Option.isSome_some, if_true, eq_self, or_true, true_or, xb_01, mcl_cl, not_true_eq_false, not_false_eq_true, if_false]
      have h4 := l202 (g := g) (n := n) (kc := kc) (ks := ks) (mu := mu) (S := msA (msI T 23 23) 22 23 (nI p)) (p := p) (A := 23) f2 hp (by omega) rfl (fun x hx => by
        have e : (msA (msI T 23 23) 22 23 (nI p)).2.2.1 13 x = S.2.2.1 13 x := by
          rw [← g3 x]
          simp [msA, msI]
        rw [e]
        exact hq x hx) p 0 .unset .unset .unset (by omega)
      rw [mKs_0] at h4
      have h4' : ∀ (s2 s3 s4 : Slot), X g 202 72 [.val (va_rf (some mu)), .val (.int 0), s2, s3, s4] [] (mH n kc ks mu (msA (msI T 23 23) 22 23 (nI p))) = some (none, mH n kc ks mu (msI (msI (mKs (msA (msI T 23 23) 22 23 (nI p)) p 23 p) 23 24) 24 24)) := by
        intro s2 s3 s4
        have := l202 (g := g) (n := n) (kc := kc) (ks := ks) (mu := mu) (S := msA (msI T 23 23) 22 23 (nI p)) (p := p) (A := 23) f2 hp (by omega) rfl (fun x hx => by
          have e : (msA (msI T 23 23) 22 23 (nI p)).2.2.1 13 x = S.2.2.1 13 x := by
            rw [← g3 x]
            simp [msA, msI]
          rw [e]
          exact hq x hx) p 0 s2 s3 s4 (by omega)
        rw [mKs_0] at this
        exact this
      simp only [x202_47, x202_48, x202_49, x202_52, x202_53, x202_54, x202_57, x202_58, x202_61, x202_62, x202_65, x202_66, x202_69, x202_70, x202_71, mf_23, mp_23, mf_22, ms_22, mf_16, f1, z24, m2, m3, w1, w2, h4', Option.bind_some, Option.toList_some, Option.toList_none, List.cons_append, List.nil_append, Option.isSome_some, if_true, eq_self, or_true, true_or, xb_01, mcl_cl, not_true_eq_false, not_false_eq_true, if_false]
    · have hdd : d < 24 := by omega
      have f24 : ¬ S.1 24 = 24 := by
        rw [hd]
        intro z
        have := (nI_eq (a := d) (b := 24) (by omega) (by omega)).mp z
        omega
      rw [if_neg f24, hd, tn_nI (by omega), nI_1]
      have f24' : ¬ nI d = 24 := by rw [← hd]; exact f24
      have h4' : ∀ (s2 s3 s4 : Slot), X g 202 72 [.val (va_rf (some mu)), .val (.int 0), s2, s3, s4] [] (mH n kc ks mu (msA (msI S 23 (nI d)) 22 d (nI p))) = some (none, mH n kc ks mu (msI (msI (mKs (msA (msI S 23 (nI d)) 22 d (nI p)) p d p) 23 (nI (d + 1))) 24 (nI (d + 1)))) := by
        intro s2 s3 s4
        have := l202 (g := g) (n := n) (kc := kc) (ks := ks) (mu := mu) (S := msA (msI S 23 (nI d)) 22 d (nI p)) (p := p) (A := d) e16 hp hdd rfl (fun x hx => by
          have e : (msA (msI S 23 (nI d)) 22 d (nI p)).2.2.1 13 x = S.2.2.1 13 x := by
            simp [msA, msI]
          rw [e]
          exact hq x hx) p 0 s2 s3 s4 (by omega)
        rw [mKs_0] at this
        exact this
      have m2 : (msI S 23 (nI d)).1 23 = nI d := rfl
      have m3 : (msI S 23 (nI d)).1 16 = nI p := e16
      simp only [x202_0, x202_1, x202_4, x202_7, x202_8, x202_9, x202_10, x202_13, x202_16, x202_17, x202_20, x202_22, x202_25, x202_26, x202_57, x202_58, x202_61, x202_62, x202_65, x202_66, x202_69, x202_70, x202_71, mf_16, mf_24, mf_23, mp_23, mf_22, ms_22, e16, e0, hd, m2, m3, f24', xin_nI hdd (by decide), nI_clamp (lt31 hdd (by decide)), h4', Option.bind_some, Option.toList_some, Option.toList_none, List.cons_append, List.nil_append, Option.isSome_some, if_true, eq_self, or_true, true_or, xb_01, mcl_cl, not_true_eq_false, not_false_eq_true, if_false]
end M15
