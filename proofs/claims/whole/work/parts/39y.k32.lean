/-! THE CLASS beside the reference, 19: of, count -/
section K32
variable {g : xG} {n kc ks a b c s t w q l x y jn d r p n' e kb : Nat} {G T U : GS} {h : xH} {i j k m v i1 i2 : Int32} {u z : Int64} {o : Option Nat} {S S1 S' : MS} {ρ κ : Nat → Nat} {L L' : List Nat} {cnt : Nat} {at' wk ik : Nat → Int32} {wv iv : Nat → Int64}
theorem xb_n0 (b : Bool) : (!decide (xb b = 0)) = b := by cases b <;> rfl
theorem tch_cnt (hA : rA g G c n b ρ S) (hr : rIn S r) : mCnt (fun q => !decide (G.2.2.1 (ρ r + 3) q = 0)) 0 (mz S r) = mCnt (pBit (S.2.2.1 4 r)) 0 32 := by
  obtain ⟨t1, t2⟩ := hA.2.2.2.2.1 r hr
  obtain ⟨_, r2, _⟩ := ro_size (g := g) (kc := 0) (ks := 0) hA hr
  rw [show 32 = mz S r + (32 - mz S r) by omega, mCnt_split, mCnt_0 (f := pBit (S.2.2.1 4 r)) (32 - mz S r) (0 + mz S r) (fun x h1 _ => t2 x (by omega)), Nat.add_zero]
  refine mCnt_congr _ _ (fun x _ h2 => ?_)
  show (!decide (G.2.2.1 (ρ r + 3) x = 0)) = pBit (S.2.2.1 4 r) x
  rw [t1 x (by omega), xb_n0]
theorem mFst_unl {f : Nat → Bool} : ∀ d s, mFst f s d = if mUnl (fun k => !f k) s d = s + d then -5 else nI (mUnl (fun k => !f k) s d) := by
  intro d
  induction d with
  | zero => intro s; simp [mFst, mUnl]
  | succ d ih =>
    intro s
    rw [mFst, mUnl]
    cases c : f s with
    | true =>
      have hn : ¬ s = s + (d + 1) := by omega
      simp [hn]
    | false =>
      simp only [Bool.not_false, if_true]
      rw [if_neg (by simp), ih, show s + 1 + d = s + (d + 1) by omega]
theorem pBit_0 (hx : ∀ t, pBit i t = false) : i = 0 := by
  apply nN_inj
  apply Nat.eq_of_testBit_eq
  intro t
  rw [show (nN i).testBit t = pBit i t from rfl, hx t, show nN 0 = 0 from rfl, Nat.zero_testBit]
theorem tch_fst (hA : rA g G c n b ρ S) (hr : rIn S r) : mFst (fun q => !decide (G.2.2.1 (ρ r + 3) q = 0)) 0 (mz S r) = if S.2.2.1 4 r = 0 then -5 else nI (sNtz (S.2.2.1 4 r)) := by
  obtain ⟨t1, t2⟩ := hA.2.2.2.2.1 r hr
  obtain ⟨_, r2, _⟩ := ro_size (g := g) (kc := 0) (ks := 0) hA hr
  have hf : ∀ q, q < mz S r → (!decide (G.2.2.1 (ρ r + 3) q = 0)) = pBit (S.2.2.1 4 r) q := fun q hq => by rw [t1 q hq, xb_n0]
  rw [mFst_unl, Nat.zero_add]
  have hu : mUnl (fun k => !!decide (G.2.2.1 (ρ r + 3) k = 0)) 0 (mz S r) = mUnl (fun k => !pBit (S.2.2.1 4 r) k) 0 (mz S r) := by
    have : ∀ d s, s + d ≤ mz S r → mUnl (fun k => !!decide (G.2.2.1 (ρ r + 3) k = 0)) s d = mUnl (fun k => !pBit (S.2.2.1 4 r) k) s d := by
      intro d
      induction d with
      | zero => intro s _; rfl
      | succ d ih =>
        intro s hs
        rw [mUnl, mUnl, hf s (by omega), ih (s + 1) (by omega)]
    exact this _ _ (by omega)
  rw [hu]
  have hle := mUnl_le (f := fun k => !pBit (S.2.2.1 4 r) k) (mz S r) 0
  by_cases c1 : mUnl (fun k => !pBit (S.2.2.1 4 r) k) 0 (mz S r) = mz S r
  · rw [if_pos c1]
    have : S.2.2.1 4 r = 0 := by
      apply pBit_0
      intro t
      by_cases c2 : t < mz S r
      · have := mUnl_yes (f := fun k => !pBit (S.2.2.1 4 r) k) (mz S r) 0 t (by omega) (by omega)
        simpa using this
      · exact t2 t (by omega)
    rw [if_pos this]
  · rw [if_neg c1]
    have hno := mUnl_no (f := fun k => !pBit (S.2.2.1 4 r) k) (mz S r) 0 (by omega)
    have hbit : pBit (S.2.2.1 4 r) (mUnl (fun k => !pBit (S.2.2.1 4 r) k) 0 (mz S r)) = true := by simpa using hno
    have hx : ¬ S.2.2.1 4 r = 0 := by
      intro z
      rw [z] at hbit
      rw [show pBit 0 _ = false from Nat.zero_testBit _] at hbit
      exact absurd hbit (by simp)
    rw [if_neg hx]
    congr 1
    unfold sNtz
    have h32 := mUnl_lt (f := fun k => !pBit (S.2.2.1 4 r) k) 32 0 (mUnl (fun k => !pBit (S.2.2.1 4 r) k) 0 (mz S r)) (by omega) (by omega) (by rw [hbit]; rfl)
    have hn2 := mUnl_no (f := fun k => !pBit (S.2.2.1 4 r) k) 32 0 (by omega)
    have h2 : ¬ mUnl (fun k => !pBit (S.2.2.1 4 r) k) 0 32 < mUnl (fun k => !pBit (S.2.2.1 4 r) k) 0 (mz S r) := by
      intro z
      have := mUnl_yes (f := fun k => !pBit (S.2.2.1 4 r) k) (mz S r) 0 _ (by omega) z
      rw [hn2] at this
      exact absurd this (by simp)
    omega
theorem hold_eq (hB : bS G b ρ S) (hI : bI S ρ) (hr : rIn S r) : mCnt (fun q => decide (G.2.2.2.2 (b + 1) q = some (ρ r))) 0 10 = mHolders S (nI r) := by
  unfold mHolders
  refine mCnt_congr _ _ (fun q _ hq => ?_)
  obtain ⟨s, s1, s2, s3⟩ := hr
  have e1 : G.2.2.2.2 (b + 1) s = some (ρ r) := by
    rw [sf_G hB s1]
    unfold sf
    rw [if_pos s2, s3]
    rfl
  have e2 : sf S s = some r := by
    unfold sf
    rw [if_pos s2, s3]
  have := sf_bank hB hI (s := q) (t := s) (by omega) s1
  rw [e1, e2, sf_7 (by have := (mRow_eq s2).2; omega)] at this
  by_cases c : S.2.2.1 7 q = nI r
  · simp [c, this.mpr c]
  · have c2 : ¬ G.2.2.2.2 (b + 1) q = some (ρ r) := fun z => c (this.mp z)
    simp [c, c2]
theorem sw13 (h1 : ¬ k = 1) (h2 : ¬ k = 2) (h3 : ¬ k = 3) : k.toInt < 1 ∨ 3 < k.toInt := by
  have a1 := i32_ne h1
  have a2 := i32_ne h2
  have a3 := i32_ne h3
  have e1 : (1 : Int32).toInt = 1 := rfl
  have e2 : (2 : Int32).toInt = 2 := rfl
  have e3 : (3 : Int32).toInt = 3 := rfl
  omega
theorem s95 (hA : rA g G c n b ρ S) (hp : G.2.2.1 (c + 7) 1 = 0) : sim g c n kc ks G 95 [.val (va_rf (some c)), .val (.int i), .val (.int j), .unset] (.int (fOf S i j)) S := by
  have k0 : G.1 c = 15 := hA.1.2.1.1
  have hb := hA.2.1
  have hB := hA.2.2.1
  have h10 : ¬ (1 : Int32) = 0 := by decide
  refine sim_same hA hp ?_
  unfold fOf
  cases e1 : mSlot i with
  | false =>
    rw [if_pos rfl]
    simp only [x95_0, x95_1, x95_4, x95_7, x95_8, x95_11, x95_12, x95_13, x95_16, x95_17, x95_18, x95_19, x95_22, x95_23, x95_26, x95_27, x95_30, x95_31, x95_32, x95_35, x95_36, x95_39, x95_40, x95_41, x95_44, x95_45, x95_48, x95_49, x95_52, x95_53, x95_54_v1, x95_54_v2, x95_54_v3, x95_54_d, x95_80, x95_81, x95_84, x95_85, x95_86, x95_89, x95_90, x95_93, x95_94, x95_95, x95_98, x95_99, x95_100, x95_103, c127, e1, xb_f, Option.bind_some, Option.toList_some, Option.toList_none, List.cons_append, List.nil_append, Option.isSome_some, if_true, eq_self, or_true, true_or, xb_01, mcl_cl, not_true_eq_false, not_false_eq_true, if_false]
  | true =>
    rw [if_neg (by simp)]
    by_cases q1 : j < 0
    · rw [show mWithin j.toInt 0 4 = false from wi_1 (lo := 0) (hi := 4) q1, if_pos rfl]
      simp only [x95_0, x95_1, x95_4, x95_7, x95_8, x95_11, x95_12, x95_13, x95_16, x95_17, x95_18, x95_19, x95_22, x95_23, x95_26, x95_27, x95_30, x95_31, x95_32, x95_35, x95_36, x95_39, x95_40, x95_41, x95_44, x95_45, x95_48, x95_49, x95_52, x95_53, x95_54_v1, x95_54_v2, x95_54_v3, x95_54_d, x95_80, x95_81, x95_84, x95_85, x95_86, x95_89, x95_90, x95_93, x95_94, x95_95, x95_98, x95_99, x95_100, x95_103, c127, e1, xb_t, h10, q1, Option.bind_some, Option.toList_some, Option.toList_none, List.cons_append, List.nil_append, Option.isSome_some, if_true, eq_self, or_true, true_or, xb_01, mcl_cl, not_true_eq_false, not_false_eq_true, if_false]
    · by_cases q2 : j ≤ 4
      · have q2' : ¬ 4 < j := by rw [i32_le] at q2; rw [i32_lt]; omega
        rw [show mWithin j.toInt 0 4 = true from wi_3 (lo := 0) (hi := 4) q1 q2', if_neg (by simp)]
        have k9 := c9 (g := g) (n := n) (kc := kc) (ks := ks) (i := i) hA.1.1 hB.1
        have k10 := c10 (g := g) (n := n) (kc := kc) (ks := ks) (i := i) hA.1.1 hB.1
        have k11 := c11 (g := g) (n := n) (kc := kc) (ks := ks) (i := i) hA.1.1 hB.1
        cases e3 : mRow S (tn i) with
        | false =>
          obtain ⟨p1, p2, p3, p4⟩ := sl_none hA e1 e3
          rw [p1] at k9
          by_cases j0 : j = 0
          · rw [if_pos j0]
            subst j0
            rcases p4 with p4 | p4
            · rw [if_pos p4.1]
              simp only [x95_0, x95_1, x95_4, x95_7, x95_8, x95_11, x95_12, x95_13, x95_16, x95_17, x95_18, x95_19, x95_22, x95_23, x95_26, x95_27, x95_30, x95_31, x95_32, x95_35, x95_36, x95_39, x95_40, x95_41, x95_44, x95_45, x95_48, x95_49, x95_52, x95_53, x95_54_v1, x95_54_v2, x95_54_v3, x95_54_d, x95_80, x95_81, x95_84, x95_85, x95_86, x95_89, x95_90, x95_93, x95_94, x95_95, x95_98, x95_99, x95_100, x95_103, c127, e1, xb_t, h10, q1, q2, gf_15_9 k0, hb, gc_9 hB.1, k10, p4.2, Option.bind_some, Option.toList_some, Option.toList_none, List.cons_append, List.nil_append, Option.isSome_some, if_true, eq_self, or_true, true_or, xb_01, mcl_cl, not_true_eq_false, not_false_eq_true, if_false]
            · rw [if_neg p4.1, if_neg (by simp)]
              simp only [x95_0, x95_1, x95_4, x95_7, x95_8, x95_11, x95_12, x95_13, x95_16, x95_17, x95_18, x95_19, x95_22, x95_23, x95_26, x95_27, x95_30, x95_31, x95_32, x95_35, x95_36, x95_39, x95_40, x95_41, x95_44, x95_45, x95_48, x95_49, x95_52, x95_53, x95_54_v1, x95_54_v2, x95_54_v3, x95_54_d, x95_80, x95_81, x95_84, x95_85, x95_86, x95_89, x95_90, x95_93, x95_94, x95_95, x95_98, x95_99, x95_100, x95_103, c127, e1, xb_t, h10, q1, q2, gf_15_9 k0, hb, gc_9 hB.1, k10, p4.2.1, Option.bind_some, Option.toList_some, Option.toList_none, List.cons_append, List.nil_append, Option.isSome_some, if_true, eq_self, or_true, true_or, xb_01, mcl_cl, not_true_eq_false, not_false_eq_true, if_false]
          · rw [if_neg j0, if_pos rfl]
            rcases p4 with p4 | p4
            · rw [if_pos p4.1]
              simp only [x95_0, x95_1, x95_4, x95_7, x95_8, x95_11, x95_12, x95_13, x95_16, x95_17, x95_18, x95_19, x95_22, x95_23, x95_26, x95_27, x95_30, x95_31, x95_32, x95_35, x95_36, x95_39, x95_40, x95_41, x95_44, x95_45, x95_48, x95_49, x95_52, x95_53, x95_54_v1, x95_54_v2, x95_54_v3, x95_54_d, x95_80, x95_81, x95_84, x95_85, x95_86, x95_89, x95_90, x95_93, x95_94, x95_95, x95_98, x95_99, x95_100, x95_103, c127, e1, xb_t, h10, q1, q2, j0, gf_15_9 k0, hb, gc_9 hB.1, k9, k11, p4.2, Option.bind_some, Option.toList_some, Option.toList_none, List.cons_append, List.nil_append, Option.isSome_some, if_true, eq_self, or_true, true_or, xb_01, mcl_cl, not_true_eq_false, not_false_eq_true, if_false]
            · rw [if_neg p4.1]
              simp only [x95_0, x95_1, x95_4, x95_7, x95_8, x95_11, x95_12, x95_13, x95_16, x95_17, x95_18, x95_19, x95_22, x95_23, x95_26, x95_27, x95_30, x95_31, x95_32, x95_35, x95_36, x95_39, x95_40, x95_41, x95_44, x95_45, x95_48, x95_49, x95_52, x95_53, x95_54_v1, x95_54_v2, x95_54_v3, x95_54_d, x95_80, x95_81, x95_84, x95_85, x95_86, x95_89, x95_90, x95_93, x95_94, x95_95, x95_98, x95_99, x95_100, x95_103, c127, e1, xb_t, h10, q1, q2, j0, gf_15_9 k0, hb, gc_9 hB.1, k9, k11, p4.2.2.1, Option.bind_some, Option.toList_some, Option.toList_none, List.cons_append, List.nil_append, Option.isSome_some, if_true, eq_self, or_true, true_or, xb_01, mcl_cl, not_true_eq_false, not_false_eq_true, if_false]
        | true =>
          obtain ⟨p1, p2, p3, p4, p5, p6, p7⟩ := sl_yes hA e1 e3
          obtain ⟨r1, r2, r3, r4, r5⟩ := ro_size (g := g) (kc := kc) (ks := ks) hA p7
          rw [p1] at k9
          rw [p2] at k10
          have hne : ¬ (some (ρ (mr S (tn i))) = none) := by simp
          by_cases j0 : j = 0
          · rw [if_pos j0, if_neg p6, if_pos rfl]
            subst j0
            simp only [x95_0, x95_1, x95_4, x95_7, x95_8, x95_11, x95_12, x95_13, x95_16, x95_17, x95_18, x95_19, x95_22, x95_23, x95_26, x95_27, x95_30, x95_31, x95_32, x95_35, x95_36, x95_39, x95_40, x95_41, x95_44, x95_45, x95_48, x95_49, x95_52, x95_53, x95_54_v1, x95_54_v2, x95_54_v3, x95_54_d, x95_80, x95_81, x95_84, x95_85, x95_86, x95_89, x95_90, x95_93, x95_94, x95_95, x95_98, x95_99, x95_100, x95_103, c127, e1, xb_t, h10, q1, q2, gf_15_9 k0, hb, gc_9 hB.1, k10, Option.bind_some, Option.toList_some, Option.toList_none, List.cons_append, List.nil_append, Option.isSome_some, if_true, eq_self, or_true, true_or, xb_01, mcl_cl, not_true_eq_false, not_false_eq_true, if_false]
          · rw [if_neg j0, if_neg (by simp)]
            by_cases j1 : j = 1
            · rw [if_pos j1, r5]
              subst j1
              simp only [x95_0, x95_1, x95_4, x95_7, x95_8, x95_11, x95_12, x95_13, x95_16, x95_17, x95_18, x95_19, x95_22, x95_23, x95_26, x95_27, x95_30, x95_31, x95_32, x95_35, x95_36, x95_39, x95_40, x95_41, x95_44, x95_45, x95_48, x95_49, x95_52, x95_53, x95_54_v1, x95_54_v2, x95_54_v3, x95_54_d, x95_80, x95_81, x95_84, x95_85, x95_86, x95_89, x95_90, x95_93, x95_94, x95_95, x95_98, x95_99, x95_100, x95_103, c127, e1, xb_t, h10, q1, q2, gf_15_9 k0, hb, gc_9 hB.1, k9, hne, gc_1 r3, r1, Option.bind_some, Option.toList_some, Option.toList_none, List.cons_append, List.nil_append, Option.isSome_some, if_true, eq_self, or_true, true_or, xb_01, mcl_cl, not_true_eq_false, not_false_eq_true, if_false]
            · rw [if_neg j1]
              by_cases j2 : j = 2
              · rw [if_pos j2, (mRow_eq e3).1]
                subst j2
                have k17 := c17 (g := g) (n := n) (kc := kc) (ks := ks) (o := some (ρ (mr S (tn i)))) hA.1.1 hB.1
                rw [hold_eq hB hA.2.2.2.1 p7] at k17
                simp only [x95_0, x95_1, x95_4, x95_7, x95_8, x95_11, x95_12, x95_13, x95_16, x95_17, x95_18, x95_19, x95_22, x95_23, x95_26, x95_27, x95_30, x95_31, x95_32, x95_35, x95_36, x95_39, x95_40, x95_41, x95_44, x95_45, x95_48, x95_49, x95_52, x95_53, x95_54_v1, x95_54_v2, x95_54_v3, x95_54_d, x95_80, x95_81, x95_84, x95_85, x95_86, x95_89, x95_90, x95_93, x95_94, x95_95, x95_98, x95_99, x95_100, x95_103, c127, e1, xb_t, h10, q1, q2, show ¬ (2 : Int32) = 0 by decide, gf_15_9 k0, hb, gc_9 hB.1, k9, hne, k17, Option.bind_some, Option.toList_some, Option.toList_none, List.cons_append, List.nil_append, Option.isSome_some, if_true, eq_self, or_true, true_or, xb_01, mcl_cl, not_true_eq_false, not_false_eq_true, if_false]
              · rw [if_neg j2]
                by_cases j3 : j = 3
                · rw [if_pos j3]
                  subst j3
                  have k71 := c71 (g := g) (n := n) (kc := kc) (ks := ks) hA.1.1 r3
                  rw [p3.2.2.1, tch_cnt hA p7] at k71
                  simp only [x95_0, x95_1, x95_4, x95_7, x95_8, x95_11, x95_12, x95_13, x95_16, x95_17, x95_18, x95_19, x95_22, x95_23, x95_26, x95_27, x95_30, x95_31, x95_32, x95_35, x95_36, x95_39, x95_40, x95_41, x95_44, x95_45, x95_48, x95_49, x95_52, x95_53, x95_54_v1, x95_54_v2, x95_54_v3, x95_54_d, x95_80, x95_81, x95_84, x95_85, x95_86, x95_89, x95_90, x95_93, x95_94, x95_95, x95_98, x95_99, x95_100, x95_103, c127, e1, xb_t, h10, q1, q2, show ¬ (3 : Int32) = 0 by decide, gf_15_9 k0, hb, gc_9 hB.1, k9, hne, gc_1 r3, k71, Option.bind_some, Option.toList_some, Option.toList_none, List.cons_append, List.nil_append, Option.isSome_some, if_true, eq_self, or_true, true_or, xb_01, mcl_cl, not_true_eq_false, not_false_eq_true, if_false]
                · rw [if_neg j3]
                  have k72 := c72 (g := g) (n := n) (kc := kc) (ks := ks) hA.1.1 r3
                  rw [p3.2.2.1, tch_fst hA p7] at k72
                  simp only [x95_0, x95_1, x95_4, x95_7, x95_8, x95_11, x95_12, x95_13, x95_16, x95_17, x95_18, x95_19, x95_22, x95_23, x95_26, x95_27, x95_30, x95_31, x95_32, x95_35, x95_36, x95_39, x95_40, x95_41, x95_44, x95_45, x95_48, x95_49, x95_52, x95_53, x95_54_v1, x95_54_v2, x95_54_v3, x95_54_d, x95_80, x95_81, x95_84, x95_85, x95_86, x95_89, x95_90, x95_93, x95_94, x95_95, x95_98, x95_99, x95_100, x95_103, c127, e1, xb_t, h10, q1, q2, j0, x95_54_d (sw13 j1 j2 j3), gf_15_9 k0, hb, gc_9 hB.1, k9, hne, gc_1 r3, k72, Option.bind_some, Option.toList_some, Option.toList_none, List.cons_append, List.nil_append, Option.isSome_some, if_true, eq_self, or_true, true_or, xb_01, mcl_cl, not_true_eq_false, not_false_eq_true, if_false]
      · have q2' : 4 < j := by rw [i32_le] at q2; rw [i32_lt]; omega
        rw [show mWithin j.toInt 0 4 = false from wi_2 (lo := 0) (hi := 4) q2', if_pos rfl]
        simp only [x95_0, x95_1, x95_4, x95_7, x95_8, x95_11, x95_12, x95_13, x95_16, x95_17, x95_18, x95_19, x95_22, x95_23, x95_26, x95_27, x95_30, x95_31, x95_32, x95_35, x95_36, x95_39, x95_40, x95_41, x95_44, x95_45, x95_48, x95_49, x95_52, x95_53, x95_54_v1, x95_54_v2, x95_54_v3, x95_54_d, x95_80, x95_81, x95_84, x95_85, x95_86, x95_89, x95_90, x95_93, x95_94, x95_95, x95_98, x95_99, x95_100, x95_103, c127, e1, xb_t, h10, q1, q2, Option.bind_some, Option.toList_some, Option.toList_none, List.cons_append, List.nil_append, Option.isSome_some, if_true, eq_self, or_true, true_or, xb_01, mcl_cl, not_true_eq_false, not_false_eq_true, if_false]
theorem c136 (hk : gK G c) : X g 136 0 [.val (va_rf (some c)), .val (.int i)] [] (gH n kc ks G) = some (some (.int (if xin i 3 = true then G.2.2.1 (c + 6) (tn i) else -1)), gH n kc ks G) := by
  obtain ⟨k0, k1, k2, k3, k4, k5, ⟨k6, k6'⟩, _⟩ := hk
  by_cases c1 : i < 0
  · simp only [x136_0, x136_1, x136_4, x136_5, x136_6, x136_9, x136_10, x136_13, x136_14, x136_17, x136_18, x136_19, x136_22, x136_23, c1, xin_neg c1, Option.bind_some, Option.toList_some, Option.toList_none, List.cons_append, List.nil_append, Option.isSome_some, if_true, eq_self, or_true, true_or, xb_01, mcl_cl, not_true_eq_false, not_false_eq_true, if_false]
    rfl
  · by_cases c2 : nI 3 ≤ i
    · simp only [x136_0, x136_1, x136_4, x136_5, x136_6, x136_9, x136_10, x136_13, x136_14, x136_17, x136_18, x136_19, x136_22, x136_23, c1, gf_15_5 k0, gN_19 k6, k6', c2, xin_ge (show 3 < 2 ^ 31 by omega) c2, Option.bind_some, Option.toList_some, Option.toList_none, List.cons_append, List.nil_append, Option.isSome_some, if_true, eq_self, or_true, true_or, xb_01, mcl_cl, not_true_eq_false, not_false_eq_true, if_false]
      rfl
    · have hx := xin_lt (show 3 < 2 ^ 31 by omega) c1 c2
      rw [hx, if_pos rfl]
      simp only [x136_0, x136_1, x136_4, x136_5, x136_6, x136_9, x136_10, x136_13, x136_14, x136_17, x136_18, x136_19, x136_22, x136_23, c1, gf_15_5 k0, gN_19 k6, gl_19 k6, k6', c2, hx, cl_tn, Option.bind_some, Option.toList_some, Option.toList_none, List.cons_append, List.nil_append, Option.isSome_some, if_true, eq_self, or_true, true_or, xb_01, mcl_cl, not_true_eq_false, not_false_eq_true, if_false]
theorem sw08 (h0 : ¬ k = 0) (h1 : ¬ k = 1) (h2 : ¬ k = 2) (h3 : ¬ k = 3) (h4 : ¬ k = 4) (h5 : ¬ k = 5) (h6 : ¬ k = 6) (h7 : ¬ k = 7) (h8 : ¬ k = 8) : k.toInt < 0 ∨ 8 < k.toInt := by
  have a0 := i32_ne h0
  have a1 := i32_ne h1
  have a2 := i32_ne h2
  have a3 := i32_ne h3
  have a4 := i32_ne h4
  have a5 := i32_ne h5
  have a6 := i32_ne h6
  have a7 := i32_ne h7
  have a8 := i32_ne h8
  have e0 : (0 : Int32).toInt = 0 := rfl
  have e1 : (1 : Int32).toInt = 1 := rfl
  have e2 : (2 : Int32).toInt = 2 := rfl
  have e3 : (3 : Int32).toInt = 3 := rfl
  have e4 : (4 : Int32).toInt = 4 := rfl
  have e5 : (5 : Int32).toInt = 5 := rfl
  have e6 : (6 : Int32).toInt = 6 := rfl
  have e7 : (7 : Int32).toInt = 7 := rfl
  have e8 : (8 : Int32).toInt = 8 := rfl
  omega
theorem i32_s11 (h : i.toInt < 0 ∨ 8 < i.toInt) (h1 : ¬ i = 11) (h2 : ¬ i = 12) (h3 : ¬ i = 13) : xin (i - 11) 3 = false := by
  have a1 := i32_ne h1
  have a2 := i32_ne h2
  have a3 := i32_ne h3
  have e1 : (11 : Int32).toInt = 11 := rfl
  have e2 : (12 : Int32).toInt = 12 := rfl
  have e3 : (13 : Int32).toInt = 13 := rfl
  have e : (i - 11).toInt = (i.toInt - 11).bmod (2 ^ 32) := by rw [Int32.toInt_sub]; rfl
  have b1 : -2147483648 ≤ i.toInt := i.le_toInt
  have b2 : i.toInt < 2147483648 := i.toInt_lt
  have e4 : (i.toInt - 11).bmod (2 ^ 32) = i.toInt - 11 ∨ ((i.toInt - 11).bmod (2 ^ 32) = i.toInt - 11 + 4294967296 ∧ i.toInt < -2147483637) := by
    rw [Int.bmod_def]
    omega
  cases c : xin (i - 11) 3 with
  | false => rfl
  | true =>
    exfalso
    obtain ⟨z1, z2⟩ := xin_tn c
    have : (i - 11).toInt = (tn (i - 11) : Int) := by
      conv => lhs; rw [z1]
      exact nI_toInt (by omega)
    omega
theorem bFst_1 (hB : bS G b ρ S) (hI : bI S ρ) : ∀ s x, s < 10 → bFst G b s = some x → G.1 x = 1 := by
  intro s x hs h
  rw [bFst_eq hB hI hs] at h
  cases c : sf S s with
  | none =>
    rw [c] at h
    exact absurd h (by simp)
  | some r =>
    rw [c] at h
    have h2 : (if hd (sf S) s r = true then none else some (ρ r)) = some x := h
    by_cases c1 : hd (sf S) s r = true
    · rw [if_pos c1] at h2
      exact absurd h2 (by simp)
    · rw [if_neg c1] at h2
      rw [← Option.some.inj h2]
      exact (bS_row hB (sf_in hs c)).1
theorem s126 (hA : rA g G c n b ρ S) (hp : G.2.2.1 (c + 7) 1 = 0) : sim g c n kc ks G 126 [.val (va_rf (some c)), .val (.int i)] (.int (fCount S i)) S := by
  have k0 : G.1 c = 15 := hA.1.2.1.1
  have k7 : G.1 (c + 7) = 20 := hA.1.2.1.2.2.2.2.2.2.2.1
  have k10 : G.1 (c + 10) = 23 := hA.1.2.1.2.2.2.2.2.2.2.2.2.2.1
  have k13 : G.1 (c + 13) = 26 := hA.1.2.1.2.2.2.2.2.2.2.2.2.2.2.2.2.1
  have hb := hA.2.1
  have hB := hA.2.2.1
  have hI := hA.2.2.2.1
  obtain ⟨j1, j2, _⟩ := hA.2.2.2.2.2.2.1
  obtain ⟨_, _, r3, _, _, r6, _, r8, _⟩ := hA.2.2.2.2.2.2.2.1
  refine sim_same hA hp ?_
  unfold fCount
  by_cases i0 : i = 0
  · subst i0
    rw [if_pos rfl]
    have k20 := c20 (g := g) (n := n) (kc := kc) (ks := ks) hA.1.1 hB.1
    have he : mCnt (fun q => !decide (G.2.2.2.2 (b + 1) q = none)) 0 10 = sSlots S true := by
      refine mCnt_congr _ _ (fun q _ hq => ?_)
      show (!decide (G.2.2.2.2 (b + 1) q = none)) = (!decide (S.2.2.1 7 q = -11) && decide (mRow S q = true))
      rw [sf_G hB (by omega)]
      unfold sf
      cases c : mRow S q with
      | true => simp [mRow_n11 c]
      | false => simp
    rw [he] at k20
    simp only [x126_0, x126_1_v0, x126_1_v1, x126_1_v2, x126_1_v3, x126_1_v4, x126_1_v5, x126_1_v6, x126_1_v7, x126_1_v8, x126_1_d, x126_52, x126_53, x126_56, x126_59, x126_60, x126_61, x126_64, x126_67, x126_68, x126_69, x126_72, x126_75, x126_76, x126_77, x126_80, x126_83, x126_84, x126_85, x126_88, x126_91, x126_92, x126_93, x126_96, x126_99, x126_100, x126_103, x126_106, x126_107, x126_108, x126_109, x126_112, x126_115, x126_116, x126_117, x126_120, x126_123, x126_124, x126_125, x126_128, x126_131, x126_132, x126_133, x126_134, x126_136, x126_137, x126_140, gf_15_9 k0, hb, gc_9 hB.1, k20, Option.bind_some, Option.toList_some, Option.toList_none, List.cons_append, List.nil_append, Option.isSome_some, if_true, eq_self, or_true, true_or, xb_01, mcl_cl, not_true_eq_false, not_false_eq_true, if_false]
  · rw [if_neg i0]
    by_cases i1 : i = 1
    · subst i1
      rw [if_pos rfl]
      have k21 := c21 (g := g) (n := n) (kc := kc) (ks := ks) hA.1.1 hB.1
      have he : mCnt (fun q => decide (G.2.2.1 (b + 2) q = 10) || decide (G.2.2.1 (b + 2) q = 11)) 0 10 = sSlots S false := by
        refine mCnt_congr _ _ (fun q _ hq => ?_)
        show (decide (G.2.2.1 (b + 2) q = 10) || decide (G.2.2.1 (b + 2) q = 11)) = (!decide (S.2.2.1 7 q = -11) && decide (mRow S q = false))
        rcases hB.2.1 q (by omega) with ⟨r0, r1, r2, r3, r4⟩ | ⟨r0, r1, r2⟩ | ⟨r0, r1, r2, r3⟩
        · have := (hA.2.2.2.2.2.2.2.2.1.2.2.2.2.1 _ (mRow_eq r0).2).2
          rw [r2, r0]
          have n10 : ¬ S.2.2.1 2 (mr S q) = 10 := fun z => by rw [z] at this; exact absurd this (by decide)
          have n11 : ¬ S.2.2.1 2 (mr S q) = 11 := fun z => by rw [z] at this; exact absurd this (by decide)
          simp [n10, n11]
        · rw [r2, r0]
          simp
        · have hm : mRow S q = false := by
            unfold mRow
            rcases r0 with r0 | r0 <;> rw [r0] <;> decide
          have n1 : ¬ S.2.2.1 7 q = -11 := by rcases r0 with r0 | r0 <;> rw [r0] <;> decide
          rw [r2, hm]
          rcases r0 with r0 | r0 <;> simp [r0]
      rw [he] at k21
      simp only [x126_0, x126_1_v0, x126_1_v1, x126_1_v2, x126_1_v3, x126_1_v4, x126_1_v5, x126_1_v6, x126_1_v7, x126_1_v8, x126_1_d, x126_52, x126_53, x126_56, x126_59, x126_60, x126_61, x126_64, x126_67, x126_68, x126_69, x126_72, x126_75, x126_76, x126_77, x126_80, x126_83, x126_84, x126_85, x126_88, x126_91, x126_92, x126_93, x126_96, x126_99, x126_100, x126_103, x126_106, x126_107, x126_108, x126_109, x126_112, x126_115, x126_116, x126_117, x126_120, x126_123, x126_124, x126_125, x126_128, x126_131, x126_132, x126_133, x126_134, x126_136, x126_137, x126_140, gf_15_9 k0, hb, gc_9 hB.1, k21, Option.bind_some, Option.toList_some, Option.toList_none, List.cons_append, List.nil_append, Option.isSome_some, if_true, eq_self, or_true, true_or, xb_01, mcl_cl, not_true_eq_false, not_false_eq_true, if_false]
    · rw [if_neg i1]
      by_cases i2 : i = 2
      · subst i2
        rw [if_pos rfl]
        have k22 := c22 (g := g) (n := n) (kc := kc) (ks := ks) hA.1.1 hB.1
        rw [rows_eq hB hI] at k22
        simp only [x126_0, x126_1_v0, x126_1_v1, x126_1_v2, x126_1_v3, x126_1_v4, x126_1_v5, x126_1_v6, x126_1_v7, x126_1_v8, x126_1_d, x126_52, x126_53, x126_56, x126_59, x126_60, x126_61, x126_64, x126_67, x126_68, x126_69, x126_72, x126_75, x126_76, x126_77, x126_80, x126_83, x126_84, x126_85, x126_88, x126_91, x126_92, x126_93, x126_96, x126_99, x126_100, x126_103, x126_106, x126_107, x126_108, x126_109, x126_112, x126_115, x126_116, x126_117, x126_120, x126_123, x126_124, x126_125, x126_128, x126_131, x126_132, x126_133, x126_134, x126_136, x126_137, x126_140, gf_15_9 k0, hb, gc_9 hB.1, k22, Option.bind_some, Option.toList_some, Option.toList_none, List.cons_append, List.nil_append, Option.isSome_some, if_true, eq_self, or_true, true_or, xb_01, mcl_cl, not_true_eq_false, not_false_eq_true, if_false]
      · rw [if_neg i2]
        by_cases i3 : i = 3
        · subst i3
          rw [if_pos rfl]
          have k23 := c23 (g := g) (n := n) (kc := kc) (ks := ks) hA.1.1 hB.1 (bFst_1 hB hI)
          have he := sum_rows (w := S.2.2.1 3) (F := bCs G b) (H := fun a => nI (G.2.1 (a + 2))) hB hI (fun s _ => rfl) (fun r hr => by
            obtain ⟨_, _, _, _, y5⟩ := ro_size (g := g) (kc := 0) (ks := 0) hA hr
            rw [(bS_row hB hr).2.2.1, y5])
          have he2 : mAdd (sCm S false) 0 10 0 = mAdd (fun r => if mHolders S (nI r) = 0 then 0 else S.2.2.1 3 r) 0 10 0 := mAdd_cg _ _ _ (fun r _ _ => by unfold sCm; simp)
          rw [he, ← he2] at k23
          simp only [x126_0, x126_1_v0, x126_1_v1, x126_1_v2, x126_1_v3, x126_1_v4, x126_1_v5, x126_1_v6, x126_1_v7, x126_1_v8, x126_1_d, x126_52, x126_53, x126_56, x126_59, x126_60, x126_61, x126_64, x126_67, x126_68, x126_69, x126_72, x126_75, x126_76, x126_77, x126_80, x126_83, x126_84, x126_85, x126_88, x126_91, x126_92, x126_93, x126_96, x126_99, x126_100, x126_103, x126_106, x126_107, x126_108, x126_109, x126_112, x126_115, x126_116, x126_117, x126_120, x126_123, x126_124, x126_125, x126_128, x126_131, x126_132, x126_133, x126_134, x126_136, x126_137, x126_140, gf_15_9 k0, hb, gc_9 hB.1, k23, Option.bind_some, Option.toList_some, Option.toList_none, List.cons_append, List.nil_append, Option.isSome_some, if_true, eq_self, or_true, true_or, xb_01, mcl_cl, not_true_eq_false, not_false_eq_true, if_false]
        · rw [if_neg i3]
          by_cases i4 : i = 4
          · subst i4
            rw [if_pos rfl]
            simp only [x126_0, x126_1_v0, x126_1_v1, x126_1_v2, x126_1_v3, x126_1_v4, x126_1_v5, x126_1_v6, x126_1_v7, x126_1_v8, x126_1_d, x126_52, x126_53, x126_56, x126_59, x126_60, x126_61, x126_64, x126_67, x126_68, x126_69, x126_72, x126_75, x126_76, x126_77, x126_80, x126_83, x126_84, x126_85, x126_88, x126_91, x126_92, x126_93, x126_96, x126_99, x126_100, x126_103, x126_106, x126_107, x126_108, x126_109, x126_112, x126_115, x126_116, x126_117, x126_120, x126_123, x126_124, x126_125, x126_128, x126_131, x126_132, x126_133, x126_134, x126_136, x126_137, x126_140, gf_15_6 k0, gf_20_3 k7, j1, Option.bind_some, Option.toList_some, Option.toList_none, List.cons_append, List.nil_append, Option.isSome_some, if_true, eq_self, or_true, true_or, xb_01, mcl_cl, not_true_eq_false, not_false_eq_true, if_false]
          · rw [if_neg i4]
            by_cases i5 : i = 5
            · subst i5
              rw [if_pos rfl]
              simp only [x126_0, x126_1_v0, x126_1_v1, x126_1_v2, x126_1_v3, x126_1_v4, x126_1_v5, x126_1_v6, x126_1_v7, x126_1_v8, x126_1_d, x126_52, x126_53, x126_56, x126_59, x126_60, x126_61, x126_64, x126_67, x126_68, x126_69, x126_72, x126_75, x126_76, x126_77, x126_80, x126_83, x126_84, x126_85, x126_88, x126_91, x126_92, x126_93, x126_96, x126_99, x126_100, x126_103, x126_106, x126_107, x126_108, x126_109, x126_112, x126_115, x126_116, x126_117, x126_120, x126_123, x126_124, x126_125, x126_128, x126_131, x126_132, x126_133, x126_134, x126_136, x126_137, x126_140, gf_15_6 k0, gf_20_3 k7, gf_20_4 k7, j1, j2, Option.bind_some, Option.toList_some, Option.toList_none, List.cons_append, List.nil_append, Option.isSome_some, if_true, eq_self, or_true, true_or, xb_01, mcl_cl, not_true_eq_false, not_false_eq_true, if_false]
            · rw [if_neg i5]
              by_cases i6 : i = 6
              · subst i6
                rw [if_pos rfl]
                simp only [x126_0, x126_1_v0, x126_1_v1, x126_1_v2, x126_1_v3, x126_1_v4, x126_1_v5, x126_1_v6, x126_1_v7, x126_1_v8, x126_1_d, x126_52, x126_53, x126_56, x126_59, x126_60, x126_61, x126_64, x126_67, x126_68, x126_69, x126_72, x126_75, x126_76, x126_77, x126_80, x126_83, x126_84, x126_85, x126_88, x126_91, x126_92, x126_93, x126_96, x126_99, x126_100, x126_103, x126_106, x126_107, x126_108, x126_109, x126_112, x126_115, x126_116, x126_117, x126_120, x126_123, x126_124, x126_125, x126_128, x126_131, x126_132, x126_133, x126_134, x126_136, x126_137, x126_140, gf_15_7 k0, gf_23_2 k10, r8, Option.bind_some, Option.toList_some, Option.toList_none, List.cons_append, List.nil_append, Option.isSome_some, if_true, eq_self, or_true, true_or, xb_01, mcl_cl, not_true_eq_false, not_false_eq_true, if_false]
              · rw [if_neg i6]
                by_cases i7 : i = 7
                · subst i7
                  rw [if_pos rfl]
                  simp only [x126_0, x126_1_v0, x126_1_v1, x126_1_v2, x126_1_v3, x126_1_v4, x126_1_v5, x126_1_v6, x126_1_v7, x126_1_v8, x126_1_d, x126_52, x126_53, x126_56, x126_59, x126_60, x126_61, x126_64, x126_67, x126_68, x126_69, x126_72, x126_75, x126_76, x126_77, x126_80, x126_83, x126_84, x126_85, x126_88, x126_91, x126_92, x126_93, x126_96, x126_99, x126_100, x126_103, x126_106, x126_107, x126_108, x126_109, x126_112, x126_115, x126_116, x126_117, x126_120, x126_123, x126_124, x126_125, x126_128, x126_131, x126_132, x126_133, x126_134, x126_136, x126_137, x126_140, gf_15_8 k0, gf_26_2 k13, r6, Option.bind_some, Option.toList_some, Option.toList_none, List.cons_append, List.nil_append, Option.isSome_some, if_true, eq_self, or_true, true_or, xb_01, mcl_cl, not_true_eq_false, not_false_eq_true, if_false]
                · rw [if_neg i7]
                  by_cases i8 : i = 8
                  · subst i8
                    rw [if_pos rfl]
                    have k24 := c24 (g := g) (n := n) (kc := kc) (ks := ks) hA.1.1 hB.1 (bFst_1 hB hI)
                    have he := sum_rows (w := fun r => nI (mCnt (pBit (S.2.2.1 4 r)) 0 32)) (F := bTs G b) (H := fun a => nI (mCnt (fun q => !decide (G.2.2.1 (a + 3) q = 0)) 0 (G.2.1 (a + 2)))) hB hI (fun s _ => rfl) (fun r hr => by
                      show nI (mCnt (fun q => !decide (G.2.2.1 (ρ r + 3) q = 0)) 0 (G.2.1 (ρ r + 2))) = nI (mCnt (pBit (S.2.2.1 4 r)) 0 32)
                      rw [(bS_row hB hr).2.2.1, tch_cnt hA hr])
                    have he2 : mAdd (sCm S true) 0 10 0 = mAdd (fun r => if mHolders S (nI r) = 0 then 0 else nI (mCnt (pBit (S.2.2.1 4 r)) 0 32)) 0 10 0 := mAdd_cg _ _ _ (fun r _ _ => by unfold sCm; simp)
                    rw [he, ← he2] at k24
                    simp only [x126_0, x126_1_v0, x126_1_v1, x126_1_v2, x126_1_v3, x126_1_v4, x126_1_v5, x126_1_v6, x126_1_v7, x126_1_v8, x126_1_d, x126_52, x126_53, x126_56, x126_59, x126_60, x126_61, x126_64, x126_67, x126_68, x126_69, x126_72, x126_75, x126_76, x126_77, x126_80, x126_83, x126_84, x126_85, x126_88, x126_91, x126_92, x126_93, x126_96, x126_99, x126_100, x126_103, x126_106, x126_107, x126_108, x126_109, x126_112, x126_115, x126_116, x126_117, x126_120, x126_123, x126_124, x126_125, x126_128, x126_131, x126_132, x126_133, x126_134, x126_136, x126_137, x126_140, gf_15_9 k0, hb, gc_9 hB.1, k24, Option.bind_some, Option.toList_some, Option.toList_none, List.cons_append, List.nil_append, Option.isSome_some, if_true, eq_self, or_true, true_or, xb_01, mcl_cl, not_true_eq_false, not_false_eq_true, if_false]
                  · rw [if_neg i8]
                    have hd := sw08 i0 i1 i2 i3 i4 i5 i6 i7 i8
                    have k136 := c136 (g := g) (n := n) (kc := kc) (ks := ks) (i := i - 11) hA.1.2.1
                    by_cases i11 : i = 11
                    · subst i11
                      rw [if_pos rfl]
                      rw [if_pos (by decide)] at k136
                      rw [show tn (11 - 11) = 0 from rfl, r3 0 (by decide)] at k136
                      simp only [x126_0, x126_1_v0, x126_1_v1, x126_1_v2, x126_1_v3, x126_1_v4, x126_1_v5, x126_1_v6, x126_1_v7, x126_1_v8, x126_1_d, x126_52, x126_53, x126_56, x126_59, x126_60, x126_61, x126_64, x126_67, x126_68, x126_69, x126_72, x126_75, x126_76, x126_77, x126_80, x126_83, x126_84, x126_85, x126_88, x126_91, x126_92, x126_93, x126_96, x126_99, x126_100, x126_103, x126_106, x126_107, x126_108, x126_109, x126_112, x126_115, x126_116, x126_117, x126_120, x126_123, x126_124, x126_125, x126_128, x126_131, x126_132, x126_133, x126_134, x126_136, x126_137, x126_140, x126_1_d hd, gc_15 k0, k136, Option.bind_some, Option.toList_some, Option.toList_none, List.cons_append, List.nil_append, Option.isSome_some, if_true, eq_self, or_true, true_or, xb_01, mcl_cl, not_true_eq_false, not_false_eq_true, if_false]
                    · rw [if_neg i11]
                      by_cases i12 : i = 12
                      · subst i12
                        rw [if_pos rfl]
                        rw [if_pos (by decide)] at k136
                        rw [show tn (12 - 11) = 1 from rfl, r3 1 (by decide)] at k136
                        simp only [x126_0, x126_1_v0, x126_1_v1, x126_1_v2, x126_1_v3, x126_1_v4, x126_1_v5, x126_1_v6, x126_1_v7, x126_1_v8, x126_1_d, x126_52, x126_53, x126_56, x126_59, x126_60, x126_61, x126_64, x126_67, x126_68, x126_69, x126_72, x126_75, x126_76, x126_77, x126_80, x126_83, x126_84, x126_85, x126_88, x126_91, x126_92, x126_93, x126_96, x126_99, x126_100, x126_103, x126_106, x126_107, x126_108, x126_109, x126_112, x126_115, x126_116, x126_117, x126_120, x126_123, x126_124, x126_125, x126_128, x126_131, x126_132, x126_133, x126_134, x126_136, x126_137, x126_140, x126_1_d hd, gc_15 k0, k136, Option.bind_some, Option.toList_some, Option.toList_none, List.cons_append, List.nil_append, Option.isSome_some, if_true, eq_self, or_true, true_or, xb_01, mcl_cl, not_true_eq_false, not_false_eq_true, if_false]
                      · rw [if_neg i12]
                        by_cases i13 : i = 13
                        · subst i13
                          rw [if_pos rfl]
                          rw [if_pos (by decide)] at k136
                          rw [show tn (13 - 11) = 2 from rfl, r3 2 (by decide)] at k136
                          simp only [x126_0, x126_1_v0, x126_1_v1, x126_1_v2, x126_1_v3, x126_1_v4, x126_1_v5, x126_1_v6, x126_1_v7, x126_1_v8, x126_1_d, x126_52, x126_53, x126_56, x126_59, x126_60, x126_61, x126_64, x126_67, x126_68, x126_69, x126_72, x126_75, x126_76, x126_77, x126_80, x126_83, x126_84, x126_85, x126_88, x126_91, x126_92, x126_93, x126_96, x126_99, x126_100, x126_103, x126_106, x126_107, x126_108, x126_109, x126_112, x126_115, x126_116, x126_117, x126_120, x126_123, x126_124, x126_125, x126_128, x126_131, x126_132, x126_133, x126_134, x126_136, x126_137, x126_140, x126_1_d hd, gc_15 k0, k136, Option.bind_some, Option.toList_some, Option.toList_none, List.cons_append, List.nil_append, Option.isSome_some, if_true, eq_self, or_true, true_or, xb_01, mcl_cl, not_true_eq_false, not_false_eq_true, if_false]
                        · rw [if_neg i13]
                          rw [i32_s11 hd i11 i12 i13, if_neg (by simp)] at k136
                          simp only [x126_0, x126_1_v0, x126_1_v1, x126_1_v2, x126_1_v3, x126_1_v4, x126_1_v5, x126_1_v6, x126_1_v7, x126_1_v8, x126_1_d, x126_52, x126_53, x126_56, x126_59, x126_60, x126_61, x126_64, x126_67, x126_68, x126_69, x126_72, x126_75, x126_76, x126_77, x126_80, x126_83, x126_84, x126_85, x126_88, x126_91, x126_92, x126_93, x126_96, x126_99, x126_100, x126_103, x126_106, x126_107, x126_108, x126_109, x126_112, x126_115, x126_116, x126_117, x126_120, x126_123, x126_124, x126_125, x126_128, x126_131, x126_132, x126_133, x126_134, x126_136, x126_137, x126_140, x126_1_d hd, gc_15 k0, k136, Option.bind_some, Option.toList_some, Option.toList_none, List.cons_append, List.nil_append, Option.isSome_some, if_true, eq_self, or_true, true_or, xb_01, mcl_cl, not_true_eq_false, not_false_eq_true, if_false]
end K32
