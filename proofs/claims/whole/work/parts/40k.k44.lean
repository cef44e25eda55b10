/-! THE CLASS beside the reference, 31: thing, same -/
section K44
variable {g : xG} {n kc ks a b c s t w q l x y jn d r p n' e kb n1 kc1 ks1 m N : Nat} {G T U G1 G2 : GS} {h : xH} {i j k v i1 i2 x7 x8 : Int32} {u z : Int64} {S S1 S' V W : MS} {ρ κ ρ' : Nat → Nat} {L L' : List Nat} {o : Option Nat}
theorem bSet_agb : agb (bSet G b s o k j) G L b := by
  intro q _ hq
  have h1 : ¬ q = b + 1 := by omega
  have h2 : ¬ q = b + 2 := by omega
  have h3 : ¬ q = b + 3 := by omega
  refine ⟨rfl, rfl, ?_, rfl, ?_⟩
  · funext t
    simp [bSet, gsI, gsR, h2, h3]
  · funext t
    simp [bSet, gsI, gsR, h1]
theorem bSet_R : (bSet G b s o k j).2.2.2.2 (b + 1) q = if q = s then o else G.2.2.2.2 (b + 1) q := by
  simp [bSet, gsI, gsR]
theorem bSet_I2 : (bSet G b s o k j).2.2.1 (b + 2) q = if q = s then k else G.2.2.1 (b + 2) q := by
  simp [bSet, gsI, gsR]
theorem bSet_I3 : (bSet G b s o k j).2.2.1 (b + 3) q = if q = s then j else G.2.2.1 (b + 3) q := by
  simp [bSet, gsI, gsR]
theorem bSet_same : bSet G b s (G.2.2.2.2 (b + 1) s) (G.2.2.1 (b + 2) s) (G.2.2.1 (b + 3) s) = G := by
  refine Prod.ext rfl (Prod.ext rfl (Prod.ext ?_ (Prod.ext rfl ?_)))
  · funext q e
    show (if q = b + 3 ∧ e = s then _ else if q = b + 2 ∧ e = s then _ else G.2.2.1 q e) = G.2.2.1 q e
    by_cases c1 : q = b + 3 ∧ e = s
    · rw [if_pos c1, c1.1, c1.2]
    · rw [if_neg c1]
      by_cases c2 : q = b + 2 ∧ e = s
      · rw [if_pos c2, c2.1, c2.2]
      · rw [if_neg c2]
  · funext q e
    show (if q = b + 1 ∧ e = s then _ else G.2.2.2.2 q e) = G.2.2.2.2 q e
    by_cases c1 : q = b + 1 ∧ e = s
    · rw [if_pos c1, c1.1, c1.2]
    · rw [if_neg c1]
/-- who holds a row once a slot has let it go -/
theorem cnt_let (hB : bS G b ρ S) (hI : bI S ρ) (hs : s < 10) (hrow : mRow S s = true) (h1 : ∀ q, q < 10 → q ≠ s → G1.2.2.2.2 (b + 1) q = G.2.2.2.2 (b + 1) q) (h2 : ¬ G1.2.2.2.2 (b + 1) s = some (ρ (mr S s))) : mCnt (fun q => decide (G1.2.2.2.2 (b + 1) q = some (ρ (mr S s)))) 0 10 = 0 ↔ mHolders (mLo S s) (S.2.2.1 7 s) = 0 := by
  have : mCnt (fun q => decide (G1.2.2.2.2 (b + 1) q = some (ρ (mr S s)))) 0 10 = mHolders (mLo S s) (S.2.2.1 7 s) := by
    unfold mHolders
    refine mCnt_congr _ _ (fun q _ hq => ?_)
    obtain ⟨r7, r10⟩ := mRow_eq hrow
    by_cases c1 : q = s
    · subst c1
      have e1 : (mLo S q).2.2.1 7 q = -11 := by simp [mLo, msA]
      rw [decide_eq_false h2, decide_eq_false]
      rw [e1, r7]
      intro z
      have := congrArg Int32.toInt z
      rw [nI_toInt (by omega), show (-11 : Int32).toInt = -11 from rfl] at this
      omega
    · have e2 : (mLo S s).2.2.1 7 q = S.2.2.1 7 q := by simp [mLo, msA, c1]
      have e1 : G.2.2.2.2 (b + 1) s = some (ρ (mr S s)) := by
        rw [sf_G hB hs]
        unfold sf
        rw [if_pos hrow]
        rfl
      have e3 : sf S s = some (mr S s) := by
        unfold sf
        rw [if_pos hrow]
      have h3 := sf_bank hB hI (s := q) (t := s) (by omega) hs
      rw [e1, e3, sf_7 r10, ← r7] at h3
      rw [h1 q (by omega) c1, e2]
      by_cases c2 : S.2.2.1 7 q = S.2.2.1 7 s
      · rw [decide_eq_true c2, decide_eq_true (h3.mpr c2)]
      · rw [decide_eq_false c2, decide_eq_false (fun z => c2 (h3.mp z))]
  rw [this]
/-- a slot holds something else, no row is new -/
theorem rA_sw (hA : rA g G c n b ρ S) (hp : G.2.2.1 (c + 7) 1 = 0) (hs : s < 10) (hW : mLet S s W) (hslot : bSl (bSet G b s o k j) b ρ (msA (msA W 7 s x7) 8 s x8) s) (hsub : ∀ r, rIn (msA (msA W 7 s x7) 8 s x8) r → rIn S r) (hcnt : mRow S s = true → ¬ o = some (ρ (mr S s))) : ∃ G2, X g 138 0 [.val (va_rf (some c)), .val (va_rf (G.2.2.2.2 (b + 1) s))] [] (gH n kc ks (bSet G b s o k j)) = some (none, gH n kc ks G2) ∧ rA g G2 c n b ρ (msA (msA W 7 s x7) 8 s x8) ∧ G2.2.2.1 (c + 7) 1 = 0 ∧ G2.1 = G.1 := by
  obtain ⟨d, e, f1, f2, f3, f4⟩ := hA.2.2.2.2.2.2.1.2.2.1
  have hL : gL g (bSet G b s o k j) c n := gL_same rfl rfl hA.1
  have hAb : agb (bSet G b s o k j) G [0] b := bSet_agb
  have hw := hA.1.1
  have hb := hA.2.2.1.1
  have hB := hA.2.2.1
  have hO := hA.2.2.2.2.2.2.2.2.1
  obtain ⟨G2, g1, g2⟩ := rel_let (g := g) (kc := kc) (ks := ks) hA hp hs hL hAb f2 f4 (fun hrow => cnt_let hB hA.2.2.2.1 hs hrow (fun q _ hq => by rw [bSet_R, if_neg hq]) (by rw [bSet_R, if_pos rfl]; exact hcnt hrow))
  refine ⟨G2, g1, ?_, g2.2.2.2.1, g2.2.1⟩
  have l1 := hW.1
  have q3 : ∀ q, q ≠ 7 → q ≠ 8 → (q ≠ 17 ∧ q ≠ 18 ∧ q ≠ 20 ∧ q ≠ 22) → (msA (msA W 7 s x7) 8 s x8).2.2.1 q = S.2.2.1 q := by
    intro q h7 h8 hh
    funext t
    have e1 : (msA (msA W 7 s x7) 8 s x8).2.2.1 q t = W.2.2.1 q t := by simp [msA, h7, h8]
    have e2 : (mLo S s).2.2.1 q t = S.2.2.1 q t := by simp [mLo, msA, h7]
    rw [e1, l1.2.2.1 q t hh.1 hh.2.1 hh.2.2.1 hh.2.2.2, e2]
  have q7 : ∀ q, q ≠ s → (msA (msA W 7 s x7) 8 s x8).2.2.1 7 q = S.2.2.1 7 q := by
    intro q hq
    have e1 : (msA (msA W 7 s x7) 8 s x8).2.2.1 7 q = W.2.2.1 7 q := by simp [msA, hq]
    have e2 : (mLo S s).2.2.1 7 q = S.2.2.1 7 q := by simp [mLo, msA, hq]
    rw [e1, l1.2.2.1 7 q (by decide) (by decide) (by decide) (by decide), e2]
  have q8 : ∀ q, q ≠ s → (msA (msA W 7 s x7) 8 s x8).2.2.1 8 q = S.2.2.1 8 q := by
    intro q hq
    have e1 : (msA (msA W 7 s x7) 8 s x8).2.2.1 8 q = W.2.2.1 8 q := by simp [msA, hq]
    have e2 : (mLo S s).2.2.1 8 q = S.2.2.1 8 q := by simp [mLo, msA]
    rw [e1, l1.2.2.1 8 q (by decide) (by decide) (by decide) (by decide), e2]
  have q4 : ∀ q, ¬ q ∈ [19, 21] → (msA (msA W 7 s x7) 8 s x8).2.2.2 q = S.2.2.2 q := by
    intro q hq
    funext t
    simp only [List.mem_cons, List.not_mem_nil, or_false] at hq
    exact l1.2.2.2 q t (by omega) (by omega)
  have hin : ∀ r, rIn S r → (mDrp S s = true → ¬ r = mr S s) → rIn (msA (msA W 7 s x7) 8 s x8) r := by
    intro r h1 h2
    obtain ⟨q, y1, y2, y3, y4⟩ := held_oth h1 h2
    obtain ⟨z1, z2⟩ := mRow_cg (q7 q y2)
    exact ⟨q, y1, by rw [z1]; exact y3, by rw [z2]; exact y4⟩
  have hjA : ∀ w, mAc (msA (msA W 7 s x7) 8 s x8) W w w := by
    intro w
    refine ⟨by simp [msA], fun k hk => ⟨by simp [msA], by simp [msA], rfl, by simp [msA], rfl⟩⟩
  have s2 := q3 2 (by decide) (by decide) (by decide)
  have s3 := q3 3 (by decide) (by decide) (by decide)
  have s4 := q3 4 (by decide) (by decide) (by decide)
  have s5 := q3 5 (by decide) (by decide) (by decide)
  have s12 := q3 12 (by decide) (by decide) (by decide)
  have s6 := q4 6 (by decide)
  have hIn : ∀ q, (msA (msA W 7 s x7) 8 s x8).1 q = W.1 q := fun q => rfl
  have hIl : (msA (msA W 7 s x7) 8 s x8).2.1 = S.2.1 := l1.1
  generalize msA (msA W 7 s x7) 8 s x8 = S' at *
  have hmz : ∀ r, mz S' r = mz S r := fun r => by unfold mz; rw [s3]
  refine rA_slot hA hL hAb f2 f4 g2 ⟨hb, ?_, ?_⟩ ?_ ?_ ?_ hW (fun q h1 h2 => (hIn q).trans (l1.2.1 q h1 h2)) ?_ (hIn 23) (hIn 24) ?_ ?_ hjA (fun r hr => Or.inl ⟨hsub r hr, rfl⟩) (fun r h1 h2 => ⟨hin r h1 h2, rfl, by rw [s2], by rw [s3]⟩)
  · intro q hq
    by_cases c1 : q = s
    · rw [c1]
      exact hslot
    · unfold bSl
      obtain ⟨z1, z2⟩ := mRow_cg (q7 q c1)
      rw [bSet_R, if_neg c1, bSet_I2, if_neg c1, bSet_I3, if_neg c1, z1, z2, q7 q c1, q8 q c1, s2]
      rcases hB.2.1 q hq with ⟨r0, r1, r2, r3, r4⟩ | r | r
      · refine Or.inl ⟨r0, r1, r2, r3, ?_⟩
        have hro := bS_row hB (⟨q, hq, r0, rfl⟩ : rIn S (mr S q))
        obtain ⟨v1, v2, v3, _⟩ := hw.1 _ hro.1
        have := bRo_at (agb_e hw hb hAb (by rw [hro.1]; decide) (by rw [hro.1]; decide)) (agb_e hw hb hAb (by rw [v1]; decide) (by rw [v1]; decide)) (agb_e hw hb hAb (by rw [v2]; decide) (by rw [v2]; decide)) r4
        unfold bRo mz at this ⊢
        rw [s2, s3, s5, s6]
        exact this
      · exact Or.inr (Or.inl r)
      · exact Or.inr (Or.inr r)
  · intro w k hw' hk
    rw [s12, ← hB.2.2 w k hw' hk]
    simp only [bSet, gsI3]
    rw [if_neg (by omega), if_neg (by omega)]
    rfl
  · intro r r' y1 y2
    exact hA.2.2.2.1 r r' (hsub r y1) (hsub r' y2)
  · have := tR_agb hw hb hAb (by decide) (fun r hr => (bS_row hB hr).1) hA.2.2.2.2.1
    intro r hr
    rw [hmz, s4]
    exact this r (hsub r hr)
  · exact mOk_c hO (fun i => by rw [s2]) (fun i => by rw [s3]) (fun i => by rw [s12]) (fun q hq => by rw [s5, s6]; exact okc_self hO hq)
  · exact hIl
  · intro q hq
    simp only [List.mem_cons, List.not_mem_nil, or_false, not_or] at hq
    exact q3 q hq.2.2.2.2.1 hq.2.2.2.2.2.1 ⟨hq.2.2.2.2.2.2.1, hq.2.2.2.2.2.2.2.1, hq.2.2.2.2.2.2.2.2.1, hq.2.2.2.2.2.2.2.2.2⟩
  · intro q hq
    simp only [List.mem_cons, List.not_mem_nil, or_false, not_or] at hq
    exact q4 q (by simp only [List.mem_cons, List.not_mem_nil, or_false, not_or]; exact ⟨hq.2.1, hq.2.2⟩)
theorem s93 (hA : rA g G c n b ρ S) (hp : G.2.2.1 (c + 7) 1 = 0) (hW : sThing i k j = 1 → mLet S (tn i) W) : sim g c n kc ks G 93 [.val (va_rf (some c)), .val (.int i), .val (.int k), .val (.int j), .unset] (.int (sThing i k j)) (if sThing i k j = 1 then mTh W (tn i) k j else S) := by
  have k0 : G.1 c = 15 := hA.1.2.1.1
  have hb := hA.2.1
  have hB := hA.2.2.1
  have h10 : ¬ (1 : Int32) = 0 := by decide
  revert hW
  unfold sThing
  cases e1 : mSlot i with
  | false =>
    intro _
    rw [if_pos rfl, if_neg (by decide)]
    refine sim_same hA hp ?_
    simp only [x93_0, x93_1, x93_4, x93_7, x93_8, x93_9, x93_10, x93_11, x93_14, x93_15, x93_16, x93_19, x93_20, x93_21, x93_24, x93_25, x93_26, x93_29, x93_32, x93_34, x93_35, x93_36, x93_39, x93_40, x93_43, x93_45, x93_46, x93_47, x93_50, x93_51, x93_54, x93_55, x93_56, x93_57, x93_60, x93_63, x93_64, x93_67, x93_68, x93_69, x93_72, x93_74, x93_77, x93_79, x93_80, x93_83, x93_84, x93_86, x93_89, x93_90, c127, e1, xb_f, Option.bind_some, Option.toList_some, Option.toList_none, List.cons_append, List.nil_append, Option.isSome_some, if_true, eq_self, or_true, true_or, xb_01, mcl_cl, not_true_eq_false, not_false_eq_true, if_false]
  | true =>
    rw [if_neg (by simp)]
    obtain ⟨hi, hi10⟩ := c127w e1
    have k9 := c9 (g := g) (n := n) (kc := kc) (ks := ks) (i := i) hA.1.1 hB.1
    unfold bRow at k9
    rw [e1, if_pos rfl] at k9
    by_cases q1 : k < -1
    · rw [show mWithin k.toInt (-1) 1 = false from wi_1 (lo := -1) (hi := 1) q1, if_pos rfl, if_neg (by decide)]
      intro _
      refine sim_same hA hp ?_
      simp only [x93_0, x93_1, x93_4, x93_7, x93_8, x93_9, x93_10, x93_11, x93_14, x93_15, x93_16, x93_19, x93_20, x93_21, x93_24, x93_25, x93_26, x93_29, x93_32, x93_34, x93_35, x93_36, x93_39, x93_40, x93_43, x93_45, x93_46, x93_47, x93_50, x93_51, x93_54, x93_55, x93_56, x93_57, x93_60, x93_63, x93_64, x93_67, x93_68, x93_69, x93_72, x93_74, x93_77, x93_79, x93_80, x93_83, x93_84, x93_86, x93_89, x93_90, c127, e1, xb_t, h10, q1, Option.bind_some, Option.toList_some, Option.toList_none, List.cons_append, List.nil_append, Option.isSome_some, if_true, eq_self, or_true, true_or, xb_01, mcl_cl, not_true_eq_false, not_false_eq_true, if_false]
    · by_cases q2 : 1 < k
      · rw [show mWithin k.toInt (-1) 1 = false from wi_2 (lo := -1) (hi := 1) q2, if_pos rfl, if_neg (by decide)]
        intro _
        refine sim_same hA hp ?_
        simp only [x93_0, x93_1, x93_4, x93_7, x93_8, x93_9, x93_10, x93_11, x93_14, x93_15, x93_16, x93_19, x93_20, x93_21, x93_24, x93_25, x93_26, x93_29, x93_32, x93_34, x93_35, x93_36, x93_39, x93_40, x93_43, x93_45, x93_46, x93_47, x93_50, x93_51, x93_54, x93_55, x93_56, x93_57, x93_60, x93_63, x93_64, x93_67, x93_68, x93_69, x93_72, x93_74, x93_77, x93_79, x93_80, x93_83, x93_84, x93_86, x93_89, x93_90, c127, e1, xb_t, h10, q1, q2, Option.bind_some, Option.toList_some, Option.toList_none, List.cons_append, List.nil_append, Option.isSome_some, if_true, eq_self, or_true, true_or, xb_01, mcl_cl, not_true_eq_false, not_false_eq_true, if_false]
      · rw [show mWithin k.toInt (-1) 1 = true from wi_3 (lo := -1) (hi := 1) q1 q2, if_neg (by simp)]
        by_cases q3 : k = 1 ∧ mWithin j.toInt 0 9 = false
        · rw [if_pos q3, if_neg (by decide)]
          intro _
          refine sim_same hA hp ?_
          have q5 := q3.2
          obtain ⟨q4, _⟩ := q3
          subst q4
          simp only [x93_0, x93_1, x93_4, x93_7, x93_8, x93_9, x93_10, x93_11, x93_14, x93_15, x93_16, x93_19, x93_20, x93_21, x93_24, x93_25, x93_26, x93_29, x93_32, x93_34, x93_35, x93_36, x93_39, x93_40, x93_43, x93_45, x93_46, x93_47, x93_50, x93_51, x93_54, x93_55, x93_56, x93_57, x93_60, x93_63, x93_64, x93_67, x93_68, x93_69, x93_72, x93_74, x93_77, x93_79, x93_80, x93_83, x93_84, x93_86, x93_89, x93_90, c127, e1, xb_t, h10, q1, q2, c131, i32_64, q5, xb_f, Option.bind_some, Option.toList_some, Option.toList_none, List.cons_append, List.nil_append, Option.isSome_some, if_true, eq_self, or_true, true_or, xb_01, mcl_cl, not_true_eq_false, not_false_eq_true, if_false]
        · rw [if_neg q3, if_pos rfl]
          intro hW
          have hW := hW rfl
          have c1 : k = -1 ∨ k = 0 ∨ k = 1 := by
            have y1 : -1 ≤ k.toInt := by rw [i32_lt, show (-1 : Int32).toInt = -1 from rfl] at q1; omega
            have y2 : k.toInt ≤ 1 := by rw [i32_lt, show (1 : Int32).toInt = 1 from rfl] at q2; omega
            have : k.toInt = -1 ∨ k.toInt = 0 ∨ k.toInt = 1 := by omega
            rcases this with h | h | h
            · exact Or.inl (Int32.toInt_inj.mp h)
            · exact Or.inr (Or.inl (Int32.toInt_inj.mp h))
            · exact Or.inr (Or.inr (Int32.toInt_inj.mp h))
          have key : ∀ x7 x8 k', (x7 = -11 ∧ k' = -1 ∨ (x7 = 10 ∨ x7 = 11) ∧ k' = x7) → ∃ G2, X g 138 0 [.val (va_rf (some c)), .val (va_rf (G.2.2.2.2 (b + 1) (tn i)))] [] (gH n kc ks (bSet G b (tn i) none k' x8)) = some (none, gH n kc ks G2) ∧ rA g G2 c n b ρ (msA (msA W 7 (tn i) x7) 8 (tn i) x8) ∧ G2.2.2.1 (c + 7) 1 = 0 ∧ G2.1 = G.1 := by
            intro x7 x8 k' hx
            have v7 : (msA (msA W 7 (tn i) x7) 8 (tn i) x8).2.2.1 7 (tn i) = x7 := by simp [msA]
            have v8 : (msA (msA W 7 (tn i) x7) 8 (tn i) x8).2.2.1 8 (tn i) = x8 := by simp [msA]
            have vr : ¬ mRow (msA (msA W 7 (tn i) x7) 8 (tn i) x8) (tn i) = true := by
              unfold mRow
              rw [v7]
              rcases hx with ⟨h, _⟩ | ⟨h | h, _⟩ <;> rw [h] <;> decide
            refine rA_sw hA hp hi10 hW ?_ ?_ (fun _ z => by injection z)
            · unfold bSl
              rw [bSet_R, if_pos rfl, bSet_I2, if_pos rfl, bSet_I3, if_pos rfl, v7, v8]
              rcases hx with ⟨h, h'⟩ | ⟨h, h'⟩
              · exact Or.inr (Or.inl ⟨h, rfl, h'⟩)
              · exact Or.inr (Or.inr ⟨h, rfl, h', rfl⟩)
            · rintro r ⟨q, z1, z2, z3⟩
              by_cases c2 : q = tn i
              · rw [c2] at z2
                exact absurd z2 vr
              · have e7 : (msA (msA W 7 (tn i) x7) 8 (tn i) x8).2.2.1 7 q = S.2.2.1 7 q := by
                  have e1 : (msA (msA W 7 (tn i) x7) 8 (tn i) x8).2.2.1 7 q = W.2.2.1 7 q := by simp [msA, c2]
                  have e2 : (mLo S (tn i)).2.2.1 7 q = S.2.2.1 7 q := by simp [mLo, msA, c2]
                  rw [e1, hW.1.2.2.1 7 q (by decide) (by decide) (by decide) (by decide), e2]
                obtain ⟨y1, y2⟩ := mRow_cg e7
                exact ⟨q, z1, by rw [← y1]; exact z2, by rw [← y2]; exact z3⟩
          unfold mTh
          rcases c1 with h | h | h
          · subst h
            rw [if_pos rfl, if_pos rfl]
            obtain ⟨G2, g1, g2, g3, g4⟩ := key (-11) 0 (-1) (Or.inl ⟨rfl, rfl⟩)
            refine sim_in g2 g3 g4 ?_
            have k15 := c15 (g := g) (n := n) (kc := kc) (ks := ks) (k := -1) (j := 0) hA.1.1 hB.1 e1
            have n1 : ¬ (-1 : Int32) = 1 := by decide
            have k0' : (bSet G b (tn i) none (-1) 0).1 c = 15 := k0
            simp only [x93_0, x93_1, x93_4, x93_7, x93_8, x93_9, x93_10, x93_11, x93_14, x93_15, x93_16, x93_19, x93_20, x93_21, x93_24, x93_25, x93_26, x93_29, x93_32, x93_34, x93_35, x93_36, x93_39, x93_40, x93_43, x93_45, x93_46, x93_47, x93_50, x93_51, x93_54, x93_55, x93_56, x93_57, x93_60, x93_63, x93_64, x93_67, x93_68, x93_69, x93_72, x93_74, x93_77, x93_79, x93_80, x93_83, x93_84, x93_86, x93_89, x93_90, c127, e1, xb_t, h10, q1, q2, n1, gf_15_9 k0, hb, gc_9 hB.1, k9, k15, gc_15 k0', g1, Option.bind_some, Option.toList_some, Option.toList_none, List.cons_append, List.nil_append, Option.isSome_some, if_true, eq_self, or_true, true_or, xb_01, mcl_cl, not_true_eq_false, not_false_eq_true, if_false]
          · subst h
            rw [if_neg (by decide), if_neg (by decide)]
            obtain ⟨G2, g1, g2, g3, g4⟩ := key (10 + 0) j 10 (Or.inr ⟨Or.inl rfl, rfl⟩)
            refine sim_in g2 g3 g4 ?_
            have k15 := c15 (g := g) (n := n) (kc := kc) (ks := ks) (k := 10) (j := j) hA.1.1 hB.1 e1
            have n1 : ¬ (0 : Int32) = 1 := by decide
            have n2 : ¬ (0 : Int32) = -1 := by decide
            have k0' : (bSet G b (tn i) none 10 j).1 c = 15 := k0
            simp only [x93_0, x93_1, x93_4, x93_7, x93_8, x93_9, x93_10, x93_11, x93_14, x93_15, x93_16, x93_19, x93_20, x93_21, x93_24, x93_25, x93_26, x93_29, x93_32, x93_34, x93_35, x93_36, x93_39, x93_40, x93_43, x93_45, x93_46, x93_47, x93_50, x93_51, x93_54, x93_55, x93_56, x93_57, x93_60, x93_63, x93_64, x93_67, x93_68, x93_69, x93_72, x93_74, x93_77, x93_79, x93_80, x93_83, x93_84, x93_86, x93_89, x93_90, c127, e1, xb_t, h10, q1, q2, n1, n2, gf_15_9 k0, hb, gc_9 hB.1, k9, k15, gc_15 k0', g1, Option.bind_some, Option.toList_some, Option.toList_none, List.cons_append, List.nil_append, Option.isSome_some, if_true, eq_self, or_true, true_or, xb_01, mcl_cl, not_true_eq_false, not_false_eq_true, if_false]
          · subst h
            rw [if_neg (by decide), if_neg (by decide)]
            obtain ⟨G2, g1, g2, g3, g4⟩ := key (10 + 1) j 11 (Or.inr ⟨Or.inr rfl, rfl⟩)
            refine sim_in g2 g3 g4 ?_
            have k15 := c15 (g := g) (n := n) (kc := kc) (ks := ks) (k := 11) (j := j) hA.1.1 hB.1 e1
            have n2 : ¬ (1 : Int32) = -1 := by decide
            have w9 : mWithin j.toInt 0 9 = true := by
              cases hh : mWithin j.toInt 0 9 with
              | false => exact absurd ⟨rfl, hh⟩ q3
              | true => rfl
            have k0' : (bSet G b (tn i) none 11 j).1 c = 15 := k0
            simp only [x93_0, x93_1, x93_4, x93_7, x93_8, x93_9, x93_10, x93_11, x93_14, x93_15, x93_16, x93_19, x93_20, x93_21, x93_24, x93_25, x93_26, x93_29, x93_32, x93_34, x93_35, x93_36, x93_39, x93_40, x93_43, x93_45, x93_46, x93_47, x93_50, x93_51, x93_54, x93_55, x93_56, x93_57, x93_60, x93_63, x93_64, x93_67, x93_68, x93_69, x93_72, x93_74, x93_77, x93_79, x93_80, x93_83, x93_84, x93_86, x93_89, x93_90, c127, e1, xb_t, h10, q1, q2, n2, c131, i32_64, w9, gf_15_9 k0, hb, gc_9 hB.1, k9, k15, gc_15 k0', g1, Option.bind_some, Option.toList_some, Option.toList_none, List.cons_append, List.nil_append, Option.isSome_some, if_true, eq_self, or_true, true_or, xb_01, mcl_cl, not_true_eq_false, not_false_eq_true, if_false]
theorem s94 (hA : rA g G c n b ρ S) (hp : G.2.2.1 (c + 7) 1 = 0) (hW : sSame i j = 1 → mLet S (tn i) W) : sim g c n kc ks G 94 [.val (va_rf (some c)), .val (.int i), .val (.int j), .unset] (.int (sSame i j)) (if sSame i j = 1 ∧ mChg S (tn i) (tn j) = true then mSam W (tn i) (tn j) else S) := by
  have k0 : G.1 c = 15 := hA.1.2.1.1
  have hb := hA.2.1
  have hB := hA.2.2.1
  have h10 : ¬ (1 : Int32) = 0 := by decide
  revert hW
  unfold sSame
  cases e1 : mSlot i with
  | false =>
    intro _
    rw [if_pos rfl, if_neg (fun z => absurd z.1 (by decide))]
    refine sim_same hA hp ?_
    simp only [x94_0, x94_1, x94_4, x94_7, x94_8, x94_11, x94_14, x94_15, x94_16, x94_17, x94_20, x94_21, x94_24, x94_25, x94_26, x94_29, x94_30, x94_31, x94_34, x94_35, x94_36, x94_39, x94_40, c127, e1, xb_f, Option.bind_some, Option.toList_some, Option.toList_none, List.cons_append, List.nil_append, Option.isSome_some, if_true, eq_self, or_true, true_or, xb_01, mcl_cl, not_true_eq_false, not_false_eq_true, if_false]
  | true =>
    rw [if_neg (by simp)]
    cases e2 : mSlot j with
    | false =>
      intro _
      rw [if_pos rfl, if_neg (fun z => absurd z.1 (by decide))]
      refine sim_same hA hp ?_
      simp only [x94_0, x94_1, x94_4, x94_7, x94_8, x94_11, x94_14, x94_15, x94_16, x94_17, x94_20, x94_21, x94_24, x94_25, x94_26, x94_29, x94_30, x94_31, x94_34, x94_35, x94_36, x94_39, x94_40, c127, e1, e2, xb_t, h10, xb_f, Option.bind_some, Option.toList_some, Option.toList_none, List.cons_append, List.nil_append, Option.isSome_some, if_true, eq_self, or_true, true_or, xb_01, mcl_cl, not_true_eq_false, not_false_eq_true, if_false]
    | true =>
      rw [if_neg (by simp)]
      intro hW
      have hW := hW rfl
      obtain ⟨hi, hi10⟩ := c127w e1
      obtain ⟨hj, hj10⟩ := c127w e2
      have k9 := c9 (g := g) (n := n) (kc := kc) (ks := ks) (i := i) hA.1.1 hB.1
      unfold bRow at k9
      rw [e1, if_pos rfl] at k9
      have k16 := c16 (g := g) (n := n) (kc := kc) (ks := ks) hA.1.1 hB.1 e1 e2 (fun x hx => by
        rw [sf_G hB hj10] at hx
        unfold sf at hx
        by_cases c2 : mRow S (tn j) = true
        · rw [if_pos c2] at hx
          have hx' : ρ (mr S (tn j)) = x := by simpa using hx
          rw [← hx']
          exact (bS_row hB (⟨tn j, hj10, c2, rfl⟩ : rIn S (mr S (tn j)))).1
        · rw [if_neg c2] at hx
          exact absurd hx (by simp))
      cases hc : mChg S (tn i) (tn j) with
      | false =>
        rw [if_neg (fun z => absurd z.2 (by decide))]
        have hst : G.2.2.2.2 (b + 1) (tn j) = G.2.2.2.2 (b + 1) (tn i) ∧ G.2.2.1 (b + 2) (tn j) = G.2.2.1 (b + 2) (tn i) ∧ G.2.2.1 (b + 3) (tn j) = G.2.2.1 (b + 3) (tn i) := by
          unfold mChg at hc
          by_cases c1 : tn i = tn j
          · rw [c1]
            exact ⟨rfl, rfl, rfl⟩
          · rw [decide_eq_false c1, Bool.not_false, Bool.true_and, Bool.not_eq_false', Bool.and_eq_true, decide_eq_true_eq] at hc
            obtain ⟨c2, c3⟩ := hc
            obtain ⟨z1, z2⟩ : mRow S (tn j) = true ∧ mr S (tn j) = mr S (tn i) := by
              refine ⟨?_, ?_⟩
              · unfold mRow at c2 ⊢
                rw [← c3]
                exact c2
              · unfold mr
                rw [c3]
            rcases hB.2.1 (tn i) hi10 with ⟨r0, r1, r2, r3, r4⟩ | ⟨r0, _⟩ | ⟨r0, _⟩
            · rcases hB.2.1 (tn j) hj10 with ⟨u0, u1, u2, u3, u4⟩ | ⟨u0, _⟩ | ⟨u0, _⟩
              · rw [r1, u1, r2, u2, r3, u3, z2]
                exact ⟨rfl, rfl, rfl⟩
              · exact absurd z1 (by unfold mRow; rw [u0]; decide)
              · exact absurd z1 (by unfold mRow; rcases u0 with u0 | u0 <;> rw [u0] <;> decide)
            · exact absurd c2 (by unfold mRow; rw [r0]; decide)
            · exact absurd c2 (by unfold mRow; rcases r0 with r0 | r0 <;> rw [r0] <;> decide)
        rw [hst.1, hst.2.1, hst.2.2, bSet_same] at k16
        have k138 := c138_n (g := g) (n := n) (kc := kc) (ks := ks) (o := G.2.2.2.2 (b + 1) (tn i)) k0 hb hA.1.1 hB.1 (Or.inr (by
          have := mCnt_pos (f := fun q => decide (G.2.2.2.2 (b + 1) q = G.2.2.2.2 (b + 1) (tn i))) 10 0 (tn i) (by omega) (by omega) (by simp)
          omega))
        refine sim_same hA hp ?_
        simp only [x94_0, x94_1, x94_4, x94_7, x94_8, x94_11, x94_14, x94_15, x94_16, x94_17, x94_20, x94_21, x94_24, x94_25, x94_26, x94_29, x94_30, x94_31, x94_34, x94_35, x94_36, x94_39, x94_40, c127, e1, e2, xb_t, h10, gf_15_9 k0, hb, gc_9 hB.1, k9, k16, gc_15 k0, k138, Option.bind_some, Option.toList_some, Option.toList_none, List.cons_append, List.nil_append, Option.isSome_some, if_true, eq_self, or_true, true_or, xb_01, mcl_cl, not_true_eq_false, not_false_eq_true, if_false]
      | true =>
        rw [if_pos ⟨rfl, rfl⟩]
        unfold mChg at hc
        rw [Bool.and_eq_true, Bool.not_eq_true', decide_eq_false_iff_not, Bool.not_eq_true'] at hc
        obtain ⟨c1, c2⟩ := hc
        have w7 : W.2.2.1 7 (tn j) = S.2.2.1 7 (tn j) := by
          have e2 : (mLo S (tn i)).2.2.1 7 (tn j) = S.2.2.1 7 (tn j) := by simp [mLo, msA, Ne.symm c1]
          rw [hW.1.2.2.1 7 _ (by decide) (by decide) (by decide) (by decide), e2]
        have w8 : W.2.2.1 8 (tn j) = S.2.2.1 8 (tn j) := by
          have e2 : (mLo S (tn i)).2.2.1 8 (tn j) = S.2.2.1 8 (tn j) := by simp [mLo, msA]
          rw [hW.1.2.2.1 8 _ (by decide) (by decide) (by decide) (by decide), e2]
        have w2 : ∀ q t, q ≠ 7 → (q ≠ 17 ∧ q ≠ 18 ∧ q ≠ 20 ∧ q ≠ 22) → W.2.2.1 q t = S.2.2.1 q t := by
          intro q t h7 hh
          have e2 : (mLo S (tn i)).2.2.1 q t = S.2.2.1 q t := by simp [mLo, msA, h7]
          rw [hW.1.2.2.1 q t hh.1 hh.2.1 hh.2.2.1 hh.2.2.2, e2]
        unfold mSam
        rw [w7, w8]
        have v7 : (msA (msA W 7 (tn i) (S.2.2.1 7 (tn j))) 8 (tn i) (S.2.2.1 8 (tn j))).2.2.1 7 (tn i) = S.2.2.1 7 (tn j) := by simp [msA]
        have v8 : (msA (msA W 7 (tn i) (S.2.2.1 7 (tn j))) 8 (tn i) (S.2.2.1 8 (tn j))).2.2.1 8 (tn i) = S.2.2.1 8 (tn j) := by simp [msA]
        have v2 : ∀ q t, q ≠ 7 → q ≠ 8 → (q ≠ 17 ∧ q ≠ 18 ∧ q ≠ 20 ∧ q ≠ 22) → (msA (msA W 7 (tn i) (S.2.2.1 7 (tn j))) 8 (tn i) (S.2.2.1 8 (tn j))).2.2.1 q t = S.2.2.1 q t := by
          intro q t h7 h8 hh
          have e1 : (msA (msA W 7 (tn i) (S.2.2.1 7 (tn j))) 8 (tn i) (S.2.2.1 8 (tn j))).2.2.1 q t = W.2.2.1 q t := by simp [msA, h7, h8]
          rw [e1, w2 q t h7 hh]
        have v6 : ∀ t, (msA (msA W 7 (tn i) (S.2.2.1 7 (tn j))) 8 (tn i) (S.2.2.1 8 (tn j))).2.2.2 6 t = S.2.2.2 6 t := fun t => hW.1.2.2.2 6 t (by decide) (by decide)
        obtain ⟨vr1, vr2⟩ : mRow (msA (msA W 7 (tn i) (S.2.2.1 7 (tn j))) 8 (tn i) (S.2.2.1 8 (tn j))) (tn i) = mRow S (tn j) ∧ mr (msA (msA W 7 (tn i) (S.2.2.1 7 (tn j))) 8 (tn i) (S.2.2.1 8 (tn j))) (tn i) = mr S (tn j) := by
          unfold mRow mr
          rw [v7]
          exact ⟨rfl, rfl⟩
        obtain ⟨G2, g1, g2, g3, g4⟩ := rA_sw (g := g) (kc := kc) (ks := ks) (o := G.2.2.2.2 (b + 1) (tn j)) (k := G.2.2.1 (b + 2) (tn j)) (j := G.2.2.1 (b + 3) (tn j)) (x7 := S.2.2.1 7 (tn j)) (x8 := S.2.2.1 8 (tn j)) hA hp hi10 hW (by
          unfold bSl
          rw [bSet_R, if_pos rfl, bSet_I2, if_pos rfl, bSet_I3, if_pos rfl, v7, v8, vr1, vr2, v2 2 _ (by decide) (by decide) (by decide)]
          rcases hB.2.1 (tn j) hj10 with ⟨r0, r1, r2, r3, r4⟩ | r | r
          · refine Or.inl ⟨r0, r1, r2, r3, ?_⟩
            have hw := hA.1.1
            have hro := r4
            obtain ⟨y1, y2, y3, _⟩ := hw.1 _ hro.1
            have hAb : agb (bSet G b (tn i) (G.2.2.2.2 (b + 1) (tn j)) (G.2.2.1 (b + 2) (tn j)) (G.2.2.1 (b + 3) (tn j))) G [] b := bSet_agb
            have := bRo_at (agb_e hw hB.1 hAb (by simp) (by rw [hro.1]; decide)) (agb_e hw hB.1 hAb (by simp) (by rw [y1]; decide)) (agb_e hw hB.1 hAb (by simp) (by rw [y2]; decide)) r4
            unfold bRo mz at this ⊢
            rw [v2 2 _ (by decide) (by decide) (by decide), v2 3 _ (by decide) (by decide) (by decide)]
            refine ⟨this.1, this.2.1, this.2.2.1, fun p hp' => ?_⟩
            rw [v2 5 _ (by decide) (by decide) (by decide), v6]
            exact this.2.2.2 p hp'
          · exact Or.inr (Or.inl r)
          · exact Or.inr (Or.inr r)) (by
          rintro r ⟨q, z1, z2, z3⟩
          by_cases c3 : q = tn i
          · rw [c3] at z2 z3
            exact ⟨tn j, hj10, by rw [← vr1]; exact z2, by rw [← vr2]; exact z3⟩
          · have e7 : (msA (msA W 7 (tn i) (S.2.2.1 7 (tn j))) 8 (tn i) (S.2.2.1 8 (tn j))).2.2.1 7 q = S.2.2.1 7 q := by
              have e1 : (msA (msA W 7 (tn i) (S.2.2.1 7 (tn j))) 8 (tn i) (S.2.2.1 8 (tn j))).2.2.1 7 q = W.2.2.1 7 q := by simp [msA, c3]
              have e2 : (mLo S (tn i)).2.2.1 7 q = S.2.2.1 7 q := by simp [mLo, msA, c3]
              rw [e1, hW.1.2.2.1 7 q (by decide) (by decide) (by decide) (by decide), e2]
            obtain ⟨y1, y2⟩ := mRow_cg e7
            exact ⟨q, z1, by rw [← y1]; exact z2, by rw [← y2]; exact z3⟩) (by
          intro hrow z
          rw [← show G.2.2.2.2 (b + 1) (tn i) = some (ρ (mr S (tn i))) by rw [sf_G hB hi10]; unfold sf; rw [if_pos hrow]; rfl] at z
          have h3 := (sf_bank hB hA.2.2.2.1 hj10 hi10).mp z
          have e3 : sf S (tn i) = some (mr S (tn i)) := by
            unfold sf
            rw [if_pos hrow]
          obtain ⟨r7, r10⟩ := mRow_eq hrow
          rw [e3, sf_7 r10, ← r7] at h3
          rw [hrow, Bool.true_and, decide_eq_false_iff_not] at c2
          exact c2 h3.symm)
        refine sim_in g2 g3 g4 ?_
        have k0' : (bSet G b (tn i) (G.2.2.2.2 (b + 1) (tn j)) (G.2.2.1 (b + 2) (tn j)) (G.2.2.1 (b + 3) (tn j))).1 c = 15 := k0
        simp only [x94_0, x94_1, x94_4, x94_7, x94_8, x94_11, x94_14, x94_15, x94_16, x94_17, x94_20, x94_21, x94_24, x94_25, x94_26, x94_29, x94_30, x94_31, x94_34, x94_35, x94_36, x94_39, x94_40, c127, e1, e2, xb_t, h10, gf_15_9 k0, hb, gc_9 hB.1, k9, k16, gc_15 k0', g1, Option.bind_some, Option.toList_some, Option.toList_none, List.cons_append, List.nil_append, Option.isSome_some, if_true, eq_self, or_true, true_or, xb_01, mcl_cl, not_true_eq_false, not_false_eq_true, if_false]
end K44
