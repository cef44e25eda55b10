/-! THE CLASS beside the reference, 30: the relation after a slot has changed -/
section K43
variable {g : xG} {n kc ks a b c s t w q l x y jn d r p n' e kb n1 kc1 ks1 m N : Nat} {G T U G1 G2 : GS} {h : xH} {i j k v i1 i2 : Int32} {u z : Int64} {S S1 S' V W : MS} {ρ κ ρ' : Nat → Nat} {L L' : List Nat}
theorem rA_slot (hA : rA g G c n b ρ S) (hL : gL g G1 c n1) (hAb : agb G1 G [0] b) (he : S.1 23 = nI e) (he24 : e ≤ 24) (hG2 : jLt G2 G1 S c s e) (hB1 : bS G1 b ρ' S') (hI1 : bI S' ρ') (hT1 : tR G1 ρ' S') (hO1 : mOk S') (hW : mLet S s W) (j1 : ∀ q, q ≠ 23 → q ≠ 24 → S'.1 q = S.1 q) (j2 : S'.2.1 = S.2.1) (j23 : S'.1 23 = W.1 23) (j24 : S'.1 24 = W.1 24) (j3 : ∀ q, ¬ q ∈ [2, 3, 4, 5, 7, 8, 17, 18, 20, 22] → S'.2.2.1 q = S.2.2.1 q) (j4 : ∀ q, ¬ q ∈ [6, 19, 21] → S'.2.2.2 q = S.2.2.2 q) (jA : ∀ w, mAc S' W w w) (hrow : ∀ r, rIn S' r → (rIn S r ∧ ρ' r = ρ r) ∨ G.1 (ρ' r) = 0) (hkeep : ∀ r, rIn S r → (mDrp S s = true → ¬ r = mr S s) → rIn S' r ∧ ρ' r = ρ r ∧ S'.2.2.1 2 r = S.2.2.1 2 r ∧ S'.2.2.1 3 r = S.2.2.1 3 r) : rA g G2 c n1 b ρ' S' := by
  obtain ⟨a1, a2, a3, a4, a5, a6, a7, a8, a9⟩ := hA
  have hw := a1.1
  have hb := a3.1
  have hw1 := hL.1
  obtain ⟨x1, x2, x3, x4, x5, x6, x7, x8, x9, x10⟩ := hG2
  obtain ⟨l1, l2, l3, l4, l5⟩ := hW
  have LB : ¬ 1 ∈ [20, 22] ∧ ¬ 2 ∈ [20, 22] ∧ ¬ 3 ∈ [20, 22] ∧ ¬ 9 ∈ [20, 22] ∧ ¬ 10 ∈ [20, 22] ∧ ¬ 11 ∈ [20, 22] ∧ ¬ 12 ∈ [20, 22] ∧ ¬ 14 ∈ [20, 22] := by decide
  have eA : ∀ q, ¬ G.1 q ∈ [0, 10, 11, 12, 13, 14] → eqA G1 G q := fun q hq => agb_e hw hb hAb (fun z => hq (by
    simp only [List.mem_cons, List.not_mem_nil, or_false] at z ⊢
    exact Or.inl z)) (fun z => hq (List.mem_cons_of_mem _ z))
  have eB : ∀ q, ¬ G.1 q ∈ [0, 10, 11, 12, 13, 14, 20, 22] → eqA G2 G q := by
    intro q hq
    have y1 := eA q (fun z => hq (by
      simp only [List.mem_cons, List.not_mem_nil, or_false] at z ⊢
      omega))
    have y2 := x1 q (by
      rw [y1.1]
      intro z
      apply hq
      simp only [List.mem_cons, List.not_mem_nil, or_false] at z ⊢
      omega)
    exact ⟨y2.1.trans y1.1, y2.2.1.trans y1.2.1, y2.2.2.1.trans y1.2.2.1, y2.2.2.2.1.trans y1.2.2.2.1, y2.2.2.2.2.trans y1.2.2.2.2⟩
  obtain ⟨k0, k1, k2, k3, ⟨k4, _⟩, ⟨k5, _⟩, ⟨k6, _⟩, k7, ⟨k8, _⟩, ⟨k9, _⟩, k10, ⟨k11, _⟩, ⟨k12, _⟩, k13, ⟨k14, _⟩, ⟨k15, _⟩⟩ := a1.2.1
  have ec := eB c (by rw [k0]; decide)
  have e1 := eB (c + 1) (by rw [k1]; decide)
  have e6 := eB (c + 6) (by rw [k6]; decide)
  have e9 := eA (c + 9) (by rw [k9]; decide)
  have e10 := eB (c + 10) (by rw [k10]; decide)
  have e11 := eB (c + 11) (by rw [k11]; decide)
  have e13 := eB (c + 13) (by rw [k13]; decide)
  have e14 := eB (c + 14) (by rw [k14]; decide)
  refine ⟨gL_same x2 x3 hL, by rw [ec.2.2.2.2]; exact a2, bS_agr hw1 x1 LB hB1, hI1, ?_, ?_, ?_, ?_, ?_⟩
  · intro r hr
    obtain ⟨t1, t2⟩ := hT1 r hr
    have hro := bS_row hB1 hr
    obtain ⟨w1, w2, w3, _⟩ := hw1.1 _ hro.1
    rw [(x1 (ρ' r + 3) (by rw [w3]; decide)).2.2.1]
    exact ⟨t1, t2⟩
  · have m2 : (mKp S').2.2.1 2 = (mKp S).2.2.1 2 := j3 44 (by decide)
    have m3 : (mKp S').2.2.1 3 = (mKp S).2.2.1 3 := j3 45 (by decide)
    have m5 : (mKp S').2.2.1 5 = (mKp S).2.2.1 5 := j3 46 (by decide)
    have m7 : (mKp S').2.2.1 7 = (mKp S).2.2.1 7 := j3 48 (by decide)
    have m8 : (mKp S').2.2.1 8 = (mKp S).2.2.1 8 := j3 49 (by decide)
    have m12 : (mKp S').2.2.1 12 = (mKp S).2.2.1 12 := j3 50 (by decide)
    have m6 : (mKp S').2.2.2 6 = (mKp S).2.2.2 6 := j4 47 (by decide)
    unfold rKp
    rw [ec.2.2.2.2, j1 43 (by decide) (by decide)]
    rcases a6 with a6 | ⟨b1, b2, kb, κ, b3, b4, b5, b6, b7⟩
    · exact Or.inl a6
    · refine Or.inr ⟨b1, mOk_c b2 (fun i => by rw [m2]) (fun i => by rw [m3]) (fun i => by rw [m12]) (fun q hq => by rw [m5, m6]; exact okc_self b2 hq), kb, κ, b3, bS_ev m2 m3 m5 m7 m8 m12 m6 (bS_agr hw1 x1 LB (bS_agb hw hb hAb (by decide) (fun z => b7 (by rw [a2, z])) b4)), ?_, ?_, b7⟩
      · intro r r' y1 y2
        exact b5 r r' ((rIn_ev m7).mp y1) ((rIn_ev m7).mp y2)
      · intro r r' y1 y2 y3
        have y4 := (rIn_ev m7).mp y2
        rcases hrow r y1 with ⟨z1, z2⟩ | z1
        · exact b6 r r' z1 y4 (by rw [← z2]; exact y3)
        · have := (bS_row b4 y4).1
          rw [← y3, z1] at this
          exact absurd this (by decide)
  · obtain ⟨b1, b2, _, b4, b5⟩ := a7
    rw [he, tn_nI (by omega)] at b5
    refine ⟨by rw [x5, j24, l3], by rw [x6, j23, l2], ⟨(sLet S s).2.1, (sLet S s).1, by rw [j24, l3], by rw [j23, l2], x7, by omega⟩, fun q z hq hz => by rw [x2]; exact x10 q z hq hz, ?_⟩
    intro w hw'
    rw [j23, l2, tn_nI (by omega)] at hw'
    obtain ⟨y1, y2, y3⟩ := x9 w hw'
    have hac := rAc_agb hw hb hAb ⟨by decide, by decide, by decide⟩ (by rw [e9.2.2.2.2]) (b5 _ y2)
    obtain ⟨t, t1, t2, t3, t4, t5, t6⟩ := hac
    have hm := mAc_trans (jA w) (l4 w hw')
    obtain ⟨w1, _⟩ := hw1.2.1 t t2
    unfold rAc
    rw [hm.1]
    refine ⟨t, by rw [y1]; exact t1, by rw [x2]; exact t2, by rw [x3]; exact t3, t4, t5, ?_⟩
    intro k hk
    obtain ⟨n1', n2', n3', n4', n5'⟩ := hm.2 k (by omega)
    dsimp only
    rw [n1', n2', n3', n4', n5']
    obtain ⟨x, p1, p2, p3, p4, p5, p6, p7, p8, p9, p10, p11, p12, p13⟩ := t6 k hk
    dsimp only at p3 p4 p5 p6 p7 p8 p9 p10 p11 p12 p13
    have hr10 : tn (S.2.2.1 17 (64 * (sLet S s).2.2 w + k)) / 32 < 10 := by
      obtain ⟨s', _, q2, q3⟩ := p4
      rw [← q3]
      exact (mRow_eq q2).2
    obtain ⟨h1, h2, h3, h4⟩ := hkeep _ p4 (by
      intro hd z
      have hf := y3 hd
      unfold sHs at hf
      have hf2 := mAny_f _ _ hf k (by omega) (by omega)
      have hmr : mRow S s = true := by
        unfold mDrp at hd
        rw [Bool.and_eq_true] at hd
        exact hd.1
      obtain ⟨r7, r10⟩ := mRow_eq hmr
      rw [decide_eq_false_iff_not, r7, row_div p11 r10 p12.1] at hf2
      exact hf2 z)
    have ey := x1 (t + 1) (by rw [w1]; decide)
    have ex := x1 x (by rw [p2]; decide)
    have hoc : ∀ kk uu, okc S (tn (S.2.2.1 17 (64 * (sLet S s).2.2 w + k))) kk uu → okc S' (tn (S.2.2.1 17 (64 * (sLet S s).2.2 w + k))) kk uu := by
      intro kk uu ho
      unfold okc at ho ⊢
      rw [h3]
      exact ho
    refine ⟨x, by rw [ey.2.2.2.2]; exact p1, by rw [x2]; exact p2, by rw [ex.2.2.2.2, h2]; exact p3, h1, by rw [ex.2.2.1]; exact p5, ?_, by rw [ex.2.2.1]; exact p7, by rw [ex.2.2.2.1]; exact p8, by rw [ex.2.2.1]; exact p9, by rw [ex.2.2.2.1]; exact p10, p11, hoc _ _ p12, hoc _ _ p13⟩
    unfold mz at p6 ⊢
    rw [h4]
    exact p6
  · unfold rMs
    rw [e1.2.2.1, e1.2.2.2.1, e6.2.2.1, ec.2.2.1, e13.2.2.1, e14.2.2.1, e10.2.2.1, e11.2.2.1, j3 9 (by decide), j3 26 (by decide), j3 29 (by decide), j3 33 (by decide), j2, j1 10 (by decide) (by decide), j1 25 (by decide) (by decide), j1 30 (by decide) (by decide), j1 34 (by decide) (by decide)]
    exact a8
  · obtain ⟨b1, b2, b3, b4, b5, b6⟩ := a9
    refine ⟨hO1, ?_, ?_, ?_, ?_, ?_⟩
    · rw [j1 10 (by decide) (by decide), j2]
      exact b2
    · rw [j1 34 (by decide) (by decide), j3 33 (by decide)]
      exact b3
    · rw [j1 30 (by decide) (by decide)]
      exact b4
    · unfold mLt
      rw [j3 32 (by decide)]
      exact b5
    · rw [j1 25 (by decide) (by decide)]
      exact b6
theorem mCnt_ex {f : Nat → Bool} (y d : Nat) (h : ¬ mCnt f y d = 0) : ∃ x, y ≤ x ∧ x < y + d ∧ f x = true := by
  apply Classical.byContradiction
  intro z
  apply h
  refine mCnt_0 d y (fun x h1 h2 => ?_)
  cases hf : f x with
  | false => rfl
  | true => exact absurd ⟨x, h1, h2, hf⟩ z
/-- a row that is still held is held by another slot -/
theorem held_oth (hr : rIn S r) (hn : mDrp S s = true → ¬ r = mr S s) : ∃ q, q < 10 ∧ q ≠ s ∧ mRow S q = true ∧ mr S q = r := by
  obtain ⟨q, q1, q2, q3⟩ := hr
  by_cases c1 : q = s
  · subst c1
    have hd : ¬ mDrp S q = true := fun z => hn z q3.symm
    unfold mDrp at hd
    rw [q2, Bool.true_and, decide_eq_true_eq] at hd
    unfold mHolders at hd
    obtain ⟨x, _, x1, x2⟩ := mCnt_ex _ _ hd
    simp only [decide_eq_true_eq] at x2
    have hx : ¬ x = q := by
      rintro rfl
      have e1 : (mLo S x).2.2.1 7 x = -11 := by simp [mLo, msA]
      rw [e1, (mRow_eq q2).1] at x2
      have := congrArg Int32.toInt x2
      rw [nI_toInt (by have := (mRow_eq q2).2; omega)] at this
      exact absurd this (by rw [show (-11 : Int32).toInt = -11 from rfl]; omega)
    have e2 : (mLo S q).2.2.1 7 x = S.2.2.1 7 x := by simp [mLo, msA, hx]
    rw [e2] at x2
    have := mRow_cg (S := S) (S' := S) (s := x) rfl
    refine ⟨x, by omega, hx, ?_, ?_⟩
    · unfold mRow at q2 ⊢
      rw [x2]
      exact q2
    · rw [← q3]
      unfold mr
      rw [x2]
  · exact ⟨q, q1, c1, q2, q3⟩
end K43
