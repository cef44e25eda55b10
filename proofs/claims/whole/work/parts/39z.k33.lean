/-! THE CLASS beside the reference, 20: what is counted, latched -/
section K33
variable {g : xG} {n kc ks a b c s t w q l x y jn d r p n' e kb : Nat} {G T U : GS} {h : xH} {i j k m v i1 i2 : Int32} {u z : Int64} {o : Option Nat} {S S1 S' : MS} {ρ κ : Nat → Nat} {L L' : List Nat} {cnt : Nat} {at' wk ik : Nat → Int32} {wv iv : Nat → Int64}
theorem rA_cnt (hA : rA g G c n b ρ S) (hq : q < 3) : rA g (gsI G (c + 6) q (G.2.2.1 (c + 6) q + 1)) c n b ρ (msA S 9 q (S.2.2.1 9 q + 1)) := by
  obtain ⟨k0, k1, k2, k3, ⟨k4, _⟩, ⟨k5, _⟩, ⟨k6, _⟩, k7, ⟨k8, _⟩, ⟨k9, _⟩, k10, ⟨k11, _⟩, ⟨k12, _⟩, k13, ⟨k14, _⟩, ⟨k15, _⟩⟩ := hA.1.2.1
  obtain ⟨r1, r2, r3, r4, r5, r6, r7, r8, r9⟩ := hA.2.2.2.2.2.2.2.1
  obtain ⟨b1, b2, b3, b4, b5, b6⟩ := hA.2.2.2.2.2.2.2.2
  have hAg : agr (gsI G (c + 6) q (G.2.2.1 (c + 6) q + 1)) G [19] := agr_I (by rw [k6]; decide)
  have ec := hAg c (by rw [k0]; decide)
  have x1 := hAg (c + 1) (by rw [k1]; decide)
  have x7 := hAg (c + 7) (by rw [k7]; decide)
  have x10 := hAg (c + 10) (by rw [k10]; decide)
  have x11 := hAg (c + 11) (by rw [k11]; decide)
  have x13 := hAg (c + 13) (by rw [k13]; decide)
  have x14 := hAg (c + 14) (by rw [k14]; decide)
  have e9 : ∀ z, z ≠ 9 → (msA S 9 q (S.2.2.1 9 q + 1)).2.2.1 z = S.2.2.1 z := fun z hz => funext fun t => by simp [msA, hz]
  refine rA_ms hA hAg (by decide) rfl rfl rfl rfl (by rw [x7.2.2.1]) (by rw [x7.2.2.1]) ⟨⟨rfl, rfl, rfl⟩, fun z hz => e9 z (by rintro rfl; exact absurd hz (by decide)), fun q _ => rfl⟩ ?_ b2 ?_ b4 ?_ b6
  · unfold rMs
    rw [x1.2.2.1, x1.2.2.2.1, ec.2.2.1, x13.2.2.1, x14.2.2.1, x10.2.2.1, x11.2.2.1, e9 26 (by decide), e9 29 (by decide), e9 33 (by decide)]
    refine ⟨r1, r2, fun e he => ?_, r4, r5, r6, r7, r8, r9⟩
    rw [gsI3]
    show _ = if 9 = 9 ∧ e = q then S.2.2.1 9 q + 1 else S.2.2.1 9 e
    by_cases c1 : e = q
    · rw [if_pos ⟨rfl, c1⟩, if_pos ⟨rfl, c1⟩, r3 q hq]
    · rw [if_neg (fun z => c1 z.2), if_neg (fun z => c1 z.2)]
      exact r3 e he
  · rw [e9 33 (by decide)]
    exact b3
  · unfold mLt
    rw [e9 32 (by decide)]
    exact b5
theorem why_3 (hx : sWhy i) (h0 : ¬ i = 0) : tn (-11 - i) < 3 := by
  rcases hx with h | h | h | h
  · exact absurd h h0
  · rw [h]; decide
  · rw [h]; decide
  · rw [h]; decide
/-- a refusal counted on both sides -/
theorem rA_ctd (hA : rA g G c n b ρ S) (hx : sWhy i) (h0 : ¬ i = 0) : rA g (gsI G (c + 6) (tn (-11 - i)) (G.2.2.1 (c + 6) (tn (-11 - i)) + 1)) c n b ρ (mCtd S i) := rA_cnt hA (why_3 hx h0)
/-- a box latched on both sides -/
theorem rA_lat (hA : rA g G c n b ρ S) (hok : okb k u) : rA g (bxS G (c + 1) k u) c n b ρ (msL (msI S 10 k) 11 u) := by
  obtain ⟨k0, k1, k2, k3, ⟨k4, _⟩, ⟨k5, _⟩, ⟨k6, _⟩, k7, ⟨k8, _⟩, ⟨k9, _⟩, k10, ⟨k11, _⟩, ⟨k12, _⟩, k13, ⟨k14, _⟩, ⟨k15, _⟩⟩ := hA.1.2.1
  obtain ⟨r1, r2, r3, r4, r5, r6, r7, r8, r9⟩ := hA.2.2.2.2.2.2.2.1
  obtain ⟨b1, b2, b3, b4, b5, b6⟩ := hA.2.2.2.2.2.2.2.2
  have hAg : agr (bxS G (c + 1) k u) G [16] := agr_trans (agr_I (by rw [k1]; decide)) (agr_J (by rw [gsI1, k1]; decide))
  have ec := hAg c (by rw [k0]; decide)
  have x6 := hAg (c + 6) (by rw [k6]; decide)
  have x7 := hAg (c + 7) (by rw [k7]; decide)
  have x10 := hAg (c + 10) (by rw [k10]; decide)
  have x11 := hAg (c + 11) (by rw [k11]; decide)
  have x13 := hAg (c + 13) (by rw [k13]; decide)
  have x14 := hAg (c + 14) (by rw [k14]; decide)
  have e10 : ∀ z, z ≠ 10 → (msL (msI S 10 k) 11 u).1 z = S.1 z := fun z hz => by simp [msL, msI, hz]
  have f10 : (msL (msI S 10 k) 11 u).1 10 = k := by simp [msL, msI]
  have f11 : (msL (msI S 10 k) 11 u).2.1 11 = u := by simp [msL, msI]
  have eA : (msL (msI S 10 k) 11 u).2.2.1 = S.2.2.1 := rfl
  refine rA_ms hA hAg (by decide) rfl rfl rfl rfl (by rw [x7.2.2.1]) (by rw [x7.2.2.1]) ⟨⟨e10 23 (by decide), e10 24 (by decide), e10 43 (by decide)⟩, fun z _ => rfl, fun q _ => rfl⟩ ?_ (by rw [f10, f11]; exact hok) (by rw [e10 34 (by decide), eA]; exact b3) (by rw [e10 30 (by decide)]; exact b4) b5 (by rw [e10 25 (by decide)]; exact b6)
  unfold rMs
  rw [x6.2.2.1, ec.2.2.1, x13.2.2.1, x14.2.2.1, x10.2.2.1, x11.2.2.1, f10, f11, eA, e10 25 (by decide), e10 30 (by decide), e10 34 (by decide)]
  refine ⟨by simp [bxS, gsI, gsJ], by simp [bxS, gsI, gsJ], r3, r4, r5, r6, r7, r8, r9⟩
theorem mIs_ev : mEv (mIs S k u) S := ⟨fun q h _ _ _ => by simp [mIs, msL, msI, h], by simp [mIs, msL, msI], fun _ _ _ _ _ _ => rfl, fun _ _ _ _ => rfl⟩
theorem mEv_refl : mEv S S := ⟨fun _ _ _ _ _ => rfl, rfl, fun _ _ _ _ _ _ => rfl, fun _ _ _ _ => rfl⟩
/-- a cell read into the latch and counted -/
theorem bx_pend : (bxS G (c + 1) k u).2.2.1 (c + 7) = G.2.2.1 (c + 7) := by
  funext t
  simp [bxS, gsI, gsJ]
theorem mLat_is : mLat (mIs S k u) 0 = msL (msI (mIs S k u) 10 k) 11 u := by
  unfold mLat
  rw [if_pos rfl]
  simp [mIs, msL, msI]
theorem lat_ev (hA : rA g G c n b ρ S) (hok : okb k u) : rA g (bxS G (c + 1) k u) c n b ρ (mLat (mIs S k u) 0) := by
  rw [mLat_is]
  exact rA_lat (rA_ev mIs_ev hA) hok
theorem s96 (hA : rA g G c n b ρ S) (hp : G.2.2.1 (c + 7) 1 = 0) : sim g c n kc ks G 96 [.val (va_rf (some c)), .val (.int i), .val (.int j), .val (.int v)] (.int (fRead S i j v).1) (fRead S i j v).2 := by
  have k0 : G.1 c = 15 := hA.1.2.1.1
  have k1 : G.1 (c + 1) = 16 := hA.1.2.1.2.1
  obtain ⟨k6, k6'⟩ := hA.1.2.1.2.2.2.2.2.2.1
  have h10 : ¬ (1 : Int32) = 0 := by decide
  unfold fRead
  cases e1 : mSlot i with
  | false =>
    rw [if_pos rfl]
    refine sim_same hA hp ?_
    simp only [x96_0, x96_1, x96_4, x96_7, x96_8, x96_11, x96_14, x96_15, x96_16, x96_17, x96_18, x96_19, x96_20, x96_21, x96_22, x96_25, x96_28, x96_31, c127, e1, xb_f, Option.bind_some, Option.toList_some, Option.toList_none, List.cons_append, List.nil_append, Option.isSome_some, if_true, eq_self, or_true, true_or, xb_01, mcl_cl, not_true_eq_false, not_false_eq_true, if_false]
  | true =>
    rw [if_neg (by simp)]
    cases e2 : mWithin v.toInt 0 8 with
    | false =>
      rw [if_pos rfl]
      refine sim_same hA hp ?_
      simp only [x96_0, x96_1, x96_4, x96_7, x96_8, x96_11, x96_14, x96_15, x96_16, x96_17, x96_18, x96_19, x96_20, x96_21, x96_22, x96_25, x96_28, x96_31, c127, e1, xb_t, h10, c128, e2, xb_f, Option.bind_some, Option.toList_some, Option.toList_none, List.cons_append, List.nil_append, Option.isSome_some, if_true, eq_self, or_true, true_or, xb_01, mcl_cl, not_true_eq_false, not_false_eq_true, if_false]
    | true =>
      rw [if_neg (by simp)]
      obtain ⟨hi, hi10⟩ := c127w e1
      obtain ⟨v0, v8⟩ := mWithin_iff.mp e2
      have k133 := c133 (g := g) (n := n) (kc := kc) (ks := ks) (i := j) (v := v) (s := tn i) hA.1.1 k0 hA.2.1 hA.2.2.1 hA.2.2.2.2.2.2.2.2.1 hA.1.2.2.1 hi10 v0 v8 k1
      rw [← hi] at k133
      have hwy := sRead_why S (tn i) j v
      unfold mRd
      by_cases c1 : sRead S (tn i) j v = 0
      · have hok : okb (sBk S (tn i) j v) (sBv S (tn i) j v) := okb_read hA.2.2.2.2.2.2.2.2.1.1 hA.2.2.2.2.2.2.2.2.1.2.1 hA.2.2.2.2.2.2.2.2.1.2.2.1 hA.2.2.2.2.2.2.2.2.1.2.2.2.2.2 c1
        rw [if_pos c1] at k133 ⊢
        have k0' : (bxS G (c + 1) (sBk S (tn i) j v) (sBv S (tn i) j v)).1 c = 15 := k0
        have k135 := c135 (g := g) (n := n) (kc := kc) (ks := ks) (G := bxS G (c + 1) (sBk S (tn i) j v) (sBv S (tn i) j v)) (c := c) k0 k6 k6' hwy
        rw [if_pos c1] at k135
        rw [c1] at k133 k135 ⊢
        refine sim_in (lat_ev hA hok) (by rw [bx_pend]; exact hp) rfl ?_
        simp only [x96_0, x96_1, x96_4, x96_7, x96_8, x96_11, x96_14, x96_15, x96_16, x96_17, x96_18, x96_19, x96_20, x96_21, x96_22, x96_25, x96_28, x96_31, c127, e1, xb_t, h10, c128, e2, gf_15_0 k0, gc_15 k0, k133, gc_15 k0', k135, Option.bind_some, Option.toList_some, Option.toList_none, List.cons_append, List.nil_append, Option.isSome_some, if_true, eq_self, or_true, true_or, xb_01, mcl_cl, not_true_eq_false, not_false_eq_true, if_false]
      · rw [if_neg c1] at k133 ⊢
        have k135 := c135 (g := g) (n := n) (kc := kc) (ks := ks) (c := c) k0 k6 k6' hwy
        rw [if_neg c1] at k135
        unfold mLat
        rw [if_neg c1]
        refine sim_in (rA_ctd hA hwy c1) ?_ rfl ?_
        · rw [gsI3, if_neg (by omega)]
          exact hp
        · simp only [x96_0, x96_1, x96_4, x96_7, x96_8, x96_11, x96_14, x96_15, x96_16, x96_17, x96_18, x96_19, x96_20, x96_21, x96_22, x96_25, x96_28, x96_31, c127, e1, xb_t, h10, c128, e2, gf_15_0 k0, gc_15 k0, k133, k135, Option.bind_some, Option.toList_some, Option.toList_none, List.cons_append, List.nil_append, Option.isSome_some, if_true, eq_self, or_true, true_or, xb_01, mcl_cl, not_true_eq_false, not_false_eq_true, if_false]
theorem s103 (hA : rA g G c n b ρ S) (hp : G.2.2.1 (c + 7) 1 = 0) : sim g c n kc ks G 103 [.val (va_rf (some c)), .val (.int i), .val (.int j), .unset] (.int (fLook S i j).1) (fLook S i j).2 := by
  have k0 : G.1 c = 15 := hA.1.2.1.1
  have k1 : G.1 (c + 1) = 16 := hA.1.2.1.2.1
  obtain ⟨k6, k6'⟩ := hA.1.2.1.2.2.2.2.2.2.1
  have hb := hA.2.1
  have hB := hA.2.2.1
  unfold fLook
  cases e1 : mSl i with
  | false =>
    have k13 := k13n (g := g) (kc := kc) (ks := ks) hA e1
    rw [if_pos rfl]
    refine sim_same hA hp ?_
    simp only [x103_0, x103_1, x103_4, x103_5, x103_8, x103_9, x103_10, x103_13, x103_14, x103_15, x103_16, x103_17, x103_18, x103_19, x103_20, x103_23, x103_24, x103_27, x103_30, x103_33, gf_15_9 k0, hb, gc_9 hB.1, k13, Option.bind_some, Option.toList_some, Option.toList_none, List.cons_append, List.nil_append, Option.isSome_some, if_true, eq_self, or_true, true_or, xb_01, mcl_cl, not_true_eq_false, not_false_eq_true, if_false]
  | true =>
    obtain ⟨k13, hi⟩ := k13w (g := g) (kc := kc) (ks := ks) hA e1
    obtain ⟨w1, w2, w3, w4, w5, w6, w7, w8, w9, w10⟩ := rA_w hA hi
    rw [if_neg (by simp)]
    have hne : ¬ (some (b + 5 + tn i) = none) := by simp
    have k139 := c139 (g := g) (n := n) (kc := kc) (ks := ks) (j := j) hA hi w9 w10 k1
    have hwy := sLook_why S (tn i) j (sVw S (tn i))
    by_cases c1 : sLook S (tn i) j (sVw S (tn i)) = 0
    · have hok := okb_look hA.2.2.2.2.2.2.2.2.1 c1
      rw [if_pos c1] at k139 ⊢
      have k0' : (bxS G (c + 1) (sLk S (tn i) j (sVw S (tn i))) (sLv S (tn i) j (sVw S (tn i)))).1 c = 15 := k0
      have k135 := c135 (g := g) (n := n) (kc := kc) (ks := ks) (G := bxS G (c + 1) (sLk S (tn i) j (sVw S (tn i))) (sLv S (tn i) j (sVw S (tn i)))) (c := c) k0 k6 k6' hwy
      rw [if_pos c1] at k135
      rw [c1] at k139 k135 ⊢
      refine sim_in (lat_ev hA hok) (by rw [bx_pend]; exact hp) rfl ?_
      simp only [x103_0, x103_1, x103_4, x103_5, x103_8, x103_9, x103_10, x103_13, x103_14, x103_15, x103_16, x103_17, x103_18, x103_19, x103_20, x103_23, x103_24, x103_27, x103_30, x103_33, gf_15_9 k0, hb, gc_9 hB.1, k13, hne, gf_14_4 w1, w8, gf_15_0 k0, gc_15 k0, k139, gc_15 k0', k135, Option.bind_some, Option.toList_some, Option.toList_none, List.cons_append, List.nil_append, Option.isSome_some, if_true, eq_self, or_true, true_or, xb_01, mcl_cl, not_true_eq_false, not_false_eq_true, if_false]
    · rw [if_neg c1] at k139 ⊢
      have k135 := c135 (g := g) (n := n) (kc := kc) (ks := ks) (c := c) k0 k6 k6' hwy
      rw [if_neg c1] at k135
      refine sim_in (rA_ctd hA hwy c1) ?_ rfl ?_
      · rw [gsI3, if_neg (by omega)]
        exact hp
      · simp only [x103_0, x103_1, x103_4, x103_5, x103_8, x103_9, x103_10, x103_13, x103_14, x103_15, x103_16, x103_17, x103_18, x103_19, x103_20, x103_23, x103_24, x103_27, x103_30, x103_33, gf_15_9 k0, hb, gc_9 hB.1, k13, hne, gf_14_4 w1, w8, gf_15_0 k0, gc_15 k0, k139, k135, Option.bind_some, Option.toList_some, Option.toList_none, List.cons_append, List.nil_append, Option.isSome_some, if_true, eq_self, or_true, true_or, xb_01, mcl_cl, not_true_eq_false, not_false_eq_true, if_false]
end K33
