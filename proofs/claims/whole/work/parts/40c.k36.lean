/-! THE CLASS beside the reference, 23: settled; single writes -/
section K36
variable {g : xG} {n kc ks a b c s t w q l x y jn d r p n' e kb A : Nat} {G T U : GS} {h : xH} {i j k m v i1 i2 : Int32} {u z : Int64} {o : Option Nat} {S S1 S' V : MS} {ρ κ : Nat → Nat} {L L' : List Nat} {cnt : Nat} {at' wk ik : Nat → Int32} {wv iv : Nat → Int64}
theorem mAc_t4 {f : Nat → Int32} (h : mAc S' S l a) : mAc S' (mT4 S f) l a := by
  unfold mAc at h ⊢
  rw [mT4_A (by decide), mT4_A (by decide), mT4_A (by decide), mT4_A (by decide)]
  exact h
theorem mSo_i : mSo (msI S 23 i) S := ⟨rfl, fun q a _ => by simp [msI, a], fun _ _ _ _ _ _ => rfl, fun _ _ _ _ => rfl⟩
/-- what is kept in the reference -/
theorem mKeep_sp (hd : S.1 24 = nI d) (h24 : d ≤ 24) (hp : p ≤ 64) (hA' : A = if d = 24 then 23 else d) : mSo (mKeep S p) (mT4 S (mTch (mAt S) (S.2.2.1 4) p)) ∧ (mKeep S p).1 23 = nI (A + 1) ∧ (mKeep S p).1 24 = nI (A + 1) ∧ (∀ w, w < A → mAc (mKeep S p) (mT4 S (mTch (mAt S) (S.2.2.1 4) p)) w (if d = 24 then w + 1 else w)) ∧ (mKeep S p).2.2.1 22 A = nI p ∧ ∀ k, k < p → (mKeep S p).2.2.1 17 (64 * A + k) = S.2.2.1 13 k ∧ (mKeep S p).2.2.1 18 (64 * A + k) = S.2.2.1 14 k ∧ (mKeep S p).2.2.2 19 (64 * A + k) = S.2.2.2 15 k ∧ (mKeep S p).2.2.1 20 (64 * A + k) = sIk S p k ∧ (mKeep S p).2.2.2 21 (64 * A + k) = sIv S p k := by
  unfold mKeep
  by_cases z : d = 24
  · subst z
    rw [if_pos rfl] at hA'
    subst hA'
    have e24 : S.1 24 = 24 := hd
    rw [if_pos e24]
    have hV : mSo (msI (mSh 1 23 (msI S 23 24)) 23 23) S := mSo_trans mSo_i (mSo_trans (mSh_so 23 1 _).1 mSo_i)
    obtain ⟨k1, k2, k3, k4⟩ := mKs_sp (A := 23) (i := 24) hV hp
    refine ⟨k1, rfl, rfl, fun w hw => ?_, k3, k4⟩
    have a1 := k2 w (by omega)
    have a2 := mSh_ac 23 1 (msI S 23 24) (by omega) w
    rw [if_pos (by omega)] at a2
    rw [if_pos rfl]
    have a3 : mAc (msI (mSh 1 23 (msI S 23 24)) 23 23) S w (w + 1) := a2
    exact mAc_t4 (mAc_trans a1 a3)
  · rw [if_neg z] at hA'
    subst hA'
    have e24 : ¬ S.1 24 = 24 := by
      rw [hd]
      intro y
      have h1 := congrArg tn y
      rw [tn_nI (by omega)] at h1
      exact z h1
    have et : tn (S.1 24) = A := by rw [hd]; exact tn_nI (by omega)
    have ei : S.1 24 + 1 = nI (A + 1) := by rw [hd]; exact nI_1 A
    rw [if_neg e24, et, ei]
    have hV : mSo (msI S 23 (S.1 24)) S := mSo_i
    obtain ⟨k1, k2, k3, k4⟩ := mKs_sp (A := A) (i := nI (A + 1)) hV hp
    refine ⟨k1, rfl, rfl, fun w hw => ?_, k3, k4⟩
    have a1 := k2 w (by omega)
    rw [if_neg z]
    exact mAc_t4 a1
/-- the journal settled on both sides -/
theorem rA_settle (hA : rA g G c n b ρ S) (hP : rPd G c ρ S p) (hp : p ≤ 64) : ∃ n' kc' ks' G', X g 31 0 [.val (va_rf (some (c + 7))), .unset] [] (gH n kc ks G) = some (none, gH n' kc' ks' G') ∧ rA g G' c n' b ρ (mSet S) ∧ G'.2.2.1 (c + 7) 1 = 0 ∧ n ≤ n' ∧ kc' ≤ kc + 2 ∧ ks' ≤ ks + 65 ∧ ∀ q, q < n → G'.1 q = G.1 q := by
  obtain ⟨d, e, h1, h2, h3, h4⟩ := hA.2.2.2.2.2.2.1.2.2.1
  have hd : G.2.2.1 (c + 7) 3 = nI d := by rw [hA.2.2.2.2.2.2.1.1]; exact h1
  have hr := hA.2.2.2.2.2.2.1.2.2.2.1
  have ho := rPu_ok hA.2.2.2.2.2.2.2.2.1.1 hA.2.2.1 hP.2.2
  have hn := hA.1.2.2.2.2.2.2
  have k31 := c31 (g := g) (n := n) (kc := kc) (ks := ks) hA.1.1 (hn n (by omega)) (hn (n + 1) (by omega)) (rA_jL hA) ho hp hP.1 hd (by omega) hr
  have e16 : tn (S.1 16) = p := by rw [hP.2.1]; exact tn_nI (by omega)
  unfold mSet
  rw [e16]
  by_cases p0 : p = 0
  · rw [if_pos p0] at k31 ⊢
    refine ⟨n, kc, ks, G, k31, hA, ?_, Nat.le_refl _, by omega, by omega, fun _ _ => rfl⟩
    rw [hP.1, p0]
    rfl
  · rw [if_neg p0] at k31 ⊢
    obtain ⟨a1, a2, a3, a4, a5, a6, a7⟩ := rA_act hA hP hp
    have b1 := rA_tch a1 a5
    have m1 := rTc_m a1.1.1 (rPu_ok a1.2.2.2.2.2.2.2.2.1.1 a1.2.2.1 a5) p 0 _ rTm_refl (by omega)
    have hs : jSt G n (c + 7) p = rTc (gsI (aMk G n (c + 8) p) (c + 7) 1 0) (n + 1) 0 p (gsI (aMk G n (c + 8) p) (c + 7) 1 0) := rfl
    rw [← hs] at b1 m1
    obtain ⟨t1, t2, t3, t4, t5⟩ := m1
    have g7 : (gsI (aMk G n (c + 8) p) (c + 7) 1 0).2.2.1 (c + 7) 1 = 0 := if_pos ⟨rfl, rfl⟩
    have g17 : (gsI (aMk G n (c + 8) p) (c + 7) 1 0).1 (c + 7) = 20 := a1.1.2.1.2.2.2.2.2.2.2.1
    generalize gsI (aMk G n (c + 8) p) (c + 7) 1 0 = G1 at *
    generalize jSt G n (c + 7) p = G2 at *
    have hAg : agr G2 G1 [4] := fun q hq => ⟨by rw [t1], by rw [t2], t5 q (fun z => hq (by rw [z]; decide)), by rw [t3], by rw [t4]⟩
    have P2 := rPu_agr hAg (by decide) (by rw [a3]; decide) a5
    obtain ⟨k1, k2, k3, k4, k5, k6⟩ := mKeep_sp (A := if d = 24 then 23 else d) h1 (by omega) hp rfl
    have b1' : rA g G2 c (n + 2) b ρ (mT4 S (mTch (mAt S) (S.2.2.1 4) p)) := b1
    have P3 : rPu G2 ρ (mT4 S (mTch (mAt S) (S.2.2.1 4) p)) (n + 1) p (S.2.2.1 13) (S.2.2.1 14) (sIk S p) (S.2.2.2 15) (sIv S p) := rPu_ev (mT4_A (by decide)) (mT4_A (by decide)) (mT4_A (by decide)) P2
    obtain ⟨f1, f2, f3⟩ := rA_kp (t := n) b1' h1 (by omega) (by rw [t1]; exact a2) (by rw [t2]; exact a4) hp P3 k1 rfl k2 k3 k4 k5 k6
    refine ⟨_, _, _, _, k31, f1, ?_, by omega, by omega, by omega, fun q hq => ?_⟩
    · rw [f2, t5 (c + 7) (by rw [g17]; decide)]
      exact g7
    · rw [f3, t1]
      exact a6 q hq
/-- settled and counted -/
theorem rA_137 (hA : rA g G c n b ρ S) (hP : rPd G c ρ S p) (hp : p ≤ 64) (hx : sWhy i) : ∃ n' kc' ks' G', X g 137 0 [.val (va_rf (some c)), .val (.int (sAns i))] [] (gH n kc ks G) = some (some (.int (sAns i)), gH n' kc' ks' G') ∧ rA g G' c n' b ρ (if i = 0 then mSet S else mCtd (mSet S) i) ∧ G'.2.2.1 (c + 7) 1 = 0 ∧ n ≤ n' ∧ kc' ≤ kc + 2 ∧ ks' ≤ ks + 65 ∧ ∀ q, q < n → G'.1 q = G.1 q := by
  obtain ⟨n', kc', ks', G', h1, h2, h3, h4, h5, h6, h7⟩ := rA_settle (g := g) (kc := kc) (ks := ks) hA hP hp
  have k0 : G.1 c = 15 := hA.1.2.1.1
  have k7 : G.1 (c + 7) = 20 := hA.1.2.1.2.2.2.2.2.2.2.1
  have k0' : G'.1 c = 15 := h2.1.2.1.1
  obtain ⟨k6, k6'⟩ := h2.1.2.1.2.2.2.2.2.2.1
  have k135 := c135 (g := g) (n := n') (kc := kc') (ks := ks') k0' k6 k6' hx
  refine ⟨n', kc', ks', if i = 0 then G' else gsI G' (c + 6) (tn (-11 - i)) (G'.2.2.1 (c + 6) (tn (-11 - i)) + 1), ?_, ?_, ?_, h4, h5, h6, ?_⟩
  · simp only [x137_0, x137_1, x137_4, x137_7, x137_8, x137_9, x137_12, gf_15_6 k0, gc_20 k7, h1, gc_15 k0', k135, Option.bind_some, Option.toList_some, Option.toList_none, List.cons_append, List.nil_append, Option.isSome_some, if_true, eq_self, or_true, true_or, xb_01, mcl_cl, not_true_eq_false, not_false_eq_true, if_false]
  · by_cases c1 : i = 0
    · rw [if_pos c1, if_pos c1]
      exact h2
    · rw [if_neg c1, if_neg c1]
      exact rA_ctd h2 hx c1
  · by_cases c1 : i = 0
    · rw [if_pos c1]
      exact h3
    · rw [if_neg c1, gsI3, if_neg (by omega)]
      exact h3
  · intro q hq
    by_cases c1 : i = 0
    · rw [if_pos c1]
      exact h7 q hq
    · rw [if_neg c1]
      exact h7 q hq
theorem rA_146 (hA : rA g G c n b ρ S) (hP : rPd G c ρ S p) (hp : p ≤ 64) : ∃ n' kc' ks' G', X g 146 0 [.val (va_rf (some c)), .val (.int i)] [] (gH n kc ks G) = some (some (.int i), gH n' kc' ks' G') ∧ rA g G' c n' b ρ (mSet S) ∧ G'.2.2.1 (c + 7) 1 = 0 ∧ n ≤ n' ∧ kc' ≤ kc + 2 ∧ ks' ≤ ks + 65 ∧ ∀ q, q < n → G'.1 q = G.1 q := by
  obtain ⟨n', kc', ks', G', h1, h2, h3, h4, h5, h6, h7⟩ := rA_settle (g := g) (kc := kc) (ks := ks) hA hP hp
  have k0 : G.1 c = 15 := hA.1.2.1.1
  have k7 : G.1 (c + 7) = 20 := hA.1.2.1.2.2.2.2.2.2.2.1
  refine ⟨n', kc', ks', G', ?_, h2, h3, h4, h5, h6, h7⟩
  simp only [x146_0, x146_1, x146_4, x146_7, x146_8, gf_15_6 k0, gc_20 k7, h1, Option.bind_some, Option.toList_some, Option.toList_none, List.cons_append, List.nil_append, Option.isSome_some, if_true, eq_self, or_true, true_or, xb_01, mcl_cl, not_true_eq_false, not_false_eq_true, if_false]
theorem mEv_16 : mEv (msI S 16 i) S := ⟨fun q _ h _ _ => by simp [msI, h], rfl, fun _ _ _ _ _ _ => rfl, fun _ _ _ _ => rfl⟩
/-- nothing pending, on both sides -/
theorem rPd_0 (hp : G.2.2.1 (c + 7) 1 = 0) : rPd G c ρ (msI S 16 0) 0 := ⟨hp, rfl, fun k hk => by omega⟩
theorem jPut_1 : (jPut G n jn p a i k u).1 q = if q = n then 5 else G.1 q := rfl
/-- a box put into a cell, alone -/
theorem rA_alone (hA : rA g G c n b ρ S) (hp : G.2.2.1 (c + 7) 1 = 0) (hs : s < 10) (hok : okb k u) : ∃ n1 kc1 ks1 G1 n' kc' ks' G', X g 134 0 [.val (va_rf (some c)), .val (.int (nI s)), .val (.int i), .val (.int v), .val (va_rf (some (c + 2))), .unset] [] (gH n kc ks (bxS G (c + 2) k u)) = some (some (.int (sAns (sPutBy S s i v k))), gH n1 kc1 ks1 G1) ∧ G1.1 c = 15 ∧ X g 137 0 [.val (va_rf (some c)), .val (.int (sAns (sPutBy S s i v k)))] [] (gH n1 kc1 ks1 G1) = some (some (.int (sAns (sPutBy S s i v k))), gH n' kc' ks' G') ∧ rA g G' c n' b ρ (fWrs S s i v k u) ∧ G'.2.2.1 (c + 7) 1 = 0 ∧ n ≤ n' ∧ kc' ≤ kc + 900 ∧ ks' ≤ ks + 9000 ∧ ∀ q, q < n → G'.1 q = G.1 q := by
  have hq : bq (bxS G (c + 2) k u) G c := bq_x (Or.inl rfl)
  have hA1 := rA_bq hA hq
  have hp1 : (bxS G (c + 2) k u).2.2.1 (c + 7) 1 = 0 := by rw [bq_7 hq]; exact hp
  have k2 : (bxS G (c + 2) k u).1 (c + 2) = 16 := hA1.1.2.1.2.2.1
  have hA2 : rA g (bxS G (c + 2) k u) c n b ρ (msI S 16 0) := rA_ev mEv_16 hA1
  have hn := hA1.1.2.2.2.2.2.2
  have k134 := c134 (g := g) (n := n) (kc := kc) (ks := ks) (p := 0) (s := s) (i := i) (v := v) (y := c + 2) (k := k) (u := u) hA1.1.1 (hn n (by omega)) hA1.1.2.1.1 hA1.2.1 hA1.2.2.1 hA1.2.2.2.2.2.2.2.2.1 hA1.1.2.2.1 (rA_jL hA1) (by omega) hp1 hs k2 (by simp [bxS, gsI, gsJ]) (by simp [bxS, gsI, gsJ]) hok
  have hwy := sPutBy_why S s i v k
  have e1 : (bxS G (c + 2) k u).1 = G.1 := rfl
  unfold gPt at k134
  unfold fWrs
  by_cases c1 : sPutBy S s i v k = 0
  · rw [if_pos c1] at k134 ⊢
    have c1' : sPutBy (msI S 16 0) s i v k = 0 := c1
    obtain ⟨b1, b2⟩ := rA_put hA2 (rPd_0 hp1) (by omega) hs c1' hok
    obtain ⟨n', kc', ks', G', h1, h2, h3, h4, h5, h6, h7⟩ := rA_137 (g := g) (kc := kc + 1) (ks := ks + 6) b1 b2 (by omega) hwy
    rw [if_pos c1] at h2
    refine ⟨_, _, _, _, n', kc', ks', G', k134, b1.1.2.1.1, h1, h2, h3, by omega, by omega, by omega, fun q hq => ?_⟩
    rw [h7 q (by omega), jPut_1, if_neg (by omega), e1]
  · rw [if_neg c1] at k134 ⊢
    obtain ⟨n', kc', ks', G', h1, h2, h3, h4, h5, h6, h7⟩ := rA_137 (g := g) (kc := kc) (ks := ks) hA2 (rPd_0 hp1) (by omega) hwy
    rw [if_neg c1] at h2
    exact ⟨_, _, _, _, n', kc', ks', G', k134, hA1.1.2.1.1, h1, h2, h3, by omega, by omega, by omega, fun q hq => h7 q hq⟩
theorem s98 (hA : rA g G c n b ρ S) (hp : G.2.2.1 (c + 7) 1 = 0) : sim g c n kc ks G 98 [.val (va_rf (some c)), .val (.int i), .val (.int j), .val (.int v), .val (.long u), .second] (.int (fWrite S i j v u).1) (fWrite S i j v u).2 := by
  have k0 : G.1 c = 15 := hA.1.2.1.1
  have k2 : G.1 (c + 2) = 16 := hA.1.2.1.2.2.1
  have h10 : ¬ (1 : Int32) = 0 := by decide
  unfold fWrite
  cases e1 : mSlot i with
  | false =>
    rw [if_pos rfl]
    refine sim_same hA hp ?_
    simp only [x98_0, x98_1, x98_4, x98_7, x98_8, x98_11, x98_14, x98_15, x98_16, x98_17, x98_20, x98_21, x98_22, x98_24, x98_27, x98_30, x98_31, x98_32, x98_33, x98_34, x98_35, x98_36, x98_39, x98_42, x98_45, c127, e1, xb_f, Option.bind_some, Option.toList_some, Option.toList_none, List.cons_append, List.nil_append, Option.isSome_some, if_true, eq_self, or_true, true_or, xb_01, mcl_cl, not_true_eq_false, not_false_eq_true, if_false]
  | true =>
    rw [if_neg (by simp)]
    cases e2 : mWithin v.toInt 0 7 with
    | false =>
      rw [if_pos rfl]
      refine sim_same hA hp ?_
      simp only [x98_0, x98_1, x98_4, x98_7, x98_8, x98_11, x98_14, x98_15, x98_16, x98_17, x98_20, x98_21, x98_22, x98_24, x98_27, x98_30, x98_31, x98_32, x98_33, x98_34, x98_35, x98_36, x98_39, x98_42, x98_45, c127, e1, xb_t, h10, c129, e2, xb_f, Option.bind_some, Option.toList_some, Option.toList_none, List.cons_append, List.nil_append, Option.isSome_some, if_true, eq_self, or_true, true_or, xb_01, mcl_cl, not_true_eq_false, not_false_eq_true, if_false]
    | true =>
      rw [if_neg (by simp)]
      obtain ⟨hi, hi10⟩ := c127w e1
      obtain ⟨n1, kc1, ks1, G1, n', kc', ks', G', h1, h2, h3, h4, h5, h6, h7, h8, h9⟩ := rA_alone (g := g) (kc := kc) (ks := ks) (i := j) (v := v) hA hp hi10 (okb_num (u := u) e2)
      rw [← hi] at h1
      refine ⟨n', kc', ks', G', b, ρ, ?_, h4, h5, h6, h7, h8, h9⟩
      have k0' : (bxS G (c + 2) v (pBy v u)).1 c = 15 := k0
      simp only [x98_0, x98_1, x98_4, x98_7, x98_8, x98_11, x98_14, x98_15, x98_16, x98_17, x98_20, x98_21, x98_22, x98_24, x98_27, x98_30, x98_31, x98_32, x98_33, x98_34, x98_35, x98_36, x98_39, x98_42, x98_45, c127, e1, xb_t, h10, c129, e2, gf_15_1 k0, c41, gc_16 k2, c27' k2, gf_15_1 k0', gc_15 k0', h1, gc_15 h2, h3, Option.bind_some, Option.toList_some, Option.toList_none, List.cons_append, List.nil_append, Option.isSome_some, if_true, eq_self, or_true, true_or, xb_01, mcl_cl, not_true_eq_false, not_false_eq_true, if_false]
theorem s100 (hA : rA g G c n b ρ S) (hp : G.2.2.1 (c + 7) 1 = 0) : sim g c n kc ks G 100 [.val (va_rf (some c)), .val (.int i), .val (.int j), .val (.int k), .val (.long u), .second] (.int (fBox S i j k u).1) (fBox S i j k u).2 := by
  have k0 : G.1 c = 15 := hA.1.2.1.1
  have k2 : G.1 (c + 2) = 16 := hA.1.2.1.2.2.1
  have h10 : ¬ (1 : Int32) = 0 := by decide
  unfold fBox
  cases e1 : mSlot i with
  | false =>
    rw [if_pos rfl]
    refine sim_same hA hp ?_
    simp only [x100_0, x100_1, x100_4, x100_7, x100_8, x100_11, x100_14, x100_15, x100_16, x100_17, x100_19, x100_22, x100_25, x100_27, x100_28, x100_29, x100_32, x100_33, x100_34, x100_36, x100_39, x100_42, x100_43, x100_44, x100_45, x100_46, x100_48, x100_49, x100_52, x100_55, x100_58, c127, e1, xb_f, Option.bind_some, Option.toList_some, Option.toList_none, List.cons_append, List.nil_append, Option.isSome_some, if_true, eq_self, or_true, true_or, xb_01, mcl_cl, not_true_eq_false, not_false_eq_true, if_false]
  | true =>
    rw [if_neg (by simp)]
    cases e2 : mWithin k.toInt 0 10 with
    | false =>
      rw [if_pos rfl]
      refine sim_same hA hp ?_
      simp only [x100_0, x100_1, x100_4, x100_7, x100_8, x100_11, x100_14, x100_15, x100_16, x100_17, x100_19, x100_22, x100_25, x100_27, x100_28, x100_29, x100_32, x100_33, x100_34, x100_36, x100_39, x100_42, x100_43, x100_44, x100_45, x100_46, x100_48, x100_49, x100_52, x100_55, x100_58, c127, e1, xb_t, h10, c130, e2, xb_f, Option.bind_some, Option.toList_some, Option.toList_none, List.cons_append, List.nil_append, Option.isSome_some, if_true, eq_self, or_true, true_or, xb_01, mcl_cl, not_true_eq_false, not_false_eq_true, if_false]
    | true =>
      rw [if_neg (by simp)]
      cases e3 : mNone k u with
      | true =>
        rw [if_pos rfl]
        refine sim_same hA hp ?_
        simp only [x100_0, x100_1, x100_4, x100_7, x100_8, x100_11, x100_14, x100_15, x100_16, x100_17, x100_19, x100_22, x100_25, x100_27, x100_28, x100_29, x100_32, x100_33, x100_34, x100_36, x100_39, x100_42, x100_43, x100_44, x100_45, x100_46, x100_48, x100_49, x100_52, x100_55, x100_58, c127, e1, xb_t, h10, c130, e2, c132, e3, Bool.not_true, xb_f, Option.bind_some, Option.toList_some, Option.toList_none, List.cons_append, List.nil_append, Option.isSome_some, if_true, eq_self, or_true, true_or, xb_01, mcl_cl, not_true_eq_false, not_false_eq_true, if_false]
      | false =>
        rw [if_neg (by simp)]
        obtain ⟨hi, hi10⟩ := c127w e1
        obtain ⟨n1, kc1, ks1, G1, n', kc', ks', G', h1, h2, h3, h4, h5, h6, h7, h8, h9⟩ := rA_alone (g := g) (kc := kc) (ks := ks) (i := j) (v := 8) hA hp hi10 (okb_by (mWithin_iff.mp e2).1 (mWithin_iff.mp e2).2 e3)
        rw [← hi] at h1
        refine ⟨n', kc', ks', G', b, ρ, ?_, h4, h5, h6, h7, h8, h9⟩
        have k0' : (bxS G (c + 2) k (pBy k u)).1 c = 15 := k0
        simp only [x100_0, x100_1, x100_4, x100_7, x100_8, x100_11, x100_14, x100_15, x100_16, x100_17, x100_19, x100_22, x100_25, x100_27, x100_28, x100_29, x100_32, x100_33, x100_34, x100_36, x100_39, x100_42, x100_43, x100_44, x100_45, x100_46, x100_48, x100_49, x100_52, x100_55, x100_58, c127, e1, xb_t, h10, c130, e2, c132, e3, Bool.not_false, gf_15_1 k0, c41, gc_16 k2, c27' k2, gf_15_1 k0', gc_15 k0', h1, gc_15 h2, h3, Option.bind_some, Option.toList_some, Option.toList_none, List.cons_append, List.nil_append, Option.isSome_some, if_true, eq_self, or_true, true_or, xb_01, mcl_cl, not_true_eq_false, not_false_eq_true, if_false]
theorem s99 (hA : rA g G c n b ρ S) (hp : G.2.2.1 (c + 7) 1 = 0) : sim g c n kc ks G 99 [.val (va_rf (some c)), .val (.int i), .val (.int j), .val (.int k), .val (.int v), .val (.int m)] (.int (fReal S i j k v m).1) (fReal S i j k v m).2 := by
  have k0 : G.1 c = 15 := hA.1.2.1.1
  have k2 : G.1 (c + 2) = 16 := hA.1.2.1.2.2.1
  have h10 : ¬ (1 : Int32) = 0 := by decide
  unfold fReal
  cases e1 : mSlot i with
  | false =>
    rw [if_pos rfl]
    refine sim_same hA hp ?_
    simp only [x99_0, x99_1, x99_4, x99_7, x99_8, x99_10, x99_13, x99_14, x99_16, x99_19, x99_20, x99_21, x99_23, x99_26, x99_28, x99_29, x99_30, x99_33, x99_34, x99_35, x99_37, x99_39, x99_42, x99_45, x99_46, x99_47, x99_48, x99_49, x99_50, x99_51, x99_54, x99_57, x99_60, c127, e1, xb_f, Option.bind_some, Option.toList_some, Option.toList_none, List.cons_append, List.nil_append, Option.isSome_some, if_true, eq_self, or_true, true_or, xb_01, mcl_cl, not_true_eq_false, not_false_eq_true, if_false]
  | true =>
    rw [if_neg (by simp)]
    cases e2 : mWithin k.toInt 6 7 with
    | false =>
      rw [if_pos rfl]
      have n6 : ¬ k = 6 := by rintro rfl; exact absurd e2 (by decide)
      have n7 : ¬ k = 7 := by rintro rfl; exact absurd e2 (by decide)
      refine sim_same hA hp ?_
      simp only [x99_0, x99_1, x99_4, x99_7, x99_8, x99_10, x99_13, x99_14, x99_16, x99_19, x99_20, x99_21, x99_23, x99_26, x99_28, x99_29, x99_30, x99_33, x99_34, x99_35, x99_37, x99_39, x99_42, x99_45, x99_46, x99_47, x99_48, x99_49, x99_50, x99_51, x99_54, x99_57, x99_60, c127, e1, xb_t, h10, n6, n7, Option.bind_some, Option.toList_some, Option.toList_none, List.cons_append, List.nil_append, Option.isSome_some, if_true, eq_self, or_true, true_or, xb_01, mcl_cl, not_true_eq_false, not_false_eq_true, if_false]
    | true =>
      rw [if_neg (by simp)]
      have h67 : k = 6 ∨ k = 7 := by
        obtain ⟨y1, y2⟩ := mWithin_iff.mp e2
        have : k.toInt = 6 ∨ k.toInt = 7 := by omega
        rcases this with h | h
        · exact Or.inl (Int32.toInt_inj.mp h)
        · exact Or.inr (Int32.toInt_inj.mp h)
      have e7 : k = 7 → ¬ k = 6 := by rintro rfl; decide
      by_cases m0 : m = 0
      · rw [if_pos m0]
        refine sim_same hA hp ?_
        rcases h67 with h | h
        · simp only [x99_0, x99_1, x99_4, x99_7, x99_8, x99_10, x99_13, x99_14, x99_16, x99_19, x99_20, x99_21, x99_23, x99_26, x99_28, x99_29, x99_30, x99_33, x99_34, x99_35, x99_37, x99_39, x99_42, x99_45, x99_46, x99_47, x99_48, x99_49, x99_50, x99_51, x99_54, x99_57, x99_60, c127, e1, xb_t, h10, h, m0, Option.bind_some, Option.toList_some, Option.toList_none, List.cons_append, List.nil_append, Option.isSome_some, if_true, eq_self, or_true, true_or, xb_01, mcl_cl, not_true_eq_false, not_false_eq_true, if_false]
        · have h76 : ¬ (7 : Int32) = 6 := by decide
          simp only [x99_0, x99_1, x99_4, x99_7, x99_8, x99_10, x99_13, x99_14, x99_16, x99_19, x99_20, x99_21, x99_23, x99_26, x99_28, x99_29, x99_30, x99_33, x99_34, x99_35, x99_37, x99_39, x99_42, x99_45, x99_46, x99_47, x99_48, x99_49, x99_50, x99_51, x99_54, x99_57, x99_60, c127, e1, xb_t, h10, h, h76, m0, Option.bind_some, Option.toList_some, Option.toList_none, List.cons_append, List.nil_append, Option.isSome_some, if_true, eq_self, or_true, true_or, xb_01, mcl_cl, not_true_eq_false, not_false_eq_true, if_false]
      · rw [if_neg m0]
        obtain ⟨hi, hi10⟩ := c127w e1
        obtain ⟨n1, kc1, ks1, G1, n', kc', ks', G', h1, h2, h3, h4, h5, h6, h7, h8, h9⟩ := rA_alone (g := g) (kc := kc) (ks := ks) (i := j) (v := k) hA hp hi10 (okb_quo (x := v) e2 m0)
        rw [← hi] at h1
        refine ⟨n', kc', ks', G', b, ρ, ?_, h4, h5, h6, h7, h8, h9⟩
        have k0' : (bxS G (c + 2) k (pQuo k v m)).1 c = 15 := k0
        have k42 := fun h => c42 (g := g) (h := h) (j := v) h67 m0
        by_cases z6 : k = 6
        · simp only [x99_0, x99_1, x99_4, x99_7, x99_8, x99_10, x99_13, x99_14, x99_16, x99_19, x99_20, x99_21, x99_23, x99_26, x99_28, x99_29, x99_30, x99_33, x99_34, x99_35, x99_37, x99_39, x99_42, x99_45, x99_46, x99_47, x99_48, x99_49, x99_50, x99_51, x99_54, x99_57, x99_60, c127, e1, xb_t, h10, z6, m0, Option.bind_some, Option.toList_some, Option.toList_none, List.cons_append, List.nil_append, Option.isSome_some, if_true, eq_self, or_true, true_or, xb_01, mcl_cl, not_true_eq_false, not_false_eq_true, if_false]
          simp only [z6] at k42 k0' h1 h3
          simp only [x99_0, x99_1, x99_4, x99_7, x99_8, x99_10, x99_13, x99_14, x99_16, x99_19, x99_20, x99_21, x99_23, x99_26, x99_28, x99_29, x99_30, x99_33, x99_34, x99_35, x99_37, x99_39, x99_42, x99_45, x99_46, x99_47, x99_48, x99_49, x99_50, x99_51, x99_54, x99_57, x99_60, gf_15_1 k0, k42, gc_16 k2, c27' k2, gf_15_1 k0', gc_15 k0', h1, gc_15 h2, h3, Option.bind_some, Option.toList_some, Option.toList_none, List.cons_append, List.nil_append, Option.isSome_some, if_true, eq_self, or_true, true_or, xb_01, mcl_cl, not_true_eq_false, not_false_eq_true, if_false]
        · have z7 : k = 7 := h67.resolve_left z6
          have h76 : ¬ (7 : Int32) = 6 := by decide
          simp only [x99_0, x99_1, x99_4, x99_7, x99_8, x99_10, x99_13, x99_14, x99_16, x99_19, x99_20, x99_21, x99_23, x99_26, x99_28, x99_29, x99_30, x99_33, x99_34, x99_35, x99_37, x99_39, x99_42, x99_45, x99_46, x99_47, x99_48, x99_49, x99_50, x99_51, x99_54, x99_57, x99_60, c127, e1, xb_t, h10, z7, h76, m0, Option.bind_some, Option.toList_some, Option.toList_none, List.cons_append, List.nil_append, Option.isSome_some, if_true, eq_self, or_true, true_or, xb_01, mcl_cl, not_true_eq_false, not_false_eq_true, if_false]
          simp only [z7] at k42 k0' h1 h3
          simp only [x99_0, x99_1, x99_4, x99_7, x99_8, x99_10, x99_13, x99_14, x99_16, x99_19, x99_20, x99_21, x99_23, x99_26, x99_28, x99_29, x99_30, x99_33, x99_34, x99_35, x99_37, x99_39, x99_42, x99_45, x99_46, x99_47, x99_48, x99_49, x99_50, x99_51, x99_54, x99_57, x99_60, gf_15_1 k0, k42, gc_16 k2, c27' k2, gf_15_1 k0', gc_15 k0', h1, gc_15 h2, h3, Option.bind_some, Option.toList_some, Option.toList_none, List.cons_append, List.nil_append, Option.isSome_some, if_true, eq_self, or_true, true_or, xb_01, mcl_cl, not_true_eq_false, not_false_eq_true, if_false]
end K36
