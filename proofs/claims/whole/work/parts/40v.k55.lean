/-! THE CLASS's methods, 18: a bank copied -/
section K55
variable {g : xG} {n kc ks a b c s w q l x y d r p n' e m N hh ww : Nat} {G T T' U G1 G2 : GS} {h : xH} {i j k v i1 i2 : Int32} {u z : Int64} {S S1 S' : MS} {ρ κ κ' : Nat → Nat} {L : List Nat} {o : Option Nat}
theorem bSl_at (h : bSl T n κ S s) (e1 : T'.2.2.2.2 (n + 1) s = T.2.2.2.2 (n + 1) s) (e2 : T'.2.2.1 (n + 2) s = T.2.2.1 (n + 2) s) (e3 : T'.2.2.1 (n + 3) s = T.2.2.1 (n + 3) s) (er : mRow S s = true → κ' (mr S s) = κ (mr S s) ∧ eqA T' T (κ (mr S s)) ∧ eqA T' T (κ (mr S s) + 1) ∧ eqA T' T (κ (mr S s) + 2)) : bSl T' n κ' S s := by
  unfold bSl at h ⊢
  rw [e1, e2, e3]
  rcases h with ⟨r0, r1, r2, r3, r4⟩ | h | h
  · obtain ⟨x0, x1, x2, x3⟩ := er r0
    refine Or.inl ⟨r0, by rw [x0]; exact r1, r2, r3, ?_⟩
    rw [x0]
    exact bRo_at x1 x2 x3 r4
  · exact Or.inr (Or.inl h)
  · exact Or.inr (Or.inr h)
/-- a bank's slots copied so far -/
def cpI (T G : GS) (n N : Nat) (S : MS) (s : Nat) (κ : Nat → Nat) : Prop := (∀ q, q < n → eqA T G q) ∧ (gW T ∧ (∀ q, N ≤ q → T.1 q = 0) ∧ n + 11 ≤ N) ∧ (T.1 n = 9 ∧ ∀ w, w < 6 → T.1 (n + 5 + w) = 14) ∧ (∀ s', s' < s → bSl T n κ S s') ∧ (∀ s', s' < s → mRow S s' = true → n + 11 ≤ κ (mr S s') ∧ κ (mr S s') + 3 < N ∧ ∀ p, p < mz S (mr S s') → T.2.2.1 (κ (mr S s') + 3) p = 0) ∧ ∀ s' t', s' < s → t' < s → mRow S s' = true → mRow S t' = true → κ (mr S s') = κ (mr S t') → mr S s' = mr S t'
theorem bSet_n (h : ¬ (n + 1 ≤ q ∧ q ≤ n + 3)) : eqA (bSet T n s o k j) T q := by
  have h1 : ¬ q = n + 1 := by omega
  have h2 : ¬ q = n + 2 := by omega
  have h3 : ¬ q = n + 3 := by omega
  refine ⟨rfl, rfl, ?_, rfl, ?_⟩
  · funext t
    simp [bSet, gsI, gsR, h2, h3]
  · funext t
    simp [bSet, gsI, gsR, h1]
/-- a slot's turn, no row made -/
theorem cpI_set (hI : cpI T G n N S s κ) (hs : bSl (bSet T n s o k j) n κ S s) (hr : mRow S s = true → ∃ f, f < s ∧ mRow S f = true ∧ mr S f = mr S s) : cpI (bSet T n s o k j) G n N S (s + 1) κ := by
  obtain ⟨i1, ⟨i2, i3, i4⟩, ⟨i5, i6⟩, i7, i8, i9⟩ := hI
  refine ⟨fun q hq => ?_, ⟨gW_c i2 rfl rfl, i3, i4⟩, ⟨i5, i6⟩, fun s' hs' => ?_, fun s' hs' hrow => ?_, fun s' t' h1 h2 h3 h4 h5 => ?_⟩
  · obtain ⟨e1, e2, e3, e4, e5⟩ := i1 q hq
    obtain ⟨f1, f2, f3, f4, f5⟩ := bSet_n (T := T) (n := n) (s := s) (o := o) (k := k) (j := j) (q := q) (by omega)
    exact ⟨f1.trans e1, f2.trans e2, f3.trans e3, f4.trans e4, f5.trans e5⟩
  · by_cases c : s' = s
    · rw [c]
      exact hs
    · refine bSl_at (i7 s' (by omega)) (by rw [bSet_R, if_neg c]) (by rw [bSet_I2, if_neg c]) (by rw [bSet_I3, if_neg c]) (fun hrow => ?_)
      obtain ⟨k1, k2, _⟩ := i8 s' (by omega) hrow
      exact ⟨rfl, bSet_n (by omega), bSet_n (by omega), bSet_n (by omega)⟩
  · have key : ∀ t', t' < s → mRow S t' = true → mr S t' = mr S s' → n + 11 ≤ κ (mr S s') ∧ κ (mr S s') + 3 < N ∧ ∀ p, p < mz S (mr S s') → (bSet T n s o k j).2.2.1 (κ (mr S s') + 3) p = 0 := by
      intro t' ht' hrt he
      obtain ⟨k1, k2, k3⟩ := i8 t' ht' hrt
      rw [he] at k1 k2 k3
      refine ⟨k1, k2, fun p hp => ?_⟩
      rw [(bSet_n (T := T) (n := n) (s := s) (o := o) (k := k) (j := j) (q := κ (mr S s') + 3) (by omega)).2.2.1]
      exact k3 p hp
    by_cases c : s' = s
    · subst c
      obtain ⟨f, f1, f2, f3⟩ := hr hrow
      exact key f f1 f2 f3
    · exact key s' (by omega) hrow rfl
  · have red : ∀ t', t' < s + 1 → mRow S t' = true → ∃ f, f < s ∧ mRow S f = true ∧ mr S f = mr S t' := by
      intro t' ht' hrt
      by_cases c : t' = s
      · subst c
        exact hr hrt
      · exact ⟨t', by omega, hrt, rfl⟩
    obtain ⟨f, f1, f2, f3⟩ := red s' h1 h3
    obtain ⟨f', f1', f2', f3'⟩ := red t' h2 h4
    have := i9 f f' f1 f1' f2 f2' (by rw [f3, f3']; exact h5)
    rw [← f3, ← f3']
    exact this
/-- a slot's turn, its row is copied -/
theorem cpI_row (hI : cpI T G n N S s κ) (hb : bS G b ρ S) (hgW : gW G) (h0 : ∀ q, n ≤ q → G.1 q = 0) (hs : s < 10) (hrow : mRow S s = true) (hnew : ∀ f, f < s → mRow S f = true → ¬ mr S f = mr S s) (hl : l = mz S (mr S s)) (hR : rcR U T N (ρ (mr S s)) l l) (hκ1 : κ' (mr S s) = N) (hκ2 : ∀ r, r ≠ mr S s → κ' r = κ r) : cpI (bSet U n s (some N) (U.2.2.1 N 0) 0) G n (N + 4) S (s + 1) κ' := by
  obtain ⟨i1, ⟨i2, i3, i4⟩, ⟨i5, i6⟩, i7, i8, i9⟩ := hI
  have hro := bS_row hb (⟨s, hs, hrow, rfl⟩ : rIn S (mr S s))
  obtain ⟨w1, w2, w3, w4, w5, w6⟩ := hgW.1 _ hro.1
  have lt : ∀ q, G.1 q ≠ 0 → q < n := fun q hq => Classical.byContradiction fun z => hq (h0 q (by omega))
  have la := lt _ (show G.1 (ρ (mr S s)) ≠ 0 by rw [hro.1]; decide)
  have la1 := lt _ (show G.1 (ρ (mr S s) + 1) ≠ 0 by rw [w1]; decide)
  have la2 := lt _ (show G.1 (ρ (mr S s) + 2) ≠ 0 by rw [w2]; decide)
  have l32 : l ≤ 32 := by rw [hl, ← hro.2.2.1]; exact w6
  obtain ⟨gWU, zU⟩ := gW_rc i2 i3 l32 hR
  obtain ⟨r1, ⟨r2, r3, r4, r5⟩, ⟨r6, r7, r8⟩, r9, r10, r11⟩ := hR
  have oU : ∀ q, q < N → eqA U T q := fun q hq => r1 q (by omega)
  have oS : ∀ q, ¬ (n + 1 ≤ q ∧ q ≤ n + 3) → eqA (bSet U n s (some N) (U.2.2.1 N 0) 0) U q := fun q hq => bSet_n hq
  have oT : ∀ q, q < N → ¬ (n + 1 ≤ q ∧ q ≤ n + 3) → eqA (bSet U n s (some N) (U.2.2.1 N 0) 0) T q := by
    intro q h1 h2
    obtain ⟨e1, e2, e3, e4, e5⟩ := oU q h1
    obtain ⟨f1, f2, f3, f4, f5⟩ := oS q h2
    exact ⟨f1.trans e1, f2.trans e2, f3.trans e3, f4.trans e4, f5.trans e5⟩
  refine ⟨fun q hq => ?_, ⟨gW_c gWU rfl rfl, zU, by omega⟩, ⟨(oT n (by omega) (by omega)).1.trans i5, fun w hw => (oT (n + 5 + w) (by omega) (by omega)).1.trans (i6 w hw)⟩, fun s' hs' => ?_, fun s' hs' hr' => ?_, fun s' t' h1 h2 h3 h4 h5 => ?_⟩
  · obtain ⟨e1, e2, e3, e4, e5⟩ := i1 q hq
    obtain ⟨f1, f2, f3, f4, f5⟩ := oT q (by omega) (by omega)
    exact ⟨f1.trans e1, f2.trans e2, f3.trans e3, f4.trans e4, f5.trans e5⟩
  · by_cases c : s' = s
    · subst c
      refine Or.inl ⟨hrow, ?_, ?_, ?_, ?_⟩
      · rw [bSet_R, if_pos rfl, hκ1]
      · rw [bSet_I2, if_pos rfl, r9, (i1 _ la).2.2.1]
        exact hro.2.1
      · rw [bSet_I3, if_pos rfl]
      · rw [hκ1]
        have eN := oS N (by omega)
        have eN1 := oS (N + 1) (by omega)
        have eN2 := oS (N + 2) (by omega)
        refine ⟨eN.1.trans r2, ?_, ?_, fun p hp => ?_⟩
        · rw [eN.2.2.1, r9, (i1 _ la).2.2.1]
          exact hro.2.1
        · rw [eN2.2.1, r7, hl]
        · obtain ⟨y1, y2⟩ := r10 p (by omega)
          rw [eN1.2.2.1, y1, eN2.2.2.2.1, y2, (i1 _ la1).2.2.1, (i1 _ la2).2.2.2.1]
          exact hro.2.2.2 p hp
    · have o1 := oU (n + 1) (by omega)
      have o2 := oU (n + 2) (by omega)
      have o3 := oU (n + 3) (by omega)
      refine bSl_at (i7 s' (by omega)) (by rw [bSet_R, if_neg c, o1.2.2.2.2]) (by rw [bSet_I2, if_neg c, o2.2.2.1]) (by rw [bSet_I3, if_neg c, o3.2.2.1]) (fun hr' => ?_)
      obtain ⟨k1, k2, _⟩ := i8 s' (by omega) hr'
      exact ⟨hκ2 _ (hnew s' (by omega) hr'), oT _ (by omega) (by omega), oT _ (by omega) (by omega), oT _ (by omega) (by omega)⟩
  · by_cases c : mr S s' = mr S s
    · rw [c, hκ1]
      refine ⟨by omega, by omega, fun p hp => ?_⟩
      rw [(oS (N + 3) (by omega)).2.2.1]
      exact r11 p
    · rw [hκ2 _ c]
      have cs : s' ≠ s := fun z => c (by rw [z])
      obtain ⟨k1, k2, k3⟩ := i8 s' (by omega) hr'
      refine ⟨k1, by omega, fun p hp => ?_⟩
      rw [(oT (κ (mr S s') + 3) (by omega) (by omega)).2.2.1]
      exact k3 p hp
  · by_cases c : mr S s' = mr S s
    · by_cases c' : mr S t' = mr S s
      · rw [c, c']
      · rw [c, hκ1, hκ2 _ c'] at h5
        have ct : t' ≠ s := fun z => c' (by rw [z])
        obtain ⟨_, k2, _⟩ := i8 t' (by omega) h4
        omega
    · have cs : s' ≠ s := fun z => c (by rw [z])
      by_cases c' : mr S t' = mr S s
      · rw [hκ2 _ c, c', hκ1] at h5
        obtain ⟨_, k2, _⟩ := i8 s' (by omega) h3
        omega
      · have ct : t' ≠ s := fun z => c' (by rw [z])
        rw [hκ2 _ c, hκ2 _ c'] at h5
        exact i9 s' t' (by omega) (by omega) h3 h4 h5
theorem bFh_lt (h : bFh G b s < s) : G.2.2.2.2 (b + 1) (bFh G b s) = G.2.2.2.2 (b + 1) s := by
  have := mUnl_no (f := fun q => !decide (G.2.2.2.2 (b + 1) q = G.2.2.2.2 (b + 1) s)) s 0 (by unfold bFh at h; omega)
  simpa [bFh] using this
theorem l25 (hb : bS G b ρ S) (hbI : bI S ρ) (hgW : gW G) (h0 : ∀ q, n ≤ q → G.1 q = 0) : ∀ d s N kc ks (T : GS) (κ : Nat → Nat) (s3 s4 : Slot), s + d = 10 → cpI T G n N S s κ → ∃ N' kc' ks' T' κ' s3' s4', X g 25 10 [.val (va_rf (some b)), .val (va_rf (some n)), .val (.int (nI s)), s3, s4] [] (gH N kc ks T) = X g 25 85 [.val (va_rf (some b)), .val (va_rf (some n)), .val (.int (nI 10)), s3', s4'] [] (gH N' kc' ks' T') ∧ cpI T' G n N' S 10 κ' ∧ N ≤ N' ∧ kc' ≤ kc + 4 * d ∧ ks' ≤ ks + 100 * d := by
  have hb9 := hb.1
  obtain ⟨w1, w2, w3, w4, w5, w6, w7, w8, w9⟩ := gW9 hgW hb9
  have lt : ∀ q, G.1 q ≠ 0 → q < n := fun q hq => Classical.byContradiction fun z => hq (h0 q (by omega))
  have lb := lt b (by rw [hb9]; decide)
  have lb1 := lt (b + 1) (by rw [w1]; decide)
  have lb2 := lt (b + 2) (by rw [w2]; decide)
  have lb3 := lt (b + 3) (by rw [w3]; decide)
  intro d
  induction d with
  | zero =>
    intro s N kc ks T κ s3 s4 hs hI
    have e : s = 10 := by omega
    subst e
    have h1 : (10 : Int32) ≤ nI 10 := Int32.le_refl _
    refine ⟨N, kc, ks, T, κ, s3, s4, ?_, hI, Nat.le_refl _, by omega, by omega⟩
    simp only [x25_10, x25_11, x25_13, h1, Option.bind_some, Option.toList_some, Option.toList_none, List.cons_append, List.nil_append, Option.isSome_some, if_true, eq_self, or_true, true_or, xb_01, mcl_cl, not_true_eq_false, not_false_eq_true, if_false]
  | succ d ih =>
    intro s N kc ks T κ s3 s4 hs hI
    have s10 : s < 10 := by omega
    have h1 : ¬ (10 : Int32) ≤ nI s := nI_ge (b := 10) s10 (by decide)
    have hx : xin (nI s) 10 = true := xin_nI s10 (by decide)
    have hc : (nI s).toNatClampNeg = s := nI_clamp (by omega)
    obtain ⟨sl1, sl2⟩ := sl_nI s10
    have e0 := hI.1 b lb
    have e1 := hI.1 (b + 1) lb1
    have e2 := hI.1 (b + 2) lb2
    have e3 := hI.1 (b + 3) lb3
    have t0 : T.1 b = 9 := e0.1.trans hb9
    have t1 : T.1 (b + 1) = 10 := e1.1.trans w1
    have t1' : T.2.1 (b + 1) = 10 := e1.2.1.trans w5
    have t2 : T.1 (b + 2) = 11 := e2.1.trans w2
    have t2' : T.2.1 (b + 2) = 10 := e2.2.1.trans w6
    have t3 : T.1 (b + 3) = 12 := e3.1.trans w3
    have t3' : T.2.1 (b + 3) = 10 := e3.2.1.trans w7
    have tn9 : T.1 n = 9 := hI.2.2.1.1
    have hwT := hI.2.1.1
    have k18 := c18 (g := g) (n := N) (kc := kc) (ks := ks) hwT t0 s10
    have eF : bFh T b s = bFh G b s := by unfold bFh; rw [e1.2.2.2.2]
    rw [eF] at k18
    have eR : T.2.2.2.2 (b + 1) s = G.2.2.2.2 (b + 1) s := by rw [e1.2.2.2.2]
    cases hrow : mRow S s with
    | false =>
      have hn : G.2.2.2.2 (b + 1) s = none := by
        rw [sf_G hb s10]
        unfold sf
        rw [if_neg (by rw [hrow]; simp)]
        rfl
      have k15 := c15 (g := g) (n := N) (kc := kc) (ks := ks) (i := nI s) (k := G.2.2.1 (b + 2) s) (j := G.2.2.1 (b + 3) s) hwT tn9 sl1
      rw [sl2] at k15
      have hI' : cpI (bSet T n s none (G.2.2.1 (b + 2) s) (G.2.2.1 (b + 3) s)) G n N S (s + 1) κ := by
        refine cpI_set hI ?_ (fun z => by rw [hrow] at z; exact absurd z (by simp))
        unfold bSl
        rw [bSet_R, if_pos rfl, bSet_I2, if_pos rfl, bSet_I3, if_pos rfl]
        rcases hb.2.1 s s10 with ⟨r0, _⟩ | ⟨r0, r1, r2⟩ | ⟨r0, r1, r2, r3⟩
        · rw [hrow] at r0
          exact absurd r0 (by simp)
        · exact Or.inr (Or.inl ⟨r0, rfl, r2⟩)
        · exact Or.inr (Or.inr ⟨r0, rfl, r2, r3⟩)
      obtain ⟨N', kc', ks', T', κ', s3', s4', i1, i2, i3, i4, i5⟩ := ih (s + 1) N kc ks _ κ (.val (va_rf none)) (.val (.int (nI (bFh G b s)))) (by omega) hI'
      refine ⟨N', kc', ks', T', κ', s3', s4', ?_, i2, i3, by omega, by omega⟩
      generalize X g 25 85 [.val (va_rf (some b)), .val (va_rf (some n)), .val (.int (nI 10)), s3', s4'] [] (gH N' kc' ks' T') = R at *
      simp only [x25_10, x25_11, x25_13, x25_16, x25_17, x25_20, x25_21, x25_22, x25_23, x25_24, x25_25, x25_28, x25_30, x25_31, x25_34, x25_35, x25_36, x25_37, x25_40, x25_41, x25_42, x25_43, x25_46, x25_47, x25_48, x25_51, x25_54, x25_56, x25_57, x25_60, x25_61, x25_62, x25_63, x25_66, x25_69, x25_72, x25_73, x25_74, x25_76, h1, gf_9_0 t0, gl_10 t1, t1', hx, hc, eR, hn, gc_9 t0, k18, gf_9_1 t0, gl_11 t2, t2', e2.2.2.1, gf_9_2 t0, gl_12 t3, t3', e3.2.2.1, gc_9 tn9, k15, Option.bind_some, Option.toList_some, Option.toList_none, List.cons_append, List.nil_append, Option.isSome_some, if_true, eq_self, or_true, true_or, xb_01, mcl_cl, not_true_eq_false, not_false_eq_true, if_false]
      simp only [x25_79, x25_82, nI_1]
      exact i1
    | true =>
      have hr : rIn S (mr S s) := ⟨s, s10, hrow, rfl⟩
      have hn : G.2.2.2.2 (b + 1) s = some (ρ (mr S s)) := by
        rw [sf_G hb s10]
        unfold sf
        rw [if_pos hrow]
        rfl
      have hsf : sf S s = some (mr S s) := by
        unfold sf
        rw [if_pos hrow]
      have hne : ¬ (some (ρ (mr S s)) = none) := by simp
      have hle := bFh_le (G := G) (b := b) (s := s)
      have hro := bS_row hb hr
      obtain ⟨v1, v2, v3, v4, v5, v6⟩ := hgW.1 _ hro.1
      have la := lt _ (show G.1 (ρ (mr S s)) ≠ 0 by rw [hro.1]; decide)
      have la2 := lt _ (show G.1 (ρ (mr S s) + 2) ≠ 0 by rw [v2]; decide)
      have ta : T.1 (ρ (mr S s)) = 1 := (hI.1 _ la).1.trans hro.1
      have tl : T.2.1 (ρ (mr S s) + 2) = mz S (mr S s) := (hI.1 _ la2).2.1.trans hro.2.2.1
      by_cases cf : bFh G b s = s
      · have hnew : ∀ f, f < s → mRow S f = true → ¬ mr S f = mr S s := by
          intro f hf hrf z
          have h9 := (bFh_hd hb hbI s10 hsf).mp cf
          have : hd (sf S) s (mr S s) = true := by
            rw [hd_iff]
            exact ⟨f, hf, by unfold sf; rw [if_pos hrf, z]⟩
          rw [this] at h9
          exact absurd h9 (by simp)
        obtain ⟨U, u1, u2⟩ := c74 (g := g) (kc := kc) (ks := ks) hwT hI.2.1.2.1 ta tl
        have hI' := cpI_row (κ' := fun r => if r = mr S s then N else κ r) hI hb hgW h0 s10 hrow hnew rfl u2 (if_pos rfl) (fun r hr => if_neg hr)
        have uw := (gW_rc hwT hI.2.1.2.1 (by rw [← hro.2.2.1]; exact v6) u2).1
        have hN11 := hI.2.1.2.2
        have un : U.1 n = 9 := (u2.1 n (by omega)).1.trans tn9
        have k14 := c14 (g := g) (n := N + 4) (kc := kc + 4) (ks := ks + 4 + mz S (mr S s) + mz S (mr S s) + mz S (mr S s)) (i := nI s) uw un u2.2.1.1 sl1
        rw [sl2] at k14
        have hm32 : mz S (mr S s) ≤ 32 := by rw [← hro.2.2.1]; exact v6
        obtain ⟨N', kc', ks', T', κ', s3', s4', i1, i2, i3, i4, i5⟩ := ih (s + 1) (N + 4) (kc + 4) (ks + 4 + mz S (mr S s) + mz S (mr S s) + mz S (mr S s)) _ _ (.val (va_rf (some (ρ (mr S s))))) (.val (.int (nI s))) (by omega) hI'
        refine ⟨N', kc', ks', T', κ', s3', s4', ?_, i2, by omega, by omega, by omega⟩
        generalize X g 25 85 [.val (va_rf (some b)), .val (va_rf (some n)), .val (.int (nI 10)), s3', s4'] [] (gH N' kc' ks' T') = R at *
        rw [cf] at k18
        simp only [x25_10, x25_11, x25_13, x25_16, x25_17, x25_20, x25_21, x25_22, x25_23, x25_24, x25_25, x25_28, x25_30, x25_31, x25_34, x25_35, x25_36, x25_37, x25_40, x25_41, x25_42, x25_43, x25_46, x25_47, x25_48, x25_51, x25_54, x25_56, x25_57, x25_60, x25_61, x25_62, x25_63, x25_66, x25_69, x25_72, x25_73, x25_74, x25_76, h1, gf_9_0 t0, gl_10 t1, t1', hx, hc, eR, hn, hne, gc_9 t0, k18, gc_1 ta, u1, gc_9 un, k14, Option.bind_some, Option.toList_some, Option.toList_none, List.cons_append, List.nil_append, Option.isSome_some, if_true, eq_self, or_true, true_or, xb_01, mcl_cl, not_true_eq_false, not_false_eq_true, if_false]
        simp only [x25_79, x25_82, nI_1]
        exact i1
      · have cl : bFh G b s < s := by omega
        have hf := bFh_lt cl
        have f10 : bFh G b s < 10 := by omega
        have hsf2 := (sf_bank hb hbI f10 s10).mp hf
        rw [hsf] at hsf2
        have hrf : mRow S (bFh G b s) = true ∧ mr S (bFh G b s) = mr S s := by
          unfold sf at hsf2
          by_cases c2 : mRow S (bFh G b s) = true
          · rw [if_pos c2] at hsf2
            injection hsf2 with hsf2
            exact ⟨c2, hsf2⟩
          · rw [if_neg c2] at hsf2
            exact absurd hsf2 (by simp)
        obtain ⟨fl1, fl2⟩ := sl_nI f10
        have hbf := hI.2.2.2.1 (bFh G b s) cl
        have k16 := c16 (g := g) (n := N) (kc := kc) (ks := ks) (i := nI s) (j := nI (bFh G b s)) hwT tn9 sl1 fl1 (by
          intro x hx'
          rw [fl2] at hx'
          rcases hbf with ⟨r0, r1, r2, r3, r4⟩ | ⟨r0, r1, _⟩ | ⟨r0, r1, _⟩
          · rw [r1] at hx'
            injection hx' with hx'
            rw [← hx']
            exact r4.1
          · rw [r1] at hx'
            exact absurd hx' (by simp)
          · rw [r1] at hx'
            exact absurd hx' (by simp))
        rw [sl2, fl2] at k16
        have hI' : cpI (bSet T n s (T.2.2.2.2 (n + 1) (bFh G b s)) (T.2.2.1 (n + 2) (bFh G b s)) (T.2.2.1 (n + 3) (bFh G b s))) G n N S (s + 1) κ := by
          refine cpI_set hI ?_ (fun _ => ⟨bFh G b s, cl, hrf.1, hrf.2⟩)
          rcases hbf with ⟨r0, r1, r2, r3, r4⟩ | ⟨r0, _⟩ | ⟨r0, _⟩
          · refine Or.inl ⟨hrow, ?_, ?_, ?_, ?_⟩
            · rw [bSet_R, if_pos rfl, r1, hrf.2]
            · rw [bSet_I2, if_pos rfl, r2, hrf.2]
            · rw [bSet_I3, if_pos rfl, r3]
            · rw [hrf.2] at r4
              obtain ⟨k1, k2, _⟩ := hI.2.2.2.2.1 (bFh G b s) cl hrf.1
              rw [hrf.2] at k1 k2
              exact bRo_at (bSet_n (by omega)) (bSet_n (by omega)) (bSet_n (by omega)) r4
          · exact absurd hrf.1 (by unfold mRow; rw [r0]; decide)
          · exact absurd hrf.1 (by unfold mRow; rcases r0 with r0 | r0 <;> rw [r0] <;> decide)
        obtain ⟨N', kc', ks', T', κ', s3', s4', i1, i2, i3, i4, i5⟩ := ih (s + 1) N kc ks _ κ (.val (va_rf (some (ρ (mr S s))))) (.val (.int (nI (bFh G b s)))) (by omega) hI'
        refine ⟨N', kc', ks', T', κ', s3', s4', ?_, i2, i3, by omega, by omega⟩
        generalize X g 25 85 [.val (va_rf (some b)), .val (va_rf (some n)), .val (.int (nI 10)), s3', s4'] [] (gH N' kc' ks' T') = R at *
        have cf' : ¬ nI (bFh G b s) = nI s := fun z => cf ((nI_eq (by omega) (by omega)).mp z)
        simp only [x25_10, x25_11, x25_13, x25_16, x25_17, x25_20, x25_21, x25_22, x25_23, x25_24, x25_25, x25_28, x25_30, x25_31, x25_34, x25_35, x25_36, x25_37, x25_40, x25_41, x25_42, x25_43, x25_46, x25_47, x25_48, x25_51, x25_54, x25_56, x25_57, x25_60, x25_61, x25_62, x25_63, x25_66, x25_69, x25_72, x25_73, x25_74, x25_76, h1, gf_9_0 t0, gl_10 t1, t1', hx, hc, eR, hn, hne, gc_9 t0, k18, cf', gc_9 tn9, k16, Option.bind_some, Option.toList_some, Option.toList_none, List.cons_append, List.nil_append, Option.isSome_some, if_true, eq_self, or_true, true_or, xb_01, mcl_cl, not_true_eq_false, not_false_eq_true, if_false]
        simp only [x25_79, x25_82, nI_1]
        exact i1
end K55
