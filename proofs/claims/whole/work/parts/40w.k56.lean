/-! THE CLASS beside the reference, 38: image -/
section K56
variable {g : xG} {n kc ks a b c s w q l x y d r p n' e m N hh ww kb : Nat} {G T T' U G1 G2 : GS} {h : xH} {i j k v i1 i2 : Int32} {u z : Int64} {S S1 S' : MS} {ρ κ κ' : Nat → Nat} {L : List Nat} {o : Option Nat}
theorem wSet_o (h : q ≠ a) : eqA (wSet T a i j k v i1) T q := by
  refine ⟨rfl, rfl, ?_, rfl, rfl⟩
  funext e
  simp [wSet, gsI, h]
theorem wSet_at : (wSet T a i j k v i1).2.2.1 a e = if e = 0 then i else if e = 1 then j else if e = 2 then k else if e = 3 then v else if e = 4 then i1 else T.2.2.1 a e := by
  show (if a = a ∧ e = 4 then i1 else if a = a ∧ e = 3 then v else if a = a ∧ e = 2 then k else if a = a ∧ e = 1 then j else if a = a ∧ e = 0 then i else T.2.2.1 a e) = _
  by_cases e0 : e = 0
  · subst e0; simp
  · by_cases e1 : e = 1
    · subst e1; simp
    · by_cases e2 : e = 2
      · subst e2; simp
      · by_cases e3 : e = 3
        · subst e3; simp
        · by_cases e4 : e = 4
          · subst e4; simp
          · simp [e0, e1, e2, e3, e4]
theorem cpI_win (hw : w < 6) (hI : cpI T G n N S s κ) : cpI (wSet T (n + 5 + w) i j k v i1) G n N S s κ := by
  obtain ⟨i1', ⟨i2', i3', i4'⟩, ⟨i5', i6'⟩, i7', i8', i9'⟩ := hI
  have o : ∀ q, q ≠ n + 5 + w → eqA (wSet T (n + 5 + w) i j k v i1) T q := fun q hq => wSet_o hq
  refine ⟨fun q hq => ?_, ⟨gW_c i2' rfl rfl, i3', i4'⟩, ⟨i5', i6'⟩, fun s' hs' => ?_, fun s' hs' hrow => ?_, i9'⟩
  · obtain ⟨e1, e2, e3, e4, e5⟩ := i1' q hq
    obtain ⟨f1, f2, f3, f4, f5⟩ := o q (by omega)
    exact ⟨f1.trans e1, f2.trans e2, f3.trans e3, f4.trans e4, f5.trans e5⟩
  · refine bSl_at (i7' s' hs') (by rw [(o (n + 1) (by omega)).2.2.2.2]) (by rw [(o (n + 2) (by omega)).2.2.1]) (by rw [(o (n + 3) (by omega)).2.2.1]) (fun hrow => ?_)
    obtain ⟨k1, k2, _⟩ := i8' s' hs' hrow
    exact ⟨rfl, o _ (by omega), o _ (by omega), o _ (by omega)⟩
  · obtain ⟨k1, k2, k3⟩ := i8' s' hs' hrow
    refine ⟨k1, k2, fun p hp => ?_⟩
    rw [(o (κ (mr S s') + 3) (by omega)).2.2.1]
    exact k3 p hp
theorem l25w (hb9 : G.1 b = 9) (hgW : gW G) (h0 : ∀ q, n ≤ q → G.1 q = 0) : ∀ d w (T : GS) (s3 s4 : Slot), w + d = 6 → cpI T G n N S 10 κ → (∀ w' k, w' < w → k < 5 → T.2.2.1 (n + 5 + w') k = G.2.2.1 (b + 5 + w') k) → ∃ T', X g 25 87 [.val (va_rf (some b)), .val (va_rf (some n)), .val (.int (nI w)), s3, s4] [] (gH N kc ks T) = some (some (va_rf (some n)), gH N kc ks T') ∧ cpI T' G n N S 10 κ ∧ ∀ w' k, w' < 6 → k < 5 → T'.2.2.1 (n + 5 + w') k = G.2.2.1 (b + 5 + w') k := by
  obtain ⟨w1, w2, w3, w4, w5, w6, w7, w8, w9⟩ := gW9 hgW hb9
  have lt : ∀ q, G.1 q ≠ 0 → q < n := fun q hq => Classical.byContradiction fun z => hq (h0 q (by omega))
  have lb := lt b (by rw [hb9]; decide)
  have lb4 := lt (b + 4) (by rw [w4]; decide)
  intro d
  induction d with
  | zero =>
    intro w T s3 s4 hw hI hT
    have e : w = 6 := by omega
    subst e
    have t0 : T.1 b = 9 := (hI.1 b lb).1.trans hb9
    have t4 : T.1 (b + 4) = 13 := (hI.1 _ lb4).1.trans w4
    have t4' : T.2.1 (b + 4) = 6 := (hI.1 _ lb4).2.1.trans w8
    have h1 : nI 6 ≤ nI 6 := Int32.le_refl _
    refine ⟨T, ?_, hI, hT⟩
    simp only [x25_87, x25_88, x25_89, x25_92, x25_93, x25_150, x25_151, gf_9_3 t0, gN_13 t4, t4', h1, Option.bind_some, Option.toList_some, Option.toList_none, List.cons_append, List.nil_append, Option.isSome_some, if_true, eq_self, or_true, true_or, xb_01, mcl_cl, not_true_eq_false, not_false_eq_true, if_false]
  | succ d ih =>
    intro w T s3 s4 hw hI hT
    have w6' : w < 6 := by omega
    have t0 : T.1 b = 9 := (hI.1 b lb).1.trans hb9
    have t4 : T.1 (b + 4) = 13 := (hI.1 _ lb4).1.trans w4
    have t4' : T.2.1 (b + 4) = 6 := (hI.1 _ lb4).2.1.trans w8
    have lw := lt (b + 5 + w) (by rw [w9 w w6']; decide)
    have ew := hI.1 (b + 5 + w) lw
    have tw : T.1 (b + 5 + w) = 14 := ew.1.trans (w9 w w6')
    have twn : T.1 (n + 5 + w) = 14 := hI.2.2.1.2 w w6'
    have h1 : ¬ nI 6 ≤ nI w := nI_ge w6' (by omega)
    have hx : xin (nI w) 6 = true := xin_nI w6' (by decide)
    have hc : (nI w).toNatClampNeg = w := nI_clamp (by omega)
    have hm : mSl (nI w) = true := by
      unfold mSl
      exact mWithin_iff.mpr ⟨by rw [nI_toInt (by omega)]; omega, by rw [nI_toInt (by omega)]; omega⟩
    have k13 := c13 (g := g) (n := N) (kc := kc) (ks := ks) (i := nI w) hI.2.1.1 hI.2.2.1.1
    unfold bWin at k13
    rw [if_pos hm, tn_nI (by omega)] at k13
    have k90 := c90 (g := g) (n := N) (kc := kc) (ks := ks) (i := G.2.2.1 (b + 5 + w) 0) (j := G.2.2.1 (b + 5 + w) 1) (k := G.2.2.1 (b + 5 + w) 2) (m := G.2.2.1 (b + 5 + w) 3) (p := G.2.2.1 (b + 5 + w) 4) twn
    have hI' : cpI (wSet T (n + 5 + w) (G.2.2.1 (b + 5 + w) 0) (G.2.2.1 (b + 5 + w) 1) (G.2.2.1 (b + 5 + w) 2) (G.2.2.1 (b + 5 + w) 3) (G.2.2.1 (b + 5 + w) 4)) G n N S 10 κ := cpI_win w6' hI
    have n1 : ¬ (some (b + 4 + 1 + w) = none) := by simp
    have n2 : ¬ (some (n + 5 + w) = none) := by simp
    obtain ⟨T', g1, g2, g3⟩ := ih (w + 1) _ (.val (va_rf (some (b + 4 + 1 + w)))) (.val (va_rf (some (n + 5 + w)))) (by omega) hI' (by
      intro w' k' hw' hk'
      by_cases cw : w' = w
      · subst cw
        rw [wSet_at]
        rcases (show k' = 0 ∨ k' = 1 ∨ k' = 2 ∨ k' = 3 ∨ k' = 4 by omega) with h | h | h | h | h <;> subst h <;> rfl
      · rw [(wSet_o (show n + 5 + w' ≠ n + 5 + w by omega)).2.2.1]
        exact hT w' k' (by omega) hk')
    refine ⟨T', ?_, g2, g3⟩
    have tw' : T.1 (b + 4 + 1 + w) = 14 := tw
    have ew' : T.2.2.1 (b + 4 + 1 + w) = G.2.2.1 (b + 5 + w) := ew.2.2.1
    simp only [x25_87, x25_88, x25_89, x25_92, x25_93, x25_96, x25_97, x25_100, x25_101, x25_102, x25_103, x25_104, x25_105, x25_108, x25_110, x25_111, x25_114, x25_116, x25_119, x25_121, x25_122, x25_125, x25_126, x25_129, x25_130, x25_133, x25_134, x25_137, x25_138, x25_141, gf_9_3 t0, gN_13 t4, t4', h1, gl_13 t4, hx, hc, gc_9 hI.2.2.1.1, k13, n1, n2, gf_14_0 tw', gf_14_1 tw', gf_14_2 tw', gf_14_3 tw', gf_14_4 tw', ew', gc_14 twn, k90, Option.bind_some, Option.toList_some, Option.toList_none, List.cons_append, List.nil_append, Option.isSome_some, if_true, eq_self, or_true, true_or, xb_01, mcl_cl, not_true_eq_false, not_false_eq_true, if_false]
    simp only [x25_144, x25_147, nI_1]
    exact g1
/-- a bank copied -/
theorem c25 (hb : bS G b ρ S) (hbI : bI S ρ) (hgW : gW G) (h0 : ∀ q, n ≤ q → G.1 q = 0) : ∃ N' kc' ks' T κ, X g 25 0 [.val (va_rf (some b)), .unset, .unset, .unset, .unset] [] (gH n kc ks G) = some (some (va_rf (some n)), gH N' kc' ks' T) ∧ (∀ q, q < n → eqA T G q) ∧ gW T ∧ (∀ q, N' ≤ q → T.1 q = 0) ∧ n + 11 ≤ N' ∧ bS T n κ S ∧ bI S κ ∧ (∀ r, rIn S r → n + 11 ≤ κ r ∧ ∀ p, p < mz S r → T.2.2.1 (κ r + 3) p = 0) ∧ kc' ≤ kc + 51 ∧ ks' ≤ ks + 1070 := by
  obtain ⟨T0, t1, t2⟩ := c7 (g := g) (n := n) (kc := kc + 1) (ks := ks + 4) (G := G)
  obtain ⟨f1, ⟨f2, f3, f4, f5, f6, f7⟩, ⟨f8, f9, f10, f11⟩, ⟨f12, f13, f14⟩, f15⟩ := t2
  have z0 : ∀ q, n + 11 ≤ q → T0.1 q = 0 := fun q hq => by rw [(f1 q (by omega)).1]; exact h0 q (by omega)
  have hI0 : cpI T0 G n (n + 11) S 0 (fun _ => 0) := by
    refine ⟨fun q hq => f1 q (by omega), ⟨gW_add hgW h0 (fun q hq => ⟨(f1 q (by omega)).1, (f1 q (by omega)).2.1⟩) (fun q hq => ?_), z0, Nat.le_refl _⟩, ⟨f2, f7⟩, fun s' hs' => by omega, fun s' hs' => by omega, fun s' t' hs' => by omega⟩
    have hq' : q = n ∨ q = n + 1 ∨ q = n + 2 ∨ q = n + 3 ∨ q = n + 4 ∨ (∃ w, w < 6 ∧ q = n + 5 + w) ∨ n + 11 ≤ q := by
      by_cases c : n + 5 ≤ q ∧ q < n + 11
      · exact Or.inr (Or.inr (Or.inr (Or.inr (Or.inr (Or.inl ⟨q - (n + 5), by omega, by omega⟩)))))
      · omega
    rcases hq' with h | h | h | h | h | ⟨w, hw, h⟩ | h
    · rw [h, f2]
      exact ⟨fun z => by omega, fun z => by omega, fun _ => ⟨f3, f4, f5, f6, f8, f9, f10, f11, f7⟩⟩
    · rw [h, f3]; exact ⟨fun z => by omega, fun z => by omega, fun z => by omega⟩
    · rw [h, f4]; exact ⟨fun z => by omega, fun z => by omega, fun z => by omega⟩
    · rw [h, f5]; exact ⟨fun z => by omega, fun z => by omega, fun z => by omega⟩
    · rw [h, f6]; exact ⟨fun z => by omega, fun z => by omega, fun z => by omega⟩
    · rw [h, f7 w hw]; exact ⟨fun z => by omega, fun z => by omega, fun z => by omega⟩
    · rw [z0 q h]; exact ⟨fun z => by omega, fun z => by omega, fun z => by omega⟩
  obtain ⟨N', kc', ks', T1, κ, s3, s4, g1, g2, g3, g4, g5⟩ := l25 (g := g) hb hbI hgW h0 10 0 (n + 11) (kc + 1 + 10) (ks + 4 + 66) T0 (fun _ => 0) .unset .unset (by omega) hI0
  obtain ⟨T2, u1, u2, u3⟩ := l25w (g := g) (kc := kc') (ks := ks') (N := N') (S := S) (κ := κ) hb.1 hgW h0 6 0 T1 s3 s4 (by omega) g2 (fun w' k hw' => by omega)
  have g1' : X g 25 10 [.val (va_rf (some b)), .val (va_rf (some n)), .val (.int 0), .unset, .unset] [] (gH (n + 11) (kc + 1 + 10) (ks + 4 + 66) T0) = _ := g1
  have u1' : X g 25 87 [.val (va_rf (some b)), .val (va_rf (some n)), .val (.int 0), s3, s4] [] (gH N' kc' ks' T1) = _ := u1
  obtain ⟨v1, ⟨v2, v3, v4⟩, ⟨v5, v6⟩, v7, v8, v9⟩ := u2
  refine ⟨N', kc', ks', T2, κ, ?_, v1, v2, v3, v4, ⟨v5, fun s hs => v7 s hs, fun w k hw hk => ?_⟩, ?_, ?_, by omega, by omega⟩
  · simp only [x25_0, x25_3, x25_4, x25_7, x25_8, x25_9, gn_31', gH1, t1, Option.bind_some, Option.toList_some, Option.toList_none, List.cons_append, List.nil_append, Option.isSome_some, if_true, eq_self, or_true, true_or, xb_01, mcl_cl, not_true_eq_false, not_false_eq_true, if_false]
    rw [g1']
    simp only [x25_85, x25_86, Option.bind_some, Option.toList_some, Option.toList_none, List.cons_append, List.nil_append, Option.isSome_some, if_true, eq_self, or_true, true_or, xb_01, mcl_cl, not_true_eq_false, not_false_eq_true, if_false]
    exact u1'
  · rw [u3 w k hw hk]
    exact hb.2.2 w k hw hk
  · rintro r r' ⟨s, s1, s2, s3⟩ ⟨t, t1, t2, t3⟩ h5
    rw [← s3, ← t3]
    exact v9 s t s1 t1 s2 t2 (by rw [s3, t3]; exact h5)
  · rintro r ⟨s, s1, s2, s3⟩
    obtain ⟨y1, y2, y3⟩ := v8 s s1 s2
    rw [s3] at y1 y3
    exact ⟨y1, y3⟩
/-- a bank as far as it is looked at -/
theorem bS_cgB (hz : mZ S) (h2 : ∀ r, r < 10 → S'.2.2.1 2 r = S.2.2.1 2 r) (h3 : ∀ r, r < 10 → S'.2.2.1 3 r = S.2.2.1 3 r) (h5 : ∀ q, q < 320 → S'.2.2.1 5 q = S.2.2.1 5 q) (h6 : ∀ q, q < 320 → S'.2.2.2 6 q = S.2.2.2 6 q) (h7 : ∀ s, s < 10 → S'.2.2.1 7 s = S.2.2.1 7 s) (h8 : ∀ s, s < 10 → S'.2.2.1 8 s = S.2.2.1 8 s) (h12 : ∀ q, q < 30 → S'.2.2.1 12 q = S.2.2.1 12 q) (hB : bS G b ρ S) : bS G b ρ S' := by
  obtain ⟨b1, b2, b3⟩ := hB
  refine ⟨b1, fun s hs => ?_, fun w k hw hk => by rw [h12 _ (by omega)]; exact b3 w k hw hk⟩
  obtain ⟨z1, z2⟩ := mRow_cg (h7 s hs)
  unfold bSl
  rw [z1, z2, h7 s hs, h8 s hs]
  rcases b2 s hs with ⟨r0, r1, r2, r3, r4⟩ | r | r
  · have hr := (mRow_eq r0).2
    have hm := (mz_eq hz hr).2
    refine Or.inl ⟨r0, r1, by rw [h2 _ hr]; exact r2, r3, ?_⟩
    obtain ⟨q1, q2, q3, q4⟩ := r4
    have hmz : mz S' (mr S s) = mz S (mr S s) := by unfold mz; rw [h3 _ hr]
    refine ⟨q1, by rw [h2 _ hr]; exact q2, by rw [hmz]; exact q3, fun p hp => ?_⟩
    rw [hmz] at hp
    rw [h5 _ (by omega), h6 _ (by omega)]
    exact q4 p hp
  · exact Or.inr (Or.inl r)
  · exact Or.inr (Or.inr r)
theorem mOk_cgB (h2 : ∀ r, r < 10 → S'.2.2.1 2 r = S.2.2.1 2 r) (h3 : ∀ r, r < 10 → S'.2.2.1 3 r = S.2.2.1 3 r) (h5 : ∀ q, q < 320 → S'.2.2.1 5 q = S.2.2.1 5 q) (h6 : ∀ q, q < 320 → S'.2.2.2 6 q = S.2.2.2 6 q) (h12 : ∀ q, q < 30 → S'.2.2.1 12 q = S.2.2.1 12 q) (hO : mOk S) : mOk S' := by
  obtain ⟨o1, o2, o3, o4, o5, o6⟩ := hO
  refine ⟨fun r hr => by rw [h3 r hr]; exact o1 r hr, fun q hq => by rw [h5 q hq, h6 q hq]; exact o2 q hq, fun r p hr hp h8 => ?_, fun w hw => ?_, fun r hr => by rw [h2 r hr]; exact o5 r hr, fun q hq => by rw [h5 q hq, h6 q hq]; exact o6 q hq⟩
  · rw [h2 r hr] at h8 ⊢
    rw [h5 _ (by omega)]
    exact o3 r p hr hp h8
  · rw [h12 _ (by omega), h12 _ (by omega), h12 _ (by omega)]
    exact o4 w hw
theorem rIn_cgB (h7 : ∀ s, s < 10 → S'.2.2.1 7 s = S.2.2.1 7 s) : rIn S' r ↔ rIn S r := by
  constructor
  · rintro ⟨s, s1, s2, s3⟩
    obtain ⟨z1, z2⟩ := mRow_cg (h7 s s1)
    exact ⟨s, s1, by rw [← z1]; exact s2, by rw [← z2]; exact s3⟩
  · rintro ⟨s, s1, s2, s3⟩
    obtain ⟨z1, z2⟩ := mRow_cg (h7 s s1)
    exact ⟨s, s1, by rw [z1]; exact s2, by rw [z2]; exact s3⟩
theorem agr_lt (hL : gL g G c n) (h : ∀ q, q < n → eqA T G q) : agr T G [0] := fun q hq => h q (gL_lt hL (fun z => hq (by rw [z]; decide)))
theorem s124 (hA : rA g G c n b ρ S) (hp : G.2.2.1 (c + 7) 1 = 0) : sim g c n kc ks G 124 [.val (va_rf (some c))] (.int (nI (sRows S))) (mImg S) := by
  have k0 : G.1 c = 15 := hA.1.2.1.1
  have hb := hA.2.1
  have hB := hA.2.2.1
  have h0 := hA.1.2.2.2.2.2.2
  obtain ⟨N', kc', ks', T, κ, g1, g2, g3, g4, g5, g6, g7, g8, g9, g10⟩ := c25 (g := g) (kc := kc) (ks := ks) hB hA.2.2.2.1 hA.1.1 h0
  have hag : agr T G [0] := agr_lt hA.1 g2
  have hLT : gL g T c N' := gL_grow hA.1 g3 (fun q hq => (g2 q hq).1) (fun q hq => (g2 q hq).2.1) (by omega) g4
  obtain ⟨_, k1, k2, k3, ⟨k4, _⟩, ⟨k5, _⟩, ⟨k6, _⟩, k7, ⟨k8, _⟩, ⟨k9, _⟩, k10, ⟨k11, _⟩, ⟨k12, _⟩, k13, ⟨k14, _⟩, ⟨k15, _⟩⟩ := hA.1.2.1
  have x1 := hag (c + 1) (by rw [k1]; decide)
  have x7 := hag (c + 7) (by rw [k7]; decide)
  have hA1 : rA g T c N' b ρ S := rA_agr hag (by decide) (by rw [x7.2.2.1]) (by rw [x7.2.2.1]) (by rw [x1.2.2.1]) (by rw [x1.2.2.2.1]) hLT hA
  have t0 : T.1 c = 15 := hLT.2.1.1
  have hbT : T.1 b = 9 := hA1.2.2.1.1
  -- what the reference keeps
  have m43 : (mImg S).1 43 = 1 := by simp [mImg, mCq, mCp, msI]
  have mI' : ∀ q, q ≠ 43 → (mImg S).1 q = S.1 q := fun q hq => by simp [mImg, mCq, mCp, msI, hq]
  have mL' : (mImg S).2.1 = S.2.1 := rfl
  have mA' : ∀ q, ¬ q ∈ [44, 45, 46, 48, 49, 50] → (mImg S).2.2.1 q = S.2.2.1 q := by
    intro q hq
    simp only [List.mem_cons, List.not_mem_nil, or_false, not_or] at hq
    funext t
    simp [mImg, mCq, mCp, msI, hq.1, hq.2.1, hq.2.2.1, hq.2.2.2.1, hq.2.2.2.2.1, hq.2.2.2.2.2]
  have mB' : ∀ q, q ≠ 47 → (mImg S).2.2.2 q = S.2.2.2 q := by
    intro q hq
    funext t
    simp [mImg, mCq, mCp, msI, hq]
  have q2 : ∀ r, r < 10 → (mKp (mImg S)).2.2.1 2 r = S.2.2.1 2 r := fun r hr => by
    show (mImg S).2.2.1 44 r = _
    simp [mImg, mCq, mCp, msI, hr]
  have q3 : ∀ r, r < 10 → (mKp (mImg S)).2.2.1 3 r = S.2.2.1 3 r := fun r hr => by
    show (mImg S).2.2.1 45 r = _
    simp [mImg, mCq, mCp, msI, hr]
  have q5 : ∀ r, r < 320 → (mKp (mImg S)).2.2.1 5 r = S.2.2.1 5 r := fun r hr => by
    show (mImg S).2.2.1 46 r = _
    simp [mImg, mCq, mCp, msI, hr]
  have q7 : ∀ r, r < 10 → (mKp (mImg S)).2.2.1 7 r = S.2.2.1 7 r := fun r hr => by
    show (mImg S).2.2.1 48 r = _
    simp [mImg, mCq, mCp, msI, hr]
  have q8 : ∀ r, r < 10 → (mKp (mImg S)).2.2.1 8 r = S.2.2.1 8 r := fun r hr => by
    show (mImg S).2.2.1 49 r = _
    simp [mImg, mCq, mCp, msI, hr]
  have q12 : ∀ r, r < 30 → (mKp (mImg S)).2.2.1 12 r = S.2.2.1 12 r := fun r hr => by
    show (mImg S).2.2.1 50 r = _
    simp [mImg, mCq, mCp, msI, hr]
  have q6 : ∀ r, r < 320 → (mKp (mImg S)).2.2.2 6 r = S.2.2.2 6 r := fun r hr => by
    show (mImg S).2.2.2 47 r = _
    simp [mImg, mCq, mCp, msI, hr]
  have hAg2 : agr (gsR T c 10 (some n)) T [15] := agr_R (by rw [t0]; decide)
  have LB : ¬ 1 ∈ [15] ∧ ¬ 2 ∈ [15] ∧ ¬ 3 ∈ [15] ∧ ¬ 9 ∈ [15] ∧ ¬ 10 ∈ [15] ∧ ¬ 11 ∈ [15] ∧ ¬ 12 ∈ [15] ∧ ¬ 14 ∈ [15] := by decide
  generalize mImg S = S' at *
  obtain ⟨a1, a2, a3, a4, a5, a6, a7, a8, a9⟩ := hA1
  have hin : ∀ r, rIn S' r ↔ rIn S r := fun r => rIn_ev (mA' 7 (by decide))
  have hG' : rA g (gsR T c 10 (some n)) c N' b ρ S' := by
    refine ⟨gL_same rfl rfl a1, ?_, bS_ev (mA' 2 (by decide)) (mA' 3 (by decide)) (mA' 5 (by decide)) (mA' 7 (by decide)) (mA' 8 (by decide)) (mA' 12 (by decide)) (mB' 6 (by decide)) (bS_agr a1.1 hAg2 LB a3), ?_, ?_, ?_, ?_, ?_, ?_⟩
    · rw [gsR5, if_neg (by omega)]
      exact a2
    · intro r r' z1 z2
      exact a4 r r' ((hin r).mp z1) ((hin r').mp z2)
    · intro r hr
      have := a5 r ((hin r).mp hr)
      unfold mz
      rw [mA' 3 (by decide), mA' 4 (by decide)]
      exact this
    · refine Or.inr ⟨m43, mOk_cgB q2 q3 q5 q6 q12 a9.1, n, κ, by rw [gsR5, if_pos ⟨rfl, rfl⟩], bS_cgB a9.1.1 q2 q3 q5 q6 q7 q8 q12 (bS_agr a1.1 hAg2 LB g6), ?_, ?_, ?_⟩
      · intro r r' z1 z2
        exact g7 r r' ((rIn_cgB q7).mp z1) ((rIn_cgB q7).mp z2)
      · intro r r' z1 z2 z3
        have y1 := (g8 r' ((rIn_cgB q7).mp z2)).1
        have y2 := gL_lt hA.1 (show G.1 (ρ r) ≠ 0 by rw [(bS_row hB ((hin r).mp z1)).1]; decide)
        omega
      · rw [gsR5, if_neg (by omega), a2]
        intro z
        injection z with z
        have := gL_lt hA.1 (show G.1 b ≠ 0 by rw [hB.1]; decide)
        omega
    · obtain ⟨b1, b2, b3, b4, b5⟩ := a7
      have y9 : (gsR T c 10 (some n)).2.2.2.2 (c + 9) = T.2.2.2.2 (c + 9) := (hAg2 (c + 9) (by rw [a1.2.1.2.2.2.2.2.2.2.2.2.1.1]; decide)).2.2.2.2
      refine ⟨by rw [mI' 24 (by decide)]; exact b1, by rw [mI' 23 (by decide)]; exact b2, by rw [mI' 24 (by decide), mI' 23 (by decide)]; exact b3, fun e z he hz => by rw [y9] at hz; exact b4 e z he hz, fun w hw => ?_⟩
      rw [mI' 23 (by decide)] at hw
      obtain ⟨t, t1, t2, t3, t4, t5, t6⟩ := rAc_agr a1.1 hAg2 ⟨by decide, by decide, by decide⟩ (by rw [a1.2.1.2.2.2.2.2.2.2.2.2.1.1]; decide) (b5 w hw)
      unfold rAc
      rw [mA' 22 (by decide), mA' 17 (by decide), mA' 18 (by decide), mA' 20 (by decide), mB' 19 (by decide), mB' 21 (by decide)]
      exact ⟨t, t1, t2, t3, t4, t5, rPu_ev (mA' 7 (by decide)) (mA' 2 (by decide)) (mA' 3 (by decide)) t6⟩
    · unfold rMs
      rw [mI' 10 (by decide), mL', mA' 9 (by decide), mI' 25 (by decide), mA' 26 (by decide), mI' 30 (by decide), mA' 29 (by decide), mI' 34 (by decide), mA' 33 (by decide)]
      exact a8
    · obtain ⟨b1, b2, b3, b4, b5, b6⟩ := a9
      refine ⟨mOk_c b1 (fun i => by rw [mA' 2 (by decide)]) (fun i => by rw [mA' 3 (by decide)]) (fun i => by rw [mA' 12 (by decide)]) (fun q hq => by rw [mA' 5 (by decide), mB' 6 (by decide)]; exact okc_self b1 hq), by rw [mI' 10 (by decide), mL']; exact b2, by rw [mI' 34 (by decide), mA' 33 (by decide)]; exact b3, by rw [mI' 30 (by decide)]; exact b4, ?_, by rw [mI' 25 (by decide)]; exact b6⟩
      unfold mLt
      rw [mA' 32 (by decide)]
      exact b5
  have hb' : (gsR T c 10 (some n)).2.2.2.2 c 9 = some b := hG'.2.1
  have k22 := c22 (g := g) (n := N') (kc := kc') (ks := ks') hG'.1.1 hG'.2.2.1.1
  have hrows := rows_eq hG'.2.2.1 hG'.2.2.2.1
  rw [hrows, sRows_c (fun t => congrFun (mA' 7 (by decide)) t)] at k22
  refine ⟨N', kc', ks', gsR T c 10 (some n), b, ρ, ?_, hG', ?_, by omega, by omega, by omega, fun q hq => (g2 q hq).1⟩
  · simp only [x124_0, x124_1, x124_2, x124_5, x124_8, x124_11, x124_12, x124_15, x124_18, gf_15_9 k0, hb, gc_9 hB.1, g1, gf_15_10 t0, gp_15_10 t0, Option.isSome_some, if_true, gf_15_9 hG'.1.2.1.1, hb', gc_9 hG'.2.2.1.1, k22, Option.bind_some, Option.toList_some, Option.toList_none, List.cons_append, List.nil_append, Option.isSome_some, if_true, eq_self, or_true, true_or, xb_01, mcl_cl, not_true_eq_false, not_false_eq_true, if_false]
  · show T.2.2.1 (c + 7) 1 = 0
    rw [x7.2.2.1]
    exact hp
end K56
