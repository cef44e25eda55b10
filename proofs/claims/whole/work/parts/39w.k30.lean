/-! THE CLASS beside the reference, 17: what is alike, digests -/
section K30
variable {g : xG} {n kc ks a b c s t w q l x y jn d r p n' e kb : Nat} {G T U : GS} {h : xH} {i j k m v i1 i2 : Int32} {u z : Int64} {o : Option Nat} {S S1 S' : MS} {ρ κ : Nat → Nat} {L L' : List Nat} {cnt : Nat} {at' wk ik : Nat → Int32} {wv iv : Nat → Int64}
theorem ro_cell (hA : rA g G c n b ρ S) (hr : rIn S r) (hs : s < mz S r) : X g 67 0 [.val (va_rf (some (ρ r))), .val (.int (nI s))] [] (gH n kc ks G) = some (some (.int (S.2.2.1 5 (32 * r + s))), gH n kc ks G) ∧ X g 68 0 [.val (va_rf (some (ρ r))), .val (.int (nI s))] [] (gH n kc ks G) = some (some (.long (S.2.2.2 6 (32 * r + s))), gH n kc ks G) ∧ okb (S.2.2.1 5 (32 * r + s)) (S.2.2.2 6 (32 * r + s)) := by
  have hO := hA.2.2.2.2.2.2.2.2.1
  obtain ⟨q1, q2, q3, q4⟩ := bS_row hA.2.2.1 hr
  have hr10 := rIn_lt hr
  obtain ⟨z1, z2⟩ := hO.1 r hr10
  have hz : mz S r ≤ 32 := by unfold mz tn; omega
  have hx : xin (nI s) (mz S r) = true := xin_nI (by omega) (by omega)
  have k67 := c67 (g := g) (n := n) (kc := kc) (ks := ks) (i := nI s) hA.1.1 q1
  have k68 := c68 (g := g) (n := n) (kc := kc) (ks := ks) (i := nI s) hA.1.1 q1
  rw [q3, hx, if_pos rfl, tn_nI (by omega), (q4 s (by omega)).1] at k67
  rw [q3, hx, if_pos rfl, tn_nI (by omega), (q4 s (by omega)).2] at k68
  exact ⟨k67, k68, hO.2.1 _ (by omega), hO.2.2.2.2.2 _ (by omega)⟩
theorem ro_size (hA : rA g G c n b ρ S) (hr : rIn S r) : X g 65 0 [.val (va_rf (some (ρ r)))] [] (gH n kc ks G) = some (some (.int (nI (mz S r))), gH n kc ks G) ∧ mz S r ≤ 32 ∧ G.1 (ρ r) = 1 ∧ G.2.2.1 (ρ r) 0 = S.2.2.1 2 r ∧ S.2.2.1 3 r = nI (mz S r) := by
  have hO := hA.2.2.2.2.2.2.2.2.1
  obtain ⟨q1, q2, q3, q4⟩ := bS_row hA.2.2.1 hr
  have hr10 := rIn_lt hr
  obtain ⟨z1, z2⟩ := hO.1 r hr10
  have k65 := c65 (g := g) (n := n) (kc := kc) (ks := ks) hA.1.1 q1
  rw [q3] at k65
  exact ⟨k65, by unfold mz tn; omega, q1, q2, nI_tn z1⟩
theorem l152 (hA : rA g G c n b ρ S) (hr : rIn S r) (ht : rIn S t) {N : Nat} (hN : N = min (mz S r) (mz S t)) : ∀ d s (T : GS), bq T G c → s + d = N → ∃ U, X g 152 15 [.val (va_rf (some c)), .val (va_rf (some (ρ r))), .val (va_rf (some (ρ t))), .val (.int (nI N)), .val (.int (nI s))] [] (gH n kc ks T) = some (some (.int (if mUnl (sEqv S r t) s d = N then (if mz S r = mz S t then -5 else nI N) else nI (mUnl (sEqv S r t) s d))), gH n kc ks U) ∧ bq U G c := by
  intro d
  induction d with
  | zero =>
    intro s T hq hs
    have hT := rA_bq hA hq
    obtain ⟨r1, r2, r3, _⟩ := ro_size (g := g) (kc := kc) (ks := ks) hT hr
    obtain ⟨t1, t2, t3, _⟩ := ro_size (g := g) (kc := kc) (ks := ks) hT ht
    have h1 : nI N ≤ nI s := nI_le (by omega) (by omega)
    refine ⟨T, ?_, hq⟩
    rw [mUnl, if_pos (by omega)]
    by_cases c1 : mz S r = mz S t
    · rw [if_pos c1]
      simp only [x152_0, x152_1, x152_4, x152_5, x152_8, x152_11, x152_12, x152_13, x152_15, x152_17, x152_18, x152_21, x152_22, x152_25, x152_26, x152_28, x152_31, x152_32, x152_34, x152_37, x152_40, x152_41, x152_44, x152_45, x152_47, x152_50, x152_51, x152_53, x152_56, x152_59, x152_60, x152_63, x152_64, x152_67, x152_70, x152_73, x152_75, x152_76, x152_82, x152_83, x152_86, x152_87, x152_90, x152_93, x152_95, x152_98, x152_99, h1, gc_1 r3, gc_1 t3, r1, t1, c1, Option.bind_some, Option.toList_some, Option.toList_none, List.cons_append, List.nil_append, Option.isSome_some, if_true, eq_self, or_true, true_or, xb_01, mcl_cl, not_true_eq_false, not_false_eq_true, if_false]
    · rw [if_neg c1]
      have c2 : ¬ nI (mz S r) = nI (mz S t) := fun z => c1 ((nI_eq (by omega) (by omega)).mp z)
      simp only [x152_0, x152_1, x152_4, x152_5, x152_8, x152_11, x152_12, x152_13, x152_15, x152_17, x152_18, x152_21, x152_22, x152_25, x152_26, x152_28, x152_31, x152_32, x152_34, x152_37, x152_40, x152_41, x152_44, x152_45, x152_47, x152_50, x152_51, x152_53, x152_56, x152_59, x152_60, x152_63, x152_64, x152_67, x152_70, x152_73, x152_75, x152_76, x152_82, x152_83, x152_86, x152_87, x152_90, x152_93, x152_95, x152_98, x152_99, h1, gc_1 r3, gc_1 t3, r1, t1, c2, Option.bind_some, Option.toList_some, Option.toList_none, List.cons_append, List.nil_append, Option.isSome_some, if_true, eq_self, or_true, true_or, xb_01, mcl_cl, not_true_eq_false, not_false_eq_true, if_false]
  | succ d ih =>
    intro s T hq hs
    have hT := rA_bq hA hq
    have k0 : T.1 c = 15 := hT.1.2.1.1
    have k2 : T.1 (c + 2) = 16 := hT.1.2.1.2.2.1
    obtain ⟨r1, r2, r3, _⟩ := ro_size (g := g) (kc := kc) (ks := ks) hT hr
    obtain ⟨t1, t2, t3, _⟩ := ro_size (g := g) (kc := kc) (ks := ks) hT ht
    have h1 : ¬ nI N ≤ nI s := nI_ge (by omega) (by omega)
    obtain ⟨a1, a2, a3⟩ := ro_cell (g := g) (kc := kc) (ks := ks) (s := s) hT hr (by omega)
    have hqV : bq (bxS T (c + 2) (S.2.2.1 5 (32 * r + s)) (S.2.2.2 6 (32 * r + s))) T c := bq_x (Or.inl rfl)
    have k27 := c27' (g := g) (n := n) (kc := kc) (ks := ks) (k := S.2.2.1 5 (32 * r + s)) (u := S.2.2.2 6 (32 * r + s)) k2
    have v0 : (bxS T (c + 2) (S.2.2.1 5 (32 * r + s)) (S.2.2.2 6 (32 * r + s))).2.2.1 (c + 2) 0 = S.2.2.1 5 (32 * r + s) := by simp [bxS, gsI, gsJ]
    have v1 : (bxS T (c + 2) (S.2.2.1 5 (32 * r + s)) (S.2.2.2 6 (32 * r + s))).2.2.2.1 (c + 2) 1 = S.2.2.2 6 (32 * r + s) := by simp [bxS, gsI, gsJ]
    generalize bxS T (c + 2) (S.2.2.1 5 (32 * r + s)) (S.2.2.2 6 (32 * r + s)) = V at *
    have hV := rA_bq hT hqV
    have kv0 : V.1 c = 15 := hV.1.2.1.1
    have kv2 : V.1 (c + 2) = 16 := hV.1.2.1.2.2.1
    have kv3 : V.1 (c + 3) = 16 := hV.1.2.1.2.2.2.1
    have tv3 : V.1 (ρ t) = 1 := by rw [hqV.1]; exact t3
    obtain ⟨b1, b2, b3⟩ := ro_cell (g := g) (kc := kc) (ks := ks) (s := s) hV ht (by omega)
    have k27b := c27' (g := g) (n := n) (kc := kc) (ks := ks) (k := S.2.2.1 5 (32 * t + s)) (u := S.2.2.2 6 (32 * t + s)) kv3
    have hqW : bq (bxS V (c + 3) (S.2.2.1 5 (32 * t + s)) (S.2.2.2 6 (32 * t + s))) V c := bq_x (Or.inr rfl)
    have w0 : (bxS V (c + 3) (S.2.2.1 5 (32 * t + s)) (S.2.2.2 6 (32 * t + s))).2.2.1 (c + 2) 0 = S.2.2.1 5 (32 * r + s) := by rw [← v0]; simp [bxS, gsI, gsJ]
    have w1 : (bxS V (c + 3) (S.2.2.1 5 (32 * t + s)) (S.2.2.2 6 (32 * t + s))).2.2.2.1 (c + 2) 1 = S.2.2.2 6 (32 * r + s) := by rw [← v1]; simp [bxS, gsI, gsJ]
    have w2 : (bxS V (c + 3) (S.2.2.1 5 (32 * t + s)) (S.2.2.2 6 (32 * t + s))).2.2.1 (c + 3) 0 = S.2.2.1 5 (32 * t + s) := by simp [bxS, gsI, gsJ]
    have w3 : (bxS V (c + 3) (S.2.2.1 5 (32 * t + s)) (S.2.2.2 6 (32 * t + s))).2.2.2.1 (c + 3) 1 = S.2.2.2 6 (32 * t + s) := by simp [bxS, gsI, gsJ]
    generalize bxS V (c + 3) (S.2.2.1 5 (32 * t + s)) (S.2.2.2 6 (32 * t + s)) = W at *
    have hW := rA_bq hV hqW
    have kw0 : W.1 c = 15 := hW.1.2.1.1
    have kw2 : W.1 (c + 2) = 16 := hW.1.2.1.2.2.1
    have kw3 : W.1 (c + 3) = 16 := hW.1.2.1.2.2.2.1
    have k46 := c46 (g := g) (n := n) (kc := kc) (ks := ks) kw2 kw3 w0 w1 w2 w3 a3 b3
    have hq3 := bq_trans hq (bq_trans hqV hqW)
    rw [mUnl]
    have he : sEqv S r t s = pAlike (S.2.2.1 5 (32 * r + s)) (S.2.2.2 6 (32 * r + s)) (S.2.2.1 5 (32 * t + s)) (S.2.2.2 6 (32 * t + s)) := rfl
    cases e1 : sEqv S r t s with
    | true =>
      rw [← he, e1] at k46
      obtain ⟨U, u1, u2⟩ := ih (s + 1) W hq3 (by omega)
      refine ⟨U, ?_, u2⟩
      simp only [x152_0, x152_1, x152_4, x152_5, x152_8, x152_11, x152_12, x152_13, x152_15, x152_17, x152_18, x152_21, x152_22, x152_25, x152_26, x152_28, x152_31, x152_32, x152_34, x152_37, x152_40, x152_41, x152_44, x152_45, x152_47, x152_50, x152_51, x152_53, x152_56, x152_59, x152_60, x152_63, x152_64, x152_67, x152_70, x152_73, x152_75, x152_76, x152_82, x152_83, x152_86, x152_87, x152_90, x152_93, x152_95, x152_98, x152_99, h1, gf_15_1 k0, gc_1 r3, a1, a2, gc_16 k2, k27, gf_15_2 kv0, gc_1 tv3, b1, b2, gc_16 kv3, k27b, gf_15_1 kw0, gf_15_2 kw0, k46, xb_t, show ¬ (1 : Int32) = 0 by decide, Option.bind_some, Option.toList_some, Option.toList_none, List.cons_append, List.nil_append, Option.isSome_some, if_true, eq_self, or_true, true_or, xb_01, mcl_cl, not_true_eq_false, not_false_eq_true, if_false]
      simp only [x152_79, nI_1]
      exact u1
    | false =>
      rw [← he, e1] at k46
      refine ⟨W, ?_, hq3⟩
      have hn : ¬ s = N := by omega
      simp only [x152_0, x152_1, x152_4, x152_5, x152_8, x152_11, x152_12, x152_13, x152_15, x152_17, x152_18, x152_21, x152_22, x152_25, x152_26, x152_28, x152_31, x152_32, x152_34, x152_37, x152_40, x152_41, x152_44, x152_45, x152_47, x152_50, x152_51, x152_53, x152_56, x152_59, x152_60, x152_63, x152_64, x152_67, x152_70, x152_73, x152_75, x152_76, x152_82, x152_83, x152_86, x152_87, x152_90, x152_93, x152_95, x152_98, x152_99, h1, gf_15_1 k0, gc_1 r3, a1, a2, gc_16 k2, k27, gf_15_2 kv0, gc_1 tv3, b1, b2, gc_16 kv3, k27b, gf_15_1 kw0, gf_15_2 kw0, k46, xb_f, hn, Bool.false_eq_true, Option.bind_some, Option.toList_some, Option.toList_none, List.cons_append, List.nil_append, Option.isSome_some, if_true, eq_self, or_true, true_or, xb_01, mcl_cl, not_true_eq_false, not_false_eq_true, if_false]
theorem nI_min (h1 : p < 2 ^ 31) (h2 : q < 2 ^ 31) : (if nI q < nI p then nI q else nI p) = nI (min p q) := by
  by_cases c1 : q < p
  · rw [if_pos (nI_lt c1 h1), Nat.min_eq_right (by omega)]
  · rw [if_neg (nI_nlt (by omega) h2), Nat.min_eq_left (by omega)]
theorem c152 (hA : rA g G c n b ρ S) (hr : rIn S r) (ht : rIn S t) : ∃ U, X g 152 0 [.val (va_rf (some c)), .val (va_rf (some (ρ r))), .val (va_rf (some (ρ t))), .unset, .unset] [] (gH n kc ks G) = some (some (.int (sDf S r t)), gH n kc ks U) ∧ bq U G c := by
  obtain ⟨U, u1, u2⟩ := l152 (g := g) (n := n) (kc := kc) (ks := ks) hA hr ht rfl (min (mz S r) (mz S t)) 0 G bq_refl (by omega)
  obtain ⟨r1, r2, r3, _⟩ := ro_size (g := g) (kc := kc) (ks := ks) hA hr
  obtain ⟨t1, t2, t3, _⟩ := ro_size (g := g) (kc := kc) (ks := ks) hA ht
  refine ⟨U, ?_, u2⟩
  simp only [x152_0, x152_1, x152_4, x152_5, x152_8, x152_11, x152_12, x152_13, gc_1 r3, gc_1 t3, r1, t1, nI_min (show mz S r < 2 ^ 31 by omega) (show mz S t < 2 ^ 31 by omega), Option.bind_some, Option.toList_some, Option.toList_none, List.cons_append, List.nil_append, Option.isSome_some, if_true, eq_self, or_true, true_or, xb_01, mcl_cl, not_true_eq_false, not_false_eq_true, if_false]
  refine u1.trans ?_
  congr 4
  unfold sDf
  have hle := (mUnl_le (f := sEqv S r t) (min (mz S r) (mz S t)) 0).2
  by_cases c1 : mUnl (sEqv S r t) 0 (min (mz S r) (mz S t)) = min (mz S r) (mz S t)
  · rw [if_pos c1]
    by_cases c2 : mz S r = mz S t
    · rw [if_pos c2, if_pos (by omega)]
    · rw [if_neg c2, if_neg (by omega), c1]
  · rw [if_neg c1, if_neg (by omega)]
theorem s118 (hA : rA g G c n b ρ S) (hp : G.2.2.1 (c + 7) 1 = 0) : sim g c n kc ks G 118 [.val (va_rf (some c)), .val (.int i), .val (.int j), .unset, .unset] (.int (fAlike S i j)) S := by
  have k0 : G.1 c = 15 := hA.1.2.1.1
  have hb := hA.2.1
  have hB := hA.2.2.1
  have h10 : ¬ (1 : Int32) = 0 := by decide
  unfold fAlike
  cases e1 : mSlot i with
  | false =>
    rw [if_pos rfl]
    refine sim_same hA hp ?_
    simp only [x118_0, x118_1, x118_4, x118_7, x118_8, x118_11, x118_14, x118_15, x118_16, x118_17, x118_20, x118_21, x118_24, x118_25, x118_28, x118_29, x118_32, x118_33, x118_36, x118_37, x118_40, x118_42, x118_43, x118_44, x118_47, x118_48, x118_51, x118_52, x118_53, x118_56, x118_57, x118_60, x118_62, x118_63, x118_66, x118_68, x118_71, x118_73, x118_74, x118_75, x118_76, x118_78, x118_81, c127, e1, xb_f, Option.bind_some, Option.toList_some, Option.toList_none, List.cons_append, List.nil_append, Option.isSome_some, if_true, eq_self, or_true, true_or, xb_01, mcl_cl, not_true_eq_false, not_false_eq_true, if_false]
  | true =>
    rw [if_neg (by simp)]
    cases e2 : mSlot j with
    | false =>
      rw [if_pos rfl]
      refine sim_same hA hp ?_
      simp only [x118_0, x118_1, x118_4, x118_7, x118_8, x118_11, x118_14, x118_15, x118_16, x118_17, x118_20, x118_21, x118_24, x118_25, x118_28, x118_29, x118_32, x118_33, x118_36, x118_37, x118_40, x118_42, x118_43, x118_44, x118_47, x118_48, x118_51, x118_52, x118_53, x118_56, x118_57, x118_60, x118_62, x118_63, x118_66, x118_68, x118_71, x118_73, x118_74, x118_75, x118_76, x118_78, x118_81, c127, e1, e2, xb_t, h10, xb_f, Option.bind_some, Option.toList_some, Option.toList_none, List.cons_append, List.nil_append, Option.isSome_some, if_true, eq_self, or_true, true_or, xb_01, mcl_cl, not_true_eq_false, not_false_eq_true, if_false]
    | true =>
      rw [if_neg (by simp)]
      have k9 := c9 (g := g) (n := n) (kc := kc) (ks := ks) (i := i) hA.1.1 hB.1
      have k10 := c10 (g := g) (n := n) (kc := kc) (ks := ks) (i := i) hA.1.1 hB.1
      have k9j := c9 (g := g) (n := n) (kc := kc) (ks := ks) (i := j) hA.1.1 hB.1
      have k10j := c10 (g := g) (n := n) (kc := kc) (ks := ks) (i := j) hA.1.1 hB.1
      have hki : ∀ {i : Int32}, mSlot i = true → (S.2.2.1 7 (tn i) = -11 ↔ bHeld G b i = -1) := by
        intro i e
        cases e3 : mRow S (tn i) with
        | true =>
          obtain ⟨q1, q2, q3, q4, q5, q6, q7⟩ := sl_yes hA e e3
          have := (hA.2.2.2.2.2.2.2.2.1.2.2.2.2.1 _ q4).1
          rw [q2]
          refine ⟨fun z => absurd z q6, fun z => ?_⟩
          rw [z] at this
          exact absurd this (by decide)
        | false =>
          obtain ⟨_, _, _, q | q⟩ := sl_none hA e e3
          · exact ⟨fun _ => q.2, fun _ => q.1⟩
          · exact ⟨fun z => absurd z q.1, fun z => absurd z q.2.2.1⟩
      by_cases c1 : S.2.2.1 7 (tn i) = -11
      · rw [if_pos c1]
        refine sim_same hA hp ?_
        simp only [x118_0, x118_1, x118_4, x118_7, x118_8, x118_11, x118_14, x118_15, x118_16, x118_17, x118_20, x118_21, x118_24, x118_25, x118_28, x118_29, x118_32, x118_33, x118_36, x118_37, x118_40, x118_42, x118_43, x118_44, x118_47, x118_48, x118_51, x118_52, x118_53, x118_56, x118_57, x118_60, x118_62, x118_63, x118_66, x118_68, x118_71, x118_73, x118_74, x118_75, x118_76, x118_78, x118_81, c127, e1, e2, xb_t, h10, gf_15_9 k0, hb, gc_9 hB.1, k10, (hki e1).mp c1, Option.bind_some, Option.toList_some, Option.toList_none, List.cons_append, List.nil_append, Option.isSome_some, if_true, eq_self, or_true, true_or, xb_01, mcl_cl, not_true_eq_false, not_false_eq_true, if_false]
      · rw [if_neg c1]
        have c1' : ¬ bHeld G b i = -1 := fun z => c1 ((hki e1).mpr z)
        by_cases c2 : S.2.2.1 7 (tn j) = -11
        · rw [if_pos c2]
          refine sim_same hA hp ?_
          simp only [x118_0, x118_1, x118_4, x118_7, x118_8, x118_11, x118_14, x118_15, x118_16, x118_17, x118_20, x118_21, x118_24, x118_25, x118_28, x118_29, x118_32, x118_33, x118_36, x118_37, x118_40, x118_42, x118_43, x118_44, x118_47, x118_48, x118_51, x118_52, x118_53, x118_56, x118_57, x118_60, x118_62, x118_63, x118_66, x118_68, x118_71, x118_73, x118_74, x118_75, x118_76, x118_78, x118_81, c127, e1, e2, xb_t, h10, gf_15_9 k0, hb, gc_9 hB.1, k10, k10j, c1', (hki e2).mp c2, Option.bind_some, Option.toList_some, Option.toList_none, List.cons_append, List.nil_append, Option.isSome_some, if_true, eq_self, or_true, true_or, xb_01, mcl_cl, not_true_eq_false, not_false_eq_true, if_false]
        · rw [if_neg c2]
          have c2' : ¬ bHeld G b j = -1 := fun z => c2 ((hki e2).mpr z)
          cases e3 : mRow S (tn i) with
          | false =>
            rw [if_pos rfl]
            rw [(sl_none hA e1 e3).1] at k9
            refine sim_same hA hp ?_
            simp only [x118_0, x118_1, x118_4, x118_7, x118_8, x118_11, x118_14, x118_15, x118_16, x118_17, x118_20, x118_21, x118_24, x118_25, x118_28, x118_29, x118_32, x118_33, x118_36, x118_37, x118_40, x118_42, x118_43, x118_44, x118_47, x118_48, x118_51, x118_52, x118_53, x118_56, x118_57, x118_60, x118_62, x118_63, x118_66, x118_68, x118_71, x118_73, x118_74, x118_75, x118_76, x118_78, x118_81, c127, e1, e2, xb_t, h10, gf_15_9 k0, hb, gc_9 hB.1, k10, k10j, c1', c2', k9, k9j, Option.bind_some, Option.toList_some, Option.toList_none, List.cons_append, List.nil_append, Option.isSome_some, if_true, eq_self, or_true, true_or, xb_01, mcl_cl, not_true_eq_false, not_false_eq_true, if_false]
          | true =>
            rw [if_neg (by simp)]
            obtain ⟨q1, q2, q3, q4, q5, q6, q7⟩ := sl_yes hA e1 e3
            rw [q1] at k9
            have hne : ¬ (some (ρ (mr S (tn i))) = none) := by simp
            cases e4 : mRow S (tn j) with
            | false =>
              rw [if_pos rfl]
              rw [(sl_none hA e2 e4).1] at k9j
              refine sim_same hA hp ?_
              simp only [x118_0, x118_1, x118_4, x118_7, x118_8, x118_11, x118_14, x118_15, x118_16, x118_17, x118_20, x118_21, x118_24, x118_25, x118_28, x118_29, x118_32, x118_33, x118_36, x118_37, x118_40, x118_42, x118_43, x118_44, x118_47, x118_48, x118_51, x118_52, x118_53, x118_56, x118_57, x118_60, x118_62, x118_63, x118_66, x118_68, x118_71, x118_73, x118_74, x118_75, x118_76, x118_78, x118_81, c127, e1, e2, xb_t, h10, gf_15_9 k0, hb, gc_9 hB.1, k10, k10j, c1', c2', k9, k9j, hne, Option.bind_some, Option.toList_some, Option.toList_none, List.cons_append, List.nil_append, Option.isSome_some, if_true, eq_self, or_true, true_or, xb_01, mcl_cl, not_true_eq_false, not_false_eq_true, if_false]
            | true =>
              rw [if_neg (by simp)]
              obtain ⟨p1, p2, p3, p4, p5, p6, p7⟩ := sl_yes hA e2 e4
              rw [p1] at k9j
              have hnf : ¬ (some (ρ (mr S (tn j))) = none) := by simp
              obtain ⟨U, u1, u2⟩ := c152 (g := g) (kc := kc) (ks := ks) hA q7 p7
              refine sim_bq hA hp u2 ?_
              simp only [x118_0, x118_1, x118_4, x118_7, x118_8, x118_11, x118_14, x118_15, x118_16, x118_17, x118_20, x118_21, x118_24, x118_25, x118_28, x118_29, x118_32, x118_33, x118_36, x118_37, x118_40, x118_42, x118_43, x118_44, x118_47, x118_48, x118_51, x118_52, x118_53, x118_56, x118_57, x118_60, x118_62, x118_63, x118_66, x118_68, x118_71, x118_73, x118_74, x118_75, x118_76, x118_78, x118_81, c127, e1, e2, xb_t, h10, gf_15_9 k0, hb, gc_9 hB.1, k10, k10j, c1', c2', k9, k9j, hne, hnf, gc_15 k0, u1, Option.bind_some, Option.toList_some, Option.toList_none, List.cons_append, List.nil_append, Option.isSome_some, if_true, eq_self, or_true, true_or, xb_01, mcl_cl, not_true_eq_false, not_false_eq_true, if_false]
theorem l153 (hA : rA g G c n b ρ S) (hr : rIn S r) : ∀ d s z, s + d = mz S r → X g 153 52 [.val (va_rf (some c)), .val (.int i), .val (.long z), .second, .val (va_rf (some (ρ r))), .val (.int (nI s))] [] (gH n kc ks G) = some (some (.long (mDig (fun p => S.2.2.1 5 (32 * r + p)) (fun p => S.2.2.2 6 (32 * r + p)) s d z)), gH n kc ks G) := by
  obtain ⟨r1, r2, r3, _⟩ := ro_size (g := g) (kc := kc) (ks := ks) hA hr
  intro d
  induction d with
  | zero =>
    intro s z hs
    have h1 : nI (mz S r) ≤ nI s := nI_le (by omega) (by omega)
    simp only [x153_0, x153_3, x153_4, x153_5, x153_8, x153_9, x153_12, x153_14, x153_16, x153_19, x153_22, x153_23, x153_24, x153_27, x153_28, x153_30, x153_33, x153_34, x153_35, x153_36, x153_39, x153_40, x153_41, x153_43, x153_46, x153_47, x153_48, x153_49, x153_50, x153_52, x153_54, x153_56, x153_59, x153_62, x153_65, x153_66, x153_67, x153_69, x153_71, x153_74, x153_75, x153_76, x153_77, x153_80, x153_81, x153_82, x153_84, x153_86, x153_89, x153_90, x153_91, x153_97, x153_98, x153_99, x153_100, x153_103, x153_104, x153_107, x153_108, x153_111, x153_114, x153_115, x153_116, x153_117, x153_118, x153_119, x153_122, x153_123, x153_124, x153_127, x153_128, x153_129, x153_132, x153_133, x153_134, x153_135, x153_138, x153_139, x153_142, x153_143, x153_144, gc_1 r3, r1, h1, Option.bind_some, Option.toList_some, Option.toList_none, List.cons_append, List.nil_append, Option.isSome_some, if_true, eq_self, or_true, true_or, xb_01, mcl_cl, not_true_eq_false, not_false_eq_true, if_false, mDig]
  | succ d ih =>
    intro s z hs
    have h1 : ¬ nI (mz S r) ≤ nI s := nI_ge (by omega) (by omega)
    obtain ⟨a1, a2, a3⟩ := ro_cell (g := g) (kc := kc) (ks := ks) (s := s) hA hr (by omega)
    have h := ih (s + 1) (31 * (31 * z + (S.2.2.1 5 (32 * r + s)).toInt64) + S.2.2.2 6 (32 * r + s)) (by omega)
    simp only [x153_0, x153_3, x153_4, x153_5, x153_8, x153_9, x153_12, x153_14, x153_16, x153_19, x153_22, x153_23, x153_24, x153_27, x153_28, x153_30, x153_33, x153_34, x153_35, x153_36, x153_39, x153_40, x153_41, x153_43, x153_46, x153_47, x153_48, x153_49, x153_50, x153_52, x153_54, x153_56, x153_59, x153_62, x153_65, x153_66, x153_67, x153_69, x153_71, x153_74, x153_75, x153_76, x153_77, x153_80, x153_81, x153_82, x153_84, x153_86, x153_89, x153_90, x153_91, x153_97, x153_98, x153_99, x153_100, x153_103, x153_104, x153_107, x153_108, x153_111, x153_114, x153_115, x153_116, x153_117, x153_118, x153_119, x153_122, x153_123, x153_124, x153_127, x153_128, x153_129, x153_132, x153_133, x153_134, x153_135, x153_138, x153_139, x153_142, x153_143, x153_144, gc_1 r3, r1, h1, a1, a2, Option.bind_some, Option.toList_some, Option.toList_none, List.cons_append, List.nil_append, Option.isSome_some, if_true, eq_self, or_true, true_or, xb_01, mcl_cl, not_true_eq_false, not_false_eq_true, if_false, mDig]
    simp only [x153_94, nI_1]
    exact h
theorem c153 (hA : rA g G c n b ρ S) (e1 : mSlot i = true) : X g 153 0 [.val (va_rf (some c)), .val (.int i), .unset, .unset, .unset, .unset] [] (gH n kc ks G) = some (some (.long (sDg S (tn i))), gH n kc ks G) := by
  have k0 : G.1 c = 15 := hA.1.2.1.1
  have hb := hA.2.1
  have hB := hA.2.2.1
  have k9 := c9 (g := g) (n := n) (kc := kc) (ks := ks) (i := i) hA.1.1 hB.1
  have k10 := c10 (g := g) (n := n) (kc := kc) (ks := ks) (i := i) hA.1.1 hB.1
  have k12 := c12 (g := g) (n := n) (kc := kc) (ks := ks) (i := i) hA.1.1 hB.1
  rw [if_pos e1] at k12
  unfold sDg
  cases e3 : mRow S (tn i) with
  | true =>
    obtain ⟨q1, q2, q3, q4, q5, q6, q7⟩ := sl_yes hA e1 e3
    obtain ⟨r1, r2, r3, r4, r5⟩ := ro_size (g := g) (kc := kc) (ks := ks) hA q7
    rw [q1] at k9
    rw [if_neg q6, if_neg (by simp)]
    have hne : ¬ (some (ρ (mr S (tn i))) = none) := by simp
    have hl := l153 (g := g) (kc := kc) (ks := ks) (i := i) hA q7 (mz S (mr S (tn i))) 0 (31 * (31 * 7 + 3 + (S.2.2.1 2 (mr S (tn i))).toInt64) + (nI (mz S (mr S (tn i)))).toInt64) (by omega)
    simp only [x153_0, x153_3, x153_4, x153_5, x153_8, x153_9, x153_12, x153_14, x153_16, x153_19, x153_22, x153_23, x153_24, x153_27, x153_28, x153_30, x153_33, x153_34, x153_35, x153_36, x153_39, x153_40, x153_41, x153_43, x153_46, x153_47, x153_48, x153_49, x153_50, gf_15_9 k0, hb, gc_9 hB.1, k9, hne, gf_1_0 r3, r4, gc_1 r3, r1, Option.bind_some, Option.toList_some, Option.toList_none, List.cons_append, List.nil_append, Option.isSome_some, if_true, eq_self, or_true, true_or, xb_01, mcl_cl, not_true_eq_false, not_false_eq_true, if_false]
    exact hl
  | false =>
    obtain ⟨q1, q2, q3, q⟩ := sl_none hA e1 e3
    rw [q1] at k9
    rcases q with q | q
    · rw [if_pos q.1]
      simp only [x153_0, x153_3, x153_4, x153_5, x153_8, x153_9, x153_12, x153_14, x153_16, x153_19, x153_22, x153_23, x153_24, x153_27, x153_28, x153_30, x153_33, x153_34, x153_35, x153_36, x153_39, x153_40, x153_41, x153_43, x153_46, x153_47, x153_48, x153_49, x153_50, x153_52, x153_54, x153_56, x153_59, x153_62, x153_65, x153_66, x153_67, x153_69, x153_71, x153_74, x153_75, x153_76, x153_77, x153_80, x153_81, x153_82, x153_84, x153_86, x153_89, x153_90, x153_91, x153_97, x153_98, x153_99, x153_100, x153_103, x153_104, x153_107, x153_108, x153_111, x153_114, x153_115, x153_116, x153_117, x153_118, x153_119, x153_122, x153_123, x153_124, x153_127, x153_128, x153_129, x153_132, x153_133, x153_134, x153_135, x153_138, x153_139, x153_142, x153_143, x153_144, gf_15_9 k0, hb, gc_9 hB.1, k9, k10, q.2, Option.bind_some, Option.toList_some, Option.toList_none, List.cons_append, List.nil_append, Option.isSome_some, if_true, eq_self, or_true, true_or, xb_01, mcl_cl, not_true_eq_false, not_false_eq_true, if_false]
      rfl
    · rw [if_neg q.1, if_pos rfl]
      simp only [x153_0, x153_3, x153_4, x153_5, x153_8, x153_9, x153_12, x153_14, x153_16, x153_19, x153_22, x153_23, x153_24, x153_27, x153_28, x153_30, x153_33, x153_34, x153_35, x153_36, x153_39, x153_40, x153_41, x153_43, x153_46, x153_47, x153_48, x153_49, x153_50, x153_52, x153_54, x153_56, x153_59, x153_62, x153_65, x153_66, x153_67, x153_69, x153_71, x153_74, x153_75, x153_76, x153_77, x153_80, x153_81, x153_82, x153_84, x153_86, x153_89, x153_90, x153_91, x153_97, x153_98, x153_99, x153_100, x153_103, x153_104, x153_107, x153_108, x153_111, x153_114, x153_115, x153_116, x153_117, x153_118, x153_119, x153_122, x153_123, x153_124, x153_127, x153_128, x153_129, x153_132, x153_133, x153_134, x153_135, x153_138, x153_139, x153_142, x153_143, x153_144, gf_15_9 k0, hb, gc_9 hB.1, k9, k10, k12, q.2.2.1, q.2.2.2, Option.bind_some, Option.toList_some, Option.toList_none, List.cons_append, List.nil_append, Option.isSome_some, if_true, eq_self, or_true, true_or, xb_01, mcl_cl, not_true_eq_false, not_false_eq_true, if_false]
      rfl
theorem l119 (hA : rA g G c n b ρ S) : ∀ d s z, s + d = 10 → X g 119 27 [.val (va_rf (some c)), .val (.int i), .val (.long z), .second, .val (.int (nI s))] [] (gH n kc ks G) = some (some (.long (mFold (sDg S) s d z)), gH n kc ks G) := by
  have k0 : G.1 c = 15 := hA.1.2.1.1
  intro d
  induction d with
  | zero =>
    intro s z hs
    have h1 : (10 : Int32) ≤ nI s := nI_le (a := 10) (by omega) (by omega)
    simp only [x119_0, x119_1, x119_4, x119_7, x119_8, x119_9, x119_12, x119_13, x119_14, x119_15, x119_18, x119_21, x119_22, x119_23, x119_24, x119_25, x119_27, x119_29, x119_31, x119_34, x119_37, x119_38, x119_39, x119_40, x119_42, x119_45, x119_46, x119_47, x119_53, x119_54, h1, Option.bind_some, Option.toList_some, Option.toList_none, List.cons_append, List.nil_append, Option.isSome_some, if_true, eq_self, or_true, true_or, xb_01, mcl_cl, not_true_eq_false, not_false_eq_true, if_false, mFold]
  | succ d ih =>
    intro s z hs
    have h1 : ¬ (10 : Int32) ≤ nI s := nI_ge (b := 10) (by omega) (by omega)
    have k153 := c153 (g := g) (kc := kc) (ks := ks) (i := nI s) hA (sl_nI (by omega)).1
    rw [tn_nI (by omega)] at k153
    have h := ih (s + 1) (31 * z + sDg S s) (by omega)
    simp only [x119_0, x119_1, x119_4, x119_7, x119_8, x119_9, x119_12, x119_13, x119_14, x119_15, x119_18, x119_21, x119_22, x119_23, x119_24, x119_25, x119_27, x119_29, x119_31, x119_34, x119_37, x119_38, x119_39, x119_40, x119_42, x119_45, x119_46, x119_47, x119_53, x119_54, h1, gc_15 k0, k153, Option.bind_some, Option.toList_some, Option.toList_none, List.cons_append, List.nil_append, Option.isSome_some, if_true, eq_self, or_true, true_or, xb_01, mcl_cl, not_true_eq_false, not_false_eq_true, if_false, mFold]
    simp only [x119_50, nI_1]
    exact h
theorem s119 (hA : rA g G c n b ρ S) (hp : G.2.2.1 (c + 7) 1 = 0) : sim g c n kc ks G 119 [.val (va_rf (some c)), .val (.int i), .unset, .unset, .unset] (.long (fDig S i)) S := by
  have k0 : G.1 c = 15 := hA.1.2.1.1
  have h10 : ¬ (1 : Int32) = 0 := by decide
  refine sim_same hA hp ?_
  unfold fDig
  cases e1 : mSlot i with
  | true =>
    rw [if_pos rfl]
    have k153 := c153 (g := g) (kc := kc) (ks := ks) hA e1
    simp only [x119_0, x119_1, x119_4, x119_7, x119_8, x119_9, x119_12, x119_13, x119_14, x119_15, x119_18, x119_21, x119_22, x119_23, x119_24, x119_25, x119_27, x119_29, x119_31, x119_34, x119_37, x119_38, x119_39, x119_40, x119_42, x119_45, x119_46, x119_47, x119_53, x119_54, c127, e1, xb_t, h10, gc_15 k0, k153, Option.bind_some, Option.toList_some, Option.toList_none, List.cons_append, List.nil_append, Option.isSome_some, if_true, eq_self, or_true, true_or, xb_01, mcl_cl, not_true_eq_false, not_false_eq_true, if_false]
  | false =>
    rw [if_neg (by simp)]
    by_cases c1 : i = -1
    · rw [if_neg (fun z => z c1)]
      have hl := l119 (g := g) (kc := kc) (ks := ks) (i := i) hA 10 0 1 (by omega)
      subst c1
      simp only [x119_0, x119_1, x119_4, x119_7, x119_8, x119_9, x119_12, x119_13, x119_14, x119_15, x119_18, x119_21, x119_22, x119_23, x119_24, x119_25, c127, e1, xb_f, Option.bind_some, Option.toList_some, Option.toList_none, List.cons_append, List.nil_append, Option.isSome_some, if_true, eq_self, or_true, true_or, xb_01, mcl_cl, not_true_eq_false, not_false_eq_true, if_false]
      exact hl
    · rw [if_pos c1]
      simp only [x119_0, x119_1, x119_4, x119_7, x119_8, x119_9, x119_12, x119_13, x119_14, x119_15, x119_18, x119_21, x119_22, x119_23, x119_24, x119_25, x119_27, x119_29, x119_31, x119_34, x119_37, x119_38, x119_39, x119_40, x119_42, x119_45, x119_46, x119_47, x119_53, x119_54, c127, e1, xb_f, c1, Option.bind_some, Option.toList_some, Option.toList_none, List.cons_append, List.nil_append, Option.isSome_some, if_true, eq_self, or_true, true_or, xb_01, mcl_cl, not_true_eq_false, not_false_eq_true, if_false]
end K30
