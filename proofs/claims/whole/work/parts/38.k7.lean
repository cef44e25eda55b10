/-! THE CLASS's methods, 7: what may be viewed, quotients, ranks -/
section K7
variable {g : xG} {h : xH} {E F P Q s c : Nat} {d e : UInt64} {f : UInt32} {a k i j m : Int32} {u v b x y : Int64}
theorem may_tab : ∀ p, p < 8 → ∀ q, q < 8 → decide ((xvs p >>> (nI q &&& 31)) &&& 1 = 1) = pMay (nI p) (nI q) := by decide +kernel
theorem pMay_no (hh : k < 0 ∨ 8 ≤ k ∨ a < 0 ∨ 8 ≤ a) : pMay k a = false := by
  cases e : pMay k a with
  | false => rfl
  | true =>
    exfalso
    have h8 := pMay_8 e
    have ha0 : 0 ≤ a.toInt ∧ 0 ≤ k.toInt ∧ k.toInt ≤ 7 := by
      unfold pMay at e
      by_cases e0 : k = a
      · rw [if_pos e0] at e
        have := mWithin_iff.mp e
        rw [e0] at this
        rw [e0]
        exact ⟨this.1, this.1, this.2⟩
      · rw [if_neg e0] at e
        by_cases e1 : k = 1
        · rw [if_pos e1] at e
          have := mWithin_iff.mp e
          rw [e1]
          exact ⟨by omega, by decide, by decide⟩
        · rw [if_neg e1] at e
          by_cases e1 : k = 2
          · rw [if_pos e1] at e
            have := mWithin_iff.mp e
            rw [e1]
            exact ⟨by omega, by decide, by decide⟩
          · rw [if_neg e1] at e
            by_cases e1 : k = 3
            · rw [if_pos e1] at e
              have := mWithin_iff.mp e
              rw [e1]
              exact ⟨by omega, by decide, by decide⟩
            · rw [if_neg e1] at e
              by_cases e1 : k = 4
              · rw [if_pos e1] at e
                have := mWithin_iff.mp e
                rw [e1]
                exact ⟨by omega, by decide, by decide⟩
              · rw [if_neg e1] at e
                by_cases e1 : k = 5
                · rw [if_pos e1] at e
                  have := mWithin_iff.mp e
                  rw [e1]
                  exact ⟨by omega, by decide, by decide⟩
                · rw [if_neg e1] at e
                  by_cases e1 : k = 6
                  · rw [if_pos e1] at e
                    rw [of_decide_eq_true e, e1]
                    decide
                  · rw [if_neg e1] at e
                    exact absurd e (by simp)
    simp only [i32_lt, i32_le, show (0 : Int32).toInt = 0 from rfl, show (8 : Int32).toInt = 8 from rfl] at hh h8
    omega
theorem ro_len (hx : h.2.2.2 g.2.2.2.1 = none) (hg : ¬ g.2.2.2.1 = g.1) : xlen g h g.2.2.2.1 = some 8 := by
  unfold xlen
  rw [hx]
  show (xro g g.2.2.2.1).map _ = _
  unfold xro
  rw [if_neg hg, if_pos rfl]
  rfl
theorem ro_ld (hx : h.2.2.2 g.2.2.2.1 = none) (hg : ¬ g.2.2.2.1 = g.1) : xaldi g h g.2.2.2.1 i = if xin i 8 = true then some (.int (xvs i.toNatClampNeg)) else none := by
  unfold xaldi xa
  rw [hx]
  dsimp only
  unfold xro
  rw [if_neg hg, if_pos rfl]
theorem c39 (hx : h.2.2.2 g.2.2.2.1 = none) (hg : ¬ g.2.2.2.1 = g.1) : X g 39 0 [.val (.int k), .val (.int a)] [] h = some (some (.int (xb (pMay k a))), h) := by
  have n8 : nI 8 = (8 : Int32) := rfl
  by_cases e1 : k < 0
  · rw [pMay_no (Or.inl e1)]
    simp only [x39_0, x39_1, x39_4, x39_5, x39_8, x39_9, x39_12, x39_13, x39_16, x39_17, x39_20, x39_21, x39_24, x39_25, x39_26, x39_29, x39_30, x39_31, x39_32, x39_33, x39_34, x39_35, x39_36, x39_39, x39_40, x39_43, x39_44, e1, xb_f, Option.bind_some, Option.toList_some, Option.toList_none, List.cons_append, List.nil_append, Option.isSome_some, if_true, eq_self, or_true, true_or, xb_01, mcl_cl, not_true_eq_false, not_false_eq_true, if_false]
  · by_cases e2 : 8 ≤ k
    · rw [pMay_no (Or.inr (Or.inl e2))]
      simp only [x39_0, x39_1, x39_4, x39_5, x39_8, x39_9, x39_12, x39_13, x39_16, x39_17, x39_20, x39_21, x39_24, x39_25, x39_26, x39_29, x39_30, x39_31, x39_32, x39_33, x39_34, x39_35, x39_36, x39_39, x39_40, x39_43, x39_44, e1, e2, ro_len hx hg, n8, xb_f, Option.bind_some, Option.toList_some, Option.toList_none, List.cons_append, List.nil_append, Option.isSome_some, if_true, eq_self, or_true, true_or, xb_01, mcl_cl, not_true_eq_false, not_false_eq_true, if_false]
    · by_cases e3 : a < 0
      · rw [pMay_no (Or.inr (Or.inr (Or.inl e3)))]
        simp only [x39_0, x39_1, x39_4, x39_5, x39_8, x39_9, x39_12, x39_13, x39_16, x39_17, x39_20, x39_21, x39_24, x39_25, x39_26, x39_29, x39_30, x39_31, x39_32, x39_33, x39_34, x39_35, x39_36, x39_39, x39_40, x39_43, x39_44, e1, e2, e3, ro_len hx hg, n8, xb_f, Option.bind_some, Option.toList_some, Option.toList_none, List.cons_append, List.nil_append, Option.isSome_some, if_true, eq_self, or_true, true_or, xb_01, mcl_cl, not_true_eq_false, not_false_eq_true, if_false]
      · by_cases e4 : 8 ≤ a
        · rw [pMay_no (Or.inr (Or.inr (Or.inr e4)))]
          have e4' : ¬ a < 8 := Int32.not_lt.mpr e4
          simp only [x39_0, x39_1, x39_4, x39_5, x39_8, x39_9, x39_12, x39_13, x39_16, x39_17, x39_20, x39_21, x39_24, x39_25, x39_26, x39_29, x39_30, x39_31, x39_32, x39_33, x39_34, x39_35, x39_36, x39_39, x39_40, x39_43, x39_44, e1, e2, e3, e4', ro_len hx hg, n8, xb_f, Option.bind_some, Option.toList_some, Option.toList_none, List.cons_append, List.nil_append, Option.isSome_some, if_true, eq_self, or_true, true_or, xb_01, mcl_cl, not_true_eq_false, not_false_eq_true, if_false]
        · have e4' : a < 8 := Int32.not_le.mp e4
          have hk := xin_tn (xin_lt (l := 8) (by decide) e1 (by rw [n8]; exact e2))
          have ha := xin_tn (xin_lt (l := 8) (by decide) e3 (by rw [n8]; exact e4))
          have ht := may_tab (tn k) hk.2 (tn a) ha.2
          rw [← hk.1, ← ha.1] at ht
          have hin : xin k 8 = true := xin_lt (l := 8) (by decide) e1 (by rw [n8]; exact e2)
          rw [← ht]
          by_cases e5 : (xvs (tn k) >>> (a &&& 31)) &&& 1 = 1
          · rw [decide_eq_true e5]
            simp only [x39_0, x39_1, x39_4, x39_5, x39_8, x39_9, x39_12, x39_13, x39_16, x39_17, x39_20, x39_21, x39_24, x39_25, x39_26, x39_29, x39_30, x39_31, x39_32, x39_33, x39_34, x39_35, x39_36, x39_39, x39_40, x39_43, x39_44, e1, e2, e3, e4', ro_len hx hg, ro_ld hx hg, hin, cl_tn, n8, e5, xb_t, Option.bind_some, Option.toList_some, Option.toList_none, List.cons_append, List.nil_append, Option.isSome_some, if_true, eq_self, or_true, true_or, xb_01, mcl_cl, not_true_eq_false, not_false_eq_true, if_false]
          · rw [decide_eq_false e5]
            simp only [x39_0, x39_1, x39_4, x39_5, x39_8, x39_9, x39_12, x39_13, x39_16, x39_17, x39_20, x39_21, x39_24, x39_25, x39_26, x39_29, x39_30, x39_31, x39_32, x39_33, x39_34, x39_35, x39_36, x39_39, x39_40, x39_43, x39_44, e1, e2, e3, e4', ro_len hx hg, ro_ld hx hg, hin, cl_tn, n8, e5, xb_f, Option.bind_some, Option.toList_some, Option.toList_none, List.cons_append, List.nil_append, Option.isSome_some, if_true, eq_self, or_true, true_or, xb_01, mcl_cl, not_true_eq_false, not_false_eq_true, if_false]
/-- a long that orders numbers of a kind -/
def sRk (k : Int32) (v : Int64) : Int64 := if v.toInt < 0 ∧ k = 6 then -(v &&& 2147483647) else if v.toInt < 0 ∧ k = 7 then -(v &&& 9223372036854775807) else v
theorem c45 : X g 45 0 [.val (.int k), .val (.long v), .second] [] h = some (some (.long (sRk k v)), h) := by
  unfold sRk
  by_cases e1 : v.toInt < 0
  · have e1' : v.toInt < (0 : Int64).toInt := e1
    by_cases e2 : k = 6
    · rw [if_pos ⟨e1, e2⟩]
      simp only [x45_0, x45_1, x45_2, x45_3, x45_6, x45_7, x45_9, x45_12, x45_13, x45_16, x45_17, x45_18, x45_19, x45_20, x45_21, x45_22, x45_25, x45_26, x45_28, x45_31, x45_32, x45_35, x45_36, x45_37, x45_38, x45_39, lcmp_ge0, e1', e2, Option.bind_some, Option.toList_some, Option.toList_none, List.cons_append, List.nil_append, Option.isSome_some, if_true, eq_self, or_true, true_or, xb_01, mcl_cl, not_true_eq_false, not_false_eq_true, if_false]
    · rw [if_neg (fun z => e2 z.2)]
      by_cases e3 : k = 7
      · rw [if_pos ⟨e1, e3⟩]
        subst e3
        simp only [x45_0, x45_1, x45_2, x45_3, x45_6, x45_7, x45_9, x45_12, x45_13, x45_16, x45_17, x45_18, x45_19, x45_20, x45_21, x45_22, x45_25, x45_26, x45_28, x45_31, x45_32, x45_35, x45_36, x45_37, x45_38, x45_39, lcmp_ge0, e1', e2, Option.bind_some, Option.toList_some, Option.toList_none, List.cons_append, List.nil_append, Option.isSome_some, if_true, eq_self, or_true, true_or, xb_01, mcl_cl, not_true_eq_false, not_false_eq_true, if_false]
      · rw [if_neg (fun z => e3 z.2)]
        simp only [x45_0, x45_1, x45_2, x45_3, x45_6, x45_7, x45_9, x45_12, x45_13, x45_16, x45_17, x45_18, x45_19, x45_20, x45_21, x45_22, x45_25, x45_26, x45_28, x45_31, x45_32, x45_35, x45_36, x45_37, x45_38, x45_39, lcmp_ge0, e1', e2, e3, Option.bind_some, Option.toList_some, Option.toList_none, List.cons_append, List.nil_append, Option.isSome_some, if_true, eq_self, or_true, true_or, xb_01, mcl_cl, not_true_eq_false, not_false_eq_true, if_false]
  · have e1' : ¬ v.toInt < (0 : Int64).toInt := e1
    rw [if_neg (fun z => e1 z.1), if_neg (fun z => e1 z.1)]
    simp only [x45_0, x45_1, x45_2, x45_3, x45_6, x45_7, x45_9, x45_12, x45_13, x45_16, x45_17, x45_18, x45_19, x45_20, x45_21, x45_22, x45_25, x45_26, x45_28, x45_31, x45_32, x45_35, x45_36, x45_37, x45_38, x45_39, lcmp_ge0, e1', Option.bind_some, Option.toList_some, Option.toList_none, List.cons_append, List.nil_append, Option.isSome_some, if_true, eq_self, or_true, true_or, xb_01, mcl_cl, not_true_eq_false, not_false_eq_true, if_false]
theorem rk7 (d : UInt64) : (sRk 7 d.toInt64).toInt = FP.Core.dkey d := by
  have hlt := d.toNat_lt
  have hn : n64 d.toInt64 = d.toNat := rfl
  unfold sRk FP.Core.dkey
  rw [if_neg (fun z => absurd z.2 (by decide))]
  by_cases s : 2 ^ 63 ≤ d.toNat
  · rw [if_pos ⟨n64_neg.mpr (by rw [hn]; exact s), rfl⟩, if_pos s]
    have h1 : n64 (d.toInt64 &&& 9223372036854775807) = d.toNat % 2 ^ 63 := by rw [n64_mask (c := 63) (by decide), hn]
    rw [Int64.toInt_neg, n64_i64 h1 (Nat.mod_lt _ (by decide)), i64_bm (by omega) (by omega)]
    omega
  · rw [if_neg (fun z => s (by have := n64_neg.mp z.1; rw [hn] at this; exact this)), if_neg s, n64_i64 hn (by omega)]
def fky (f : UInt32) : Int := if 2 ^ 31 ≤ f.toNat then ((2 ^ 31 : Nat) : Int) - (f.toNat : Int) else (f.toNat : Int)
theorem rk6 (f : UInt32) : (sRk 6 f.toInt32.toInt64).toInt = fky f := by
  have hlt := f.toNat_lt
  have hn := n64_f f
  unfold sRk fky
  by_cases s : 2 ^ 31 ≤ f.toNat
  · rw [if_neg (by omega)] at hn
    rw [if_pos ⟨n64_neg.mpr (by rw [hn]; omega), rfl⟩, if_pos s]
    have h1 : n64 (f.toInt32.toInt64 &&& 2147483647) = f.toNat % 2 ^ 31 := by
      rw [n64_mask (c := 31) (by decide), hn]
      omega
    rw [Int64.toInt_neg, n64_i64 h1 (by omega), i64_bm (by omega) (by omega)]
    omega
  · rw [if_pos (by omega)] at hn
    rw [if_neg (fun z => s (by have := n64_neg.mp z.1; rw [hn] at this; omega)), if_neg (fun z => absurd z.2 (by decide)), if_neg s, n64_i64 hn (by omega)]
/-- a float's place among floats, and its double's among doubles -/
theorem fky_d (hn : f.toNat % 2 ^ 31 = 0 ∨ (2 ^ 23 ≤ f.toNat % 2 ^ 31 ∧ f.toNat % 2 ^ 31 < 255 * 2 ^ 23)) : FP.Core.dkey (FP.Core.f2d f) = if fky f = 0 then 0 else if 0 < fky f then fky f * 2 ^ 29 + 896 * 2 ^ 52 else fky f * 2 ^ 29 - 896 * 2 ^ 52 := by
  have hlt := f.toNat_lt
  obtain ⟨s, hs, hsn⟩ : ∃ s, s ≤ 1 ∧ f.toNat = s * 2 ^ 31 + f.toNat % 2 ^ 31 := ⟨f.toNat / 2 ^ 31, by omega, by omega⟩
  rcases hn with hz | ⟨h1, h2⟩
  · have hf := f2d_z (f := f) (s := s) (hsn.trans (by rw [hz, Nat.add_zero])) hs
    have e : fky f = 0 := by
      unfold fky
      split <;> omega
    rw [if_pos e]
    unfold FP.Core.dkey
    rw [hf]
    split <;> omega
  · obtain ⟨E, F, hE, hE2, hF, hEF⟩ : ∃ E F, 1 ≤ E ∧ E < 255 ∧ F < 2 ^ 23 ∧ f.toNat % 2 ^ 31 = E * 2 ^ 23 + F := ⟨f.toNat % 2 ^ 31 / 2 ^ 23, f.toNat % 2 ^ 31 % 2 ^ 23, by omega, by omega, Nat.mod_lt _ (by decide), by omega⟩
    have hf := f2d_bits (f := f) (s := s) (E := E) (F := F) (by omega) hs hF hE hE2
    by_cases c : s = 1
    · have e1 : fky f = -((E * 2 ^ 23 + F : Nat) : Int) := by
        unfold fky
        rw [if_pos (by omega)]
        omega
      have e2 : FP.Core.dkey (FP.Core.f2d f) = -(((E + 896) * 2 ^ 52 + F * 2 ^ 29 : Nat) : Int) := by
        unfold FP.Core.dkey
        rw [hf, if_pos (by omega)]
        omega
      rw [e1, e2, if_neg (by omega), if_neg (by omega)]
      omega
    · have e1 : fky f = ((E * 2 ^ 23 + F : Nat) : Int) := by
        unfold fky
        rw [if_neg (by omega)]
        omega
      have e2 : FP.Core.dkey (FP.Core.f2d f) = (((E + 896) * 2 ^ 52 + F * 2 ^ 29 : Nat) : Int) := by
        unfold FP.Core.dkey
        rw [hf, if_neg (by omega)]
        omega
      rw [e1, e2, if_neg (by omega), if_pos (by omega)]
      omega
/-- numbers that are not whole: their order is that of the ranks -/
theorem rk_ord (hk : k = 6 ∨ k = 7) (hx : okv k x) (hy : okv k y) : pLt (pReal k x) (pReal k y) = decide ((sRk k x).toInt < (sRk k y).toInt) ∧ pSame (pReal k x) (pReal k y) = decide (sRk k x = sRk k y) := by
  have gen : ∀ d e : UInt64, FP.Core.DFin d → FP.Core.DFin e → pLt d e = decide (FP.Core.dkey d < FP.Core.dkey e) ∧ pSame d e = decide (FP.Core.dkey d = FP.Core.dkey e) := by
    intro d e hd he
    unfold pLt pSame
    rw [dcmp_of hd he]
    by_cases c1 : FP.Core.dkey d < FP.Core.dkey e
    · rw [icmp_lt c1, cv_lt, cv_lt]
      exact ⟨by rw [decide_eq_true c1]; decide, by rw [decide_eq_false (p := FP.Core.dkey d = FP.Core.dkey e) (by omega)]; decide⟩
    · by_cases c2 : FP.Core.dkey d = FP.Core.dkey e
      · rw [icmp_eq c2, cv_eq, cv_eq]
        exact ⟨by rw [decide_eq_false c1]; decide, by rw [decide_eq_true c2]; decide⟩
      · rw [icmp_gt (by omega), cv_gt, cv_gt]
        exact ⟨by rw [decide_eq_false c1]; decide, by rw [decide_eq_false c2]; decide⟩
  have heq : ∀ p q : Int64, decide (p = q) = decide (p.toInt = q.toInt) := fun p q => decide_eq_decide.mpr Int64.toInt_inj.symm
  obtain ⟨g1, g2⟩ := gen (pReal k x) (pReal k y) (okv_fin hx) (okv_fin hy)
  rw [g1, g2]
  rcases hk with e | e
  · subst e
    have f1 := okv_f6 hx
    have f2 := okv_f6 hy
    obtain ⟨x1, x2⟩ := okv_6 hx
    obtain ⟨y1, y2⟩ := okv_6 hy
    have px : pReal 6 x = FP.Core.f2d x.toInt32.toUInt32 := by unfold pReal; rw [if_pos rfl, f2d_core f1]
    have py : pReal 6 y = FP.Core.f2d y.toInt32.toUInt32 := by unfold pReal; rw [if_pos rfl, f2d_core f2]
    have r1 := rk6 x.toInt32.toUInt32
    have r2 := rk6 y.toInt32.toUInt32
    rw [← x1] at r1
    rw [← y1] at r2
    have d1 := fky_d x2
    have d2 := fky_d y2
    rw [px, py, heq, r1, r2, d1, d2]
    generalize fky x.toInt32.toUInt32 = A
    generalize fky y.toInt32.toUInt32 = B
    refine ⟨decide_eq_decide.mpr ?_, decide_eq_decide.mpr ?_⟩
    · split <;> split <;> (try split) <;> (try split) <;> omega
    · split <;> split <;> (try split) <;> (try split) <;> omega
  · subst e
    have px : pReal 7 x = x.toUInt64 := by unfold pReal; rw [if_neg (by decide), if_pos rfl]
    have py : pReal 7 y = y.toUInt64 := by unfold pReal; rw [if_neg (by decide), if_pos rfl]
    have r1 : (sRk 7 x).toInt = FP.Core.dkey x.toUInt64 := rk7 x.toUInt64
    have r2 : (sRk 7 y).toInt = FP.Core.dkey y.toUInt64 := rk7 y.toUInt64
    rw [px, py, heq, r1, r2]
    exact ⟨rfl, rfl⟩
/-- numbers alike as doubles -/
theorem rk_alike (hx : okv k x) (hy : okv a y) : pSame (pReal k x) (pReal a y) = decide (sRk 7 (pReal k x).toInt64 = sRk 7 (pReal a y).toInt64) := by
  have h1 := (rk_ord (k := 7) (x := (pReal k x).toInt64) (y := (pReal a y).toInt64) (Or.inr rfl) (okv_7 (okv_fin hx)) (okv_7 (okv_fin hy))).2
  have p1 : pReal 7 (pReal k x).toInt64 = pReal k x := by
    show (if (7 : Int32) = 6 then _ else if (7 : Int32) = 7 then (pReal k x).toInt64.toUInt64 else _) = _
    rw [if_neg (by decide), if_pos rfl]
    rfl
  have p2' : pReal 7 (pReal a y).toInt64 = pReal a y := by
    show (if (7 : Int32) = 6 then _ else if (7 : Int32) = 7 then (pReal a y).toInt64.toUInt64 else _) = _
    rw [if_neg (by decide), if_pos rfl]
    rfl
  rw [p1, p2'] at h1
  exact h1
theorem pView_7 (hk : ¬ k = 7) : pView k v 7 = (pReal k v).toInt64 := by
  unfold pView
  rw [if_neg hk, if_neg (by decide), if_neg (by decide)]
theorem pView_77 : pView 7 v 7 = (pReal 7 v).toInt64 := by
  unfold pView pReal
  rw [if_pos rfl, if_neg (by decide), if_pos rfl]
  rfl
theorem pView_r : pView k v 7 = (pReal k v).toInt64 := by
  by_cases e : k = 7
  · subst e
    exact pView_77
  · exact pView_7 e
/-- the sign of an int as a float, as a double -/
theorem sgn_i2f (m : Int32) : FP.Core.sgn (FP.Core.decode FP.Core.b32 (FP.i2f m).toNat) = decide (m.toInt < 0) := by
  have h1 : FP.Core.val32 (FP.i2f m) = FP.Core.round FP.Core.b32 (FP.Core.ofInt m.toInt) := FP.Core.val32_i2f m
  show FP.Core.sgn (FP.Core.val32 (FP.i2f m)) = _
  rw [h1]
  show FP.Core.sgn (FP.Core.roundRatio FP.Core.b32 (decide (m.toInt < 0)) m.toInt.natAbs 1 0) = _
  rw [FP.Core.sgn_roundRatio]
theorem sgn_i2d (m : Int32) : FP.Core.sgn (FP.Core.decode FP.Core.b64 (FP.i2d m).toNat) = decide (m.toInt < 0) := by
  have h1 : FP.Core.val64 (FP.i2d m) = FP.Core.round FP.Core.b64 (FP.Core.ofInt m.toInt) := FP.Core.val64_i2d m
  show FP.Core.sgn (FP.Core.val64 (FP.i2d m)) = _
  rw [h1]
  show FP.Core.sgn (FP.Core.roundRatio FP.Core.b64 (decide (m.toInt < 0)) m.toInt.natAbs 1 0) = _
  rw [FP.Core.sgn_roundRatio]
theorem fquo_z (hm : ¬ m = 0) : (FP.fdiv (FP.i2f 0) (FP.i2f m)).toNat = if m.toInt < 0 then 2 ^ 31 else 0 := by
  have hy' : m.toInt ≠ 0 := fun z => hm (Int32.toInt_inj.mp z)
  have b1 := FP.Core.i2f_big hy'
  have h1 : (FP.fdiv (FP.i2f 0) (FP.i2f m)).toNat = FP.Core.div FP.Core.b32 (FP.i2f 0).toNat (FP.i2f m).toNat := FP.Core.toNat_of32 (FP.Core.quotient_fits FP.Core.good_b32 _ _)
  obtain ⟨c, d, e0, e, h2, _⟩ := div_decs FP.Core.good_b32 (x := (FP.i2f 0).toNat) (y := (FP.i2f m).toNat) (L := 127) (by decide +kernel) (by rw [FP.Core.mag_toNat32, FP.Core.tails_b32]; exact b1.1) (by rw [FP.Core.mag_toNat32, FP.Core.infBits_b32]; exact b1.2) (by decide)
  have hz := (fquo (x := 0) hm).1 rfl
  have hlt := (FP.fdiv (FP.i2f 0) (FP.i2f m)).toNat_lt
  have h5 := FP.Core.sgn_decode (f := FP.Core.b32) (n := FP.Core.div FP.Core.b32 (FP.i2f 0).toNat (FP.i2f m).toNat) (by rw [← h1, FP.Core.mag_toNat32, hz, FP.Core.infBits_b32]; decide) (by rw [← h1, FP.Core.half_b32]; omega)
  rw [h2, FP.Core.sgn_roundRatio, sgn_i2f, sgn_i2f, FP.Core.half_b32, ← h1] at h5
  by_cases c2 : m.toInt < 0
  · rw [if_pos c2]
    rw [decide_eq_true c2] at h5
    have h6 : 2 ^ 31 ≤ (FP.fdiv (FP.i2f 0) (FP.i2f m)).toNat := of_decide_eq_true (h5.symm.trans (by decide))
    omega
  · rw [if_neg c2]
    rw [decide_eq_false c2] at h5
    have h6 : ¬ 2 ^ 31 ≤ (FP.fdiv (FP.i2f 0) (FP.i2f m)).toNat := of_decide_eq_false (h5.symm.trans (by decide))
    omega
theorem dquo_z (hm : ¬ m = 0) : (FP.ddiv (FP.i2d 0) (FP.i2d m)).toNat = if m.toInt < 0 then 2 ^ 63 else 0 := by
  have hy' : m.toInt ≠ 0 := fun z => hm (Int32.toInt_inj.mp z)
  have b1 := FP.Core.i2d_big hy'
  have h1 : (FP.ddiv (FP.i2d 0) (FP.i2d m)).toNat = FP.Core.div FP.Core.b64 (FP.i2d 0).toNat (FP.i2d m).toNat := FP.Core.toNat_of64 (FP.Core.quotient_fits FP.Core.good_b64 _ _)
  obtain ⟨c, d, e0, e, h2, _⟩ := div_decs FP.Core.good_b64 (x := (FP.i2d 0).toNat) (y := (FP.i2d m).toNat) (L := 1023) (by decide +kernel) (by rw [FP.Core.mag_toNat64, FP.Core.tails_b64]; exact b1.1) (by rw [FP.Core.mag_toNat64, FP.Core.infBits_b64]; exact b1.2) (by decide)
  have hz := (dquo (x := 0) hm).1 rfl
  have hlt := (FP.ddiv (FP.i2d 0) (FP.i2d m)).toNat_lt
  have h5 := FP.Core.sgn_decode (f := FP.Core.b64) (n := FP.Core.div FP.Core.b64 (FP.i2d 0).toNat (FP.i2d m).toNat) (by rw [← h1, FP.Core.mag_toNat64, hz, FP.Core.infBits_b64]; decide) (by rw [← h1, FP.Core.half_b64]; omega)
  rw [h2, FP.Core.sgn_roundRatio, sgn_i2d, sgn_i2d, FP.Core.half_b64, ← h1] at h5
  by_cases c2 : m.toInt < 0
  · rw [if_pos c2]
    rw [decide_eq_true c2] at h5
    have h6 : 2 ^ 63 ≤ (FP.ddiv (FP.i2d 0) (FP.i2d m)).toNat := of_decide_eq_true (h5.symm.trans (by decide))
    omega
  · rw [if_neg c2]
    rw [decide_eq_false c2] at h5
    have h6 : ¬ 2 ^ 63 ≤ (FP.ddiv (FP.i2d 0) (FP.i2d m)).toNat := of_decide_eq_false (h5.symm.trans (by decide))
    omega
theorem c48 : X g 48 0 [.val (.int k), .val (.int m)] [] h = some (some (.long (if m = 0 then 0 else if k = 6 then -2147483648 else -9223372036854775808)), h) := by
  by_cases e1 : m = 0
  · simp only [x48_0, x48_1, x48_4, x48_5, x48_6, x48_7, x48_9, x48_12, x48_15, x48_18, x48_21, e1, Option.bind_some, Option.toList_some, Option.toList_none, List.cons_append, List.nil_append, Option.isSome_some, if_true, eq_self, or_true, true_or, xb_01, mcl_cl, not_true_eq_false, not_false_eq_true, if_false]
  · by_cases e2 : k = 6 <;> simp only [x48_0, x48_1, x48_4, x48_5, x48_6, x48_7, x48_9, x48_12, x48_15, x48_18, x48_21, e1, e2, Option.bind_some, Option.toList_some, Option.toList_none, List.cons_append, List.nil_append, Option.isSome_some, if_true, eq_self, or_true, true_or, xb_01, mcl_cl, not_true_eq_false, not_false_eq_true, if_false]
theorem c42 (hk : k = 6 ∨ k = 7) (hm : ¬ m = 0) : X g 42 0 [.val (.int k), .val (.int j), .val (.int m)] [] h = some (some (.long (pQuo k j m)), h) := by
  by_cases ej : j = 0
  · subst ej
    have hp : pQuo k 0 m = if m.toInt < 0 then (if k = 6 then -2147483648 else -9223372036854775808) else 0 := by
      unfold pQuo
      rcases hk with e | e
      · subst e
        rw [if_pos rfl, if_pos rfl]
        have h1 := fquo_z hm
        apply n64_inj
        rw [n64_f, h1]
        by_cases c : m.toInt < 0
        · rw [if_pos c, if_pos c]
          decide
        · rw [if_neg c, if_neg c]
          decide
      · subst e
        rw [if_neg (show ¬ (7 : Int32) = 6 by decide), if_neg (show ¬ (7 : Int32) = 6 by decide)]
        have h1 := dquo_z hm
        apply n64_inj
        show (FP.ddiv (FP.i2d 0) (FP.i2d m)).toNat = _
        rw [h1]
        by_cases c : m.toInt < 0
        · rw [if_pos c, if_pos c]
          decide
        · rw [if_neg c, if_neg c]
          decide
    rw [hp]
    by_cases c : m.toInt < 0
    · have c' : ¬ (0 : Int32) ≤ m := by rw [i32_le, show (0 : Int32).toInt = 0 from rfl]; omega
      have z1 : ¬ (1 : Int32) = 0 := by decide
      rw [if_pos c]
      simp only [x42_0, x42_1, x42_4, x42_5, x42_8, x42_9, x42_10, x42_13, x42_14, x42_17, x42_18, x42_21, x42_22, x42_23, x42_25, x42_28, x42_29, x42_30, x42_31, x42_32, x42_33, x42_34, x42_37, x42_40, x42_41, x42_42, x42_43, x42_44, x42_45, x42_46, x42_49, c', c48, z1, Option.bind_some, Option.toList_some, Option.toList_none, List.cons_append, List.nil_append, Option.isSome_some, if_true, eq_self, or_true, true_or, xb_01, mcl_cl, not_true_eq_false, not_false_eq_true, if_false]
    · have c' : (0 : Int32) ≤ m := by rw [i32_le, show (0 : Int32).toInt = 0 from rfl]; omega
      rw [if_neg c]
      simp only [x42_0, x42_1, x42_4, x42_5, x42_8, x42_9, x42_10, x42_13, x42_14, x42_17, x42_18, x42_21, x42_22, x42_23, x42_25, x42_28, x42_29, x42_30, x42_31, x42_32, x42_33, x42_34, x42_37, x42_40, x42_41, x42_42, x42_43, x42_44, x42_45, x42_46, x42_49, c', c48, Option.bind_some, Option.toList_some, Option.toList_none, List.cons_append, List.nil_append, Option.isSome_some, if_true, eq_self, or_true, true_or, xb_01, mcl_cl, not_true_eq_false, not_false_eq_true, if_false]
  · unfold pQuo
    rcases hk with e | e
    · subst e
      rw [if_pos rfl]
      obtain ⟨q1, q2, q3⟩ := fquo (x := j) hm
      have h2 := q2 ej
      have hn := fin32 (fquo_fin (x := j) hm)
      obtain ⟨n1, D, n2, n3⟩ := flt2 (g := g) (h := h) (f := FP.fdiv (FP.i2f j) (FP.i2f m)) (Or.inr ⟨h2, by omega⟩)
      simp only [x42_0, x42_1, x42_4, x42_5, x42_8, x42_9, x42_10, x42_13, x42_14, x42_17, x42_18, x42_21, x42_22, x42_23, x42_25, x42_28, x42_29, x42_30, x42_31, x42_32, x42_33, x42_34, x42_37, x42_40, x42_41, x42_42, x42_43, x42_44, x42_45, x42_46, x42_49, ej, hm, x42_32 hn, x42_33 n1, n2, n3, Option.bind_some, Option.toList_some, Option.toList_none, List.cons_append, List.nil_append, Option.isSome_some, if_true, eq_self, or_true, true_or, xb_01, mcl_cl, not_true_eq_false, not_false_eq_true, if_false]
    · subst e
      rw [if_neg (by decide)]
      obtain ⟨q1, q2, q3⟩ := dquo (x := j) hm
      have h2 := q2 ej
      have hn := fin64 (dquo_fin (x := j) hm)
      have z1 : ¬ (7 : Int32) = 6 := by decide
      have h3 := c50 (g := g) (h := h) (d := FP.ddiv (FP.i2d j) (FP.i2d m)) (E := (FP.ddiv (FP.i2d j) (FP.i2d m)).toNat % 2 ^ 63 / 2 ^ 52) (F := (FP.ddiv (FP.i2d j) (FP.i2d m)).toNat % 2 ^ 63 % 2 ^ 52) (by omega) (by omega) (by omega) (Nat.mod_lt _ (by decide))
      simp only [x42_0, x42_1, x42_4, x42_5, x42_8, x42_9, x42_10, x42_13, x42_14, x42_17, x42_18, x42_21, x42_22, x42_23, x42_25, x42_28, x42_29, x42_30, x42_31, x42_32, x42_33, x42_34, x42_37, x42_40, x42_41, x42_42, x42_43, x42_44, x42_45, x42_46, x42_49, ej, hm, z1, x42_45 hn, h3, Option.bind_some, Option.toList_some, Option.toList_none, List.cons_append, List.nil_append, Option.isSome_some, if_true, eq_self, or_true, true_or, xb_01, mcl_cl, not_true_eq_false, not_false_eq_true, if_false]
end K7
