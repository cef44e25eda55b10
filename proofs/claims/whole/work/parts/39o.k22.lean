/-! THE CLASS beside the reference, 9: small calls, 2 -/
section K22
variable {g : xG} {n kc ks a b c s t w q l x y jn d r p n' e : Nat} {G T U : GS} {h : xH} {i j k m v : Int32} {u z : Int64} {o : Option Nat} {S S1 S' : MS} {ρ κ : Nat → Nat} {L L' : List Nat} {cnt : Nat} {at' wk ik : Nat → Int32} {wv iv : Nat → Int64}
theorem i32_add9 (hc : d ≤ 64) : (9 + nI d).toInt = 9 + (d : Int) := by
  have : (9 : Int32) + nI d = nI (9 + d) := by rw [show (9 : Int32) = nI 9 from rfl, nI_add]
  rw [this, nI_toInt (by omega)]
  omega
theorem xin_sub10 (hc : d ≤ 64) : xin (j - 10) d = mWithin j.toInt 10 (9 + nI d).toInt := by
  rw [xin_wi (by omega), i32_add9 hc, i32_pred (by rw [nI_toInt (by omega)]; omega), nI_toInt (by omega)]
  have e : (j - 10).toInt = (j.toInt - 10).bmod (2 ^ 32) := by rw [Int32.toInt_sub]; rfl
  have b1 : -2147483648 ≤ j.toInt := j.le_toInt
  have b2 : j.toInt < 2147483648 := j.toInt_lt
  have e2 : (j.toInt - 10).bmod (2 ^ 32) = j.toInt - 10 ∨ ((j.toInt - 10).bmod (2 ^ 32) = j.toInt - 10 + 4294967296 ∧ j.toInt < -2147483638) := by
    rw [Int.bmod_def]
    omega
  rw [e]
  apply Bool.eq_iff_iff.mpr
  rw [mWithin_iff, mWithin_iff]
  omega
theorem tn_sub10 (h : 10 ≤ j.toInt) : tn (j - 10) = tn j - 10 := by
  have e : (j - 10).toInt = (j.toInt - 10).bmod (2 ^ 32) := by rw [Int32.toInt_sub]; rfl
  have b2 : j.toInt < 2147483648 := j.toInt_lt
  have e2 : (j.toInt - 10).bmod (2 ^ 32) = j.toInt - 10 := by
    rw [Int.bmod_def]
    omega
  unfold tn
  rw [e, e2]
  omega
theorem s114 (hA : rA g G c n b ρ S) (hp : G.2.2.1 (c + 7) 1 = 0) : sim g c n kc ks G 114 [.val (va_rf (some c)), .val (.int i), .val (.int j), .unset] (.int (fAct S i j)) S := by
  obtain ⟨d, e, h1, h2, h3, h4⟩ := hA.2.2.2.2.2.2.1.2.2.1
  have hj := rA_jL hA
  have hd : G.2.2.1 (c + 7) 3 = nI d := by rw [hA.2.2.2.2.2.2.1.1]; exact h1
  have k36 := c36 (g := g) (n := n) (kc := kc) (ks := ks) (i := i) hj hd (by omega)
  have k0 : G.1 c = 15 := hA.1.2.1.1
  refine sim_same hA hp ?_
  unfold fAct
  rw [h1, ← xin_wi (i := i) (d := d) (by omega)]
  cases e1 : xin i d with
  | false =>
    rw [if_pos rfl]
    rw [e1, if_neg (by simp)] at k36
    simp only [x114_0, x114_1, x114_4, x114_5, x114_8, x114_9, x114_10, x114_13, x114_14, x114_15, x114_16, x114_19, x114_20, x114_23, x114_26, x114_27, x114_28, x114_30, x114_31, x114_34, gf_15_6 k0, gc_20 hj.1, k36, Option.bind_some, Option.toList_some, Option.toList_none, List.cons_append, List.nil_append, Option.isSome_some, if_true, eq_self, or_true, true_or, xb_01, mcl_cl, not_true_eq_false, not_false_eq_true, if_false]
  | true =>
    rw [if_neg (by simp)]
    obtain ⟨z1, z2⟩ := xin_tn e1
    obtain ⟨t, t1, t2, t3, t4, t5, t6⟩ := hA.2.2.2.2.2.2.1.2.2.2.2 (tn i) (by rw [h2, tn_nI (by omega)]; omega)
    rw [e1, if_pos rfl, show c + 7 + 2 = c + 9 from rfl, t1] at k36
    have hne : ¬ (some t = none) := by simp
    have k1 := c1 (g := g) (n := n) (kc := kc) (ks := ks) hA.1.1 t2
    have hPu := rPu_ok hA.2.2.2.2.2.2.2.2.1.1 hA.2.2.1 t6
    have k2 := c2 (g := g) (n := n) (kc := kc) (ks := ks) (i := j - 10) hA.1.1 t2 (by rw [t3]; exact hPu)
    have e22 : nI (tn (S.2.2.1 22 (tn i))) = S.2.2.1 22 (tn i) := (nI_tn t4).symm
    rw [t3] at k1 k2
    rw [e22] at k1
    by_cases j0 : j = 0
    · rw [if_pos j0]
      simp only [x114_0, x114_1, x114_4, x114_5, x114_8, x114_9, x114_10, x114_13, x114_14, x114_15, x114_16, x114_19, x114_20, x114_23, x114_26, x114_27, x114_28, x114_30, x114_31, x114_34, gf_15_6 k0, gc_20 hj.1, k36, hne, j0, gc_6 t2, k1, Option.bind_some, Option.toList_some, Option.toList_none, List.cons_append, List.nil_append, Option.isSome_some, if_true, eq_self, or_true, true_or, xb_01, mcl_cl, not_true_eq_false, not_false_eq_true, if_false]
    · rw [if_neg j0]
      rw [xin_sub10 t5, e22] at k2
      cases e2 : mWithin j.toInt 10 (9 + S.2.2.1 22 (tn i)).toInt with
      | false =>
        rw [if_pos rfl]
        rw [e2, if_neg (by simp)] at k2
        simp only [x114_0, x114_1, x114_4, x114_5, x114_8, x114_9, x114_10, x114_13, x114_14, x114_15, x114_16, x114_19, x114_20, x114_23, x114_26, x114_27, x114_28, x114_30, x114_31, x114_34, gf_15_6 k0, gc_20 hj.1, k36, hne, j0, gc_6 t2, k2, Option.bind_some, Option.toList_some, Option.toList_none, List.cons_append, List.nil_append, Option.isSome_some, if_true, eq_self, or_true, true_or, xb_01, mcl_cl, not_true_eq_false, not_false_eq_true, if_false]
      | true =>
        rw [if_neg (by simp)]
        rw [e2, if_pos rfl] at k2
        have e3 := mWithin_iff.mp e2
        rw [← e22, i32_add9 t5] at e3
        have hk : tn (j - 10) < tn (S.2.2.1 22 (tn i)) := by
          rw [tn_sub10 e3.1]
          unfold tn at e3 ⊢
          omega
        obtain ⟨x, q1, q2, q3, q4, q5, _⟩ := t6 (tn (j - 10)) hk
        have hx : puX G (t + 1) (tn (j - 10)) = x := by unfold puX; rw [q1]; rfl
        rw [hx, q5, tn_sub10 e3.1] at k2
        simp only [x114_0, x114_1, x114_4, x114_5, x114_8, x114_9, x114_10, x114_13, x114_14, x114_15, x114_16, x114_19, x114_20, x114_23, x114_26, x114_27, x114_28, x114_30, x114_31, x114_34, gf_15_6 k0, gc_20 hj.1, k36, hne, j0, gc_6 t2, k2, Option.bind_some, Option.toList_some, Option.toList_none, List.cons_append, List.nil_append, Option.isSome_some, if_true, eq_self, or_true, true_or, xb_01, mcl_cl, not_true_eq_false, not_false_eq_true, if_false]
theorem s111 (hA : rA g G c n b ρ S) (hp : G.2.2.1 (c + 7) 1 = 0) : sim g c n kc ks G 111 [.val (va_rf (some c)), .val (.int i)] (.int (fStop S i)) S := by
  refine sim_same hA hp ?_
  have k0 : G.1 c = 15 := hA.1.2.1.1
  obtain ⟨_, _, _, r4, r5, _⟩ := hA.2.2.2.2.2.2.2.1
  have r50 : G.2.2.1 c 12 = S.2.2.1 26 0 := r5 0 (by decide)
  have r51 : G.2.2.1 c 13 = S.2.2.1 26 1 := r5 1 (by decide)
  have r52 : G.2.2.1 c 14 = S.2.2.1 26 2 := r5 2 (by decide)
  have e0 : (0 : Int32).toInt = 0 := rfl
  have e2 : (2 : Int32).toInt = 2 := rfl
  unfold fStop
  by_cases c1 : i < 0
  · have hw : mWithin i.toInt 0 2 = false := by
      rw [i32_lt, e0] at c1
      exact Bool.eq_false_iff.mpr (fun z => by have := mWithin_iff.mp z; omega)
    rw [hw, if_pos rfl]
    simp only [x111_0, x111_1, x111_4, x111_5, x111_6, x111_9, x111_10, x111_11, x111_12, x111_15, x111_18, x111_20, x111_21, x111_22_v0, x111_22_v1, x111_22_d, x111_48, x111_49, x111_52, x111_53, x111_54, x111_57, x111_58, x111_59, x111_62, c1, Option.bind_some, Option.toList_some, Option.toList_none, List.cons_append, List.nil_append, Option.isSome_some, if_true, eq_self, or_true, true_or, xb_01, mcl_cl, not_true_eq_false, not_false_eq_true, if_false]
  · by_cases c2 : i ≤ 2
    · have hw : mWithin i.toInt 0 2 = true := by
        rw [i32_lt, e0] at c1
        rw [i32_le, e2] at c2
        exact mWithin_iff.mpr ⟨by omega, c2⟩
      rw [hw, if_neg (by simp)]
      by_cases c3 : S.1 25 = 0
      · rw [if_pos c3]
        simp only [x111_0, x111_1, x111_4, x111_5, x111_6, x111_9, x111_10, x111_11, x111_12, x111_15, x111_18, x111_20, x111_21, x111_22_v0, x111_22_v1, x111_22_d, x111_48, x111_49, x111_52, x111_53, x111_54, x111_57, x111_58, x111_59, x111_62, c1, c2, gf_15_11 k0, r4, c3, Option.bind_some, Option.toList_some, Option.toList_none, List.cons_append, List.nil_append, Option.isSome_some, if_true, eq_self, or_true, true_or, xb_01, mcl_cl, not_true_eq_false, not_false_eq_true, if_false]
      · rw [if_neg c3]
        by_cases i0 : i = 0
        · subst i0
          simp only [x111_0, x111_1, x111_4, x111_5, x111_6, x111_9, x111_10, x111_11, x111_12, x111_15, x111_18, x111_20, x111_21, x111_22_v0, x111_22_v1, x111_22_d, x111_48, x111_49, x111_52, x111_53, x111_54, x111_57, x111_58, x111_59, x111_62, c1, c2, gf_15_11 k0, r4, c3, gf_15_12 k0, r50, Option.bind_some, Option.toList_some, Option.toList_none, List.cons_append, List.nil_append, Option.isSome_some, if_true, eq_self, or_true, true_or, xb_01, mcl_cl, not_true_eq_false, not_false_eq_true, if_false]
          rfl
        · by_cases i1 : i = 1
          · subst i1
            simp only [x111_0, x111_1, x111_4, x111_5, x111_6, x111_9, x111_10, x111_11, x111_12, x111_15, x111_18, x111_20, x111_21, x111_22_v0, x111_22_v1, x111_22_d, x111_48, x111_49, x111_52, x111_53, x111_54, x111_57, x111_58, x111_59, x111_62, c1, c2, gf_15_11 k0, r4, c3, gf_15_13 k0, r51, Option.bind_some, Option.toList_some, Option.toList_none, List.cons_append, List.nil_append, Option.isSome_some, if_true, eq_self, or_true, true_or, xb_01, mcl_cl, not_true_eq_false, not_false_eq_true, if_false]
            rfl
          · have hi2 : i = 2 := by
              have z0 := i32_ne i0
              have z1 := i32_ne i1
              have := mWithin_iff.mp hw
              have e1 : (1 : Int32).toInt = 1 := rfl
              rw [e0] at z0
              rw [e1] at z1
              exact Int32.toInt_inj.mp (by rw [e2]; omega)
            subst hi2
            have xd := x111_22_d (g := g) (h := gH n kc ks G) (a0 := 2) (o0 := some c) (i1 := 2) (by decide) (by decide)
            simp only [x111_0, x111_1, x111_4, x111_5, x111_6, x111_9, x111_10, x111_11, x111_12, x111_15, x111_18, x111_20, x111_21, x111_22_v0, x111_22_v1, x111_22_d, x111_48, x111_49, x111_52, x111_53, x111_54, x111_57, x111_58, x111_59, x111_62, c1, c2, gf_15_11 k0, r4, c3, gf_15_14 k0, r52, xd, Option.bind_some, Option.toList_some, Option.toList_none, List.cons_append, List.nil_append, Option.isSome_some, if_true, eq_self, or_true, true_or, xb_01, mcl_cl, not_true_eq_false, not_false_eq_true, if_false]
            rfl
    · have hw : mWithin i.toInt 0 2 = false := by
        rw [i32_le, e2] at c2
        exact Bool.eq_false_iff.mpr (fun z => by have := mWithin_iff.mp z; omega)
      rw [hw, if_pos rfl]
      simp only [x111_0, x111_1, x111_4, x111_5, x111_6, x111_9, x111_10, x111_11, x111_12, x111_15, x111_18, x111_20, x111_21, x111_22_v0, x111_22_v1, x111_22_d, x111_48, x111_49, x111_52, x111_53, x111_54, x111_57, x111_58, x111_59, x111_62, c1, c2, Option.bind_some, Option.toList_some, Option.toList_none, List.cons_append, List.nil_append, Option.isSome_some, if_true, eq_self, or_true, true_or, xb_01, mcl_cl, not_true_eq_false, not_false_eq_true, if_false]
end K22
