/-! THE CLASS beside the reference, 12: window, feed, read -/
section K25
variable {g : xG} {n kc ks a b c s t w q l x y jn d r p n' e kb : Nat} {G T U : GS} {h : xH} {i j k m v i1 i2 : Int32} {u z : Int64} {o : Option Nat} {S S1 S' : MS} {ρ κ : Nat → Nat} {L L' : List Nat} {cnt : Nat} {at' wk ik : Nat → Int32} {wv iv : Nat → Int64}
theorem c127w (e : mSlot i = true) : i = nI (tn i) ∧ tn i < 10 := xin_tn (slot_x e)
theorem s101 (hA : rA g G c n b ρ S) (hp : G.2.2.1 (c + 7) 1 = 0) : sim g c n kc ks G 101 [.val (va_rf (some c)), .val (.int i), .val (.int j), .val (.int k), .val (.int m), .val (.int i1), .val (.int i2), .unset] (.int (fWin S i j k m i1 i2).1) (fWin S i j k m i1 i2).2 := by
  have k0 : G.1 c = 15 := hA.1.2.1.1
  have hb := hA.2.1
  have hB := hA.2.2.1
  have k13 := c13 (g := g) (n := n) (kc := kc) (ks := ks) (i := i) hA.1.1 hB.1
  unfold bWin at k13
  unfold fWin
  cases e1 : mSl i with
  | false =>
    rw [e1, if_neg (by simp)] at k13
    rw [if_pos rfl]
    refine sim_same hA hp ?_
    simp only [x101_0, x101_1, x101_4, x101_5, x101_8, x101_10, x101_12, x101_15, x101_16, x101_19, x101_22, x101_23, x101_24, x101_25, x101_27, x101_30, x101_31, x101_33, x101_36, x101_38, x101_40, x101_43, x101_45, x101_46, x101_49, x101_51, x101_54, x101_56, x101_58, x101_61, x101_63, x101_66, x101_69, x101_71, x101_72, x101_74, x101_75, x101_76, x101_78, x101_80, x101_82, x101_85, x101_86, gf_15_9 k0, hb, gc_9 hB.1, k13, Option.bind_some, Option.toList_some, Option.toList_none, List.cons_append, List.nil_append, Option.isSome_some, if_true, eq_self, or_true, true_or, xb_01, mcl_cl, not_true_eq_false, not_false_eq_true, if_false]
  | true =>
    rw [e1, if_pos rfl] at k13
    rw [if_neg (by simp)]
    have hi : tn i < 6 := (xin_tn (sl_x e1)).2
    have h14 : G.1 (b + 5 + tn i) = 14 := (gW9 hA.1.1 hB.1).2.2.2.2.2.2.2.2 (tn i) hi
    have hne : ¬ (some (b + 5 + tn i) = none) := by simp
    cases e2 : mSlot j with
    | false =>
      rw [if_pos rfl]
      refine sim_same hA hp ?_
      simp only [x101_0, x101_1, x101_4, x101_5, x101_8, x101_10, x101_12, x101_15, x101_16, x101_19, x101_22, x101_23, x101_24, x101_25, x101_27, x101_30, x101_31, x101_33, x101_36, x101_38, x101_40, x101_43, x101_45, x101_46, x101_49, x101_51, x101_54, x101_56, x101_58, x101_61, x101_63, x101_66, x101_69, x101_71, x101_72, x101_74, x101_75, x101_76, x101_78, x101_80, x101_82, x101_85, x101_86, gf_15_9 k0, hb, gc_9 hB.1, k13, hne, c127, e2, xb_f, Option.bind_some, Option.toList_some, Option.toList_none, List.cons_append, List.nil_append, Option.isSome_some, if_true, eq_self, or_true, true_or, xb_01, mcl_cl, not_true_eq_false, not_false_eq_true, if_false]
    | true =>
      rw [if_neg (by simp)]
      have h10 : ¬ (1 : Int32) = 0 := by decide
      by_cases q1 : k < -9
      · rw [show mWithin k.toInt (-9) 40 = false from wi_1 (lo := -9) (hi := 40) q1]
        refine sim_same hA hp ?_
        simp only [x101_0, x101_1, x101_4, x101_5, x101_8, x101_10, x101_12, x101_15, x101_16, x101_19, x101_22, x101_23, x101_24, x101_25, x101_27, x101_30, x101_31, x101_33, x101_36, x101_38, x101_40, x101_43, x101_45, x101_46, x101_49, x101_51, x101_54, x101_56, x101_58, x101_61, x101_63, x101_66, x101_69, x101_71, x101_72, x101_74, x101_75, x101_76, x101_78, x101_80, x101_82, x101_85, x101_86, gf_15_9 k0, hb, gc_9 hB.1, k13, hne, c127, e2, xb_t, h10, q1, Option.bind_some, Option.toList_some, Option.toList_none, List.cons_append, List.nil_append, Option.isSome_some, if_true, eq_self, or_true, true_or, xb_01, mcl_cl, not_true_eq_false, not_false_eq_true, if_false]
        rfl
      · by_cases q2 : 40 < k
        · rw [show mWithin k.toInt (-9) 40 = false from wi_2 (lo := -9) (hi := 40) q2]
          refine sim_same hA hp ?_
          simp only [x101_0, x101_1, x101_4, x101_5, x101_8, x101_10, x101_12, x101_15, x101_16, x101_19, x101_22, x101_23, x101_24, x101_25, x101_27, x101_30, x101_31, x101_33, x101_36, x101_38, x101_40, x101_43, x101_45, x101_46, x101_49, x101_51, x101_54, x101_56, x101_58, x101_61, x101_63, x101_66, x101_69, x101_71, x101_72, x101_74, x101_75, x101_76, x101_78, x101_80, x101_82, x101_85, x101_86, gf_15_9 k0, hb, gc_9 hB.1, k13, hne, c127, e2, xb_t, h10, q1, q2, Option.bind_some, Option.toList_some, Option.toList_none, List.cons_append, List.nil_append, Option.isSome_some, if_true, eq_self, or_true, true_or, xb_01, mcl_cl, not_true_eq_false, not_false_eq_true, if_false]
          rfl
        · rw [show mWithin k.toInt (-9) 40 = true from wi_3 (lo := -9) (hi := 40) q1 q2]
          by_cases q3 : m < -3
          · rw [show mWithin m.toInt (-3) 3 = false from wi_1 (lo := -3) (hi := 3) q3]
            refine sim_same hA hp ?_
            simp only [x101_0, x101_1, x101_4, x101_5, x101_8, x101_10, x101_12, x101_15, x101_16, x101_19, x101_22, x101_23, x101_24, x101_25, x101_27, x101_30, x101_31, x101_33, x101_36, x101_38, x101_40, x101_43, x101_45, x101_46, x101_49, x101_51, x101_54, x101_56, x101_58, x101_61, x101_63, x101_66, x101_69, x101_71, x101_72, x101_74, x101_75, x101_76, x101_78, x101_80, x101_82, x101_85, x101_86, gf_15_9 k0, hb, gc_9 hB.1, k13, hne, c127, e2, xb_t, h10, q1, q2, q3, Option.bind_some, Option.toList_some, Option.toList_none, List.cons_append, List.nil_append, Option.isSome_some, if_true, eq_self, or_true, true_or, xb_01, mcl_cl, not_true_eq_false, not_false_eq_true, if_false]
            rfl
          · by_cases q4 : 3 < m
            · rw [show mWithin m.toInt (-3) 3 = false from wi_2 (lo := -3) (hi := 3) q4]
              refine sim_same hA hp ?_
              simp only [x101_0, x101_1, x101_4, x101_5, x101_8, x101_10, x101_12, x101_15, x101_16, x101_19, x101_22, x101_23, x101_24, x101_25, x101_27, x101_30, x101_31, x101_33, x101_36, x101_38, x101_40, x101_43, x101_45, x101_46, x101_49, x101_51, x101_54, x101_56, x101_58, x101_61, x101_63, x101_66, x101_69, x101_71, x101_72, x101_74, x101_75, x101_76, x101_78, x101_80, x101_82, x101_85, x101_86, gf_15_9 k0, hb, gc_9 hB.1, k13, hne, c127, e2, xb_t, h10, q1, q2, q3, q4, Option.bind_some, Option.toList_some, Option.toList_none, List.cons_append, List.nil_append, Option.isSome_some, if_true, eq_self, or_true, true_or, xb_01, mcl_cl, not_true_eq_false, not_false_eq_true, if_false]
              rfl
            · rw [show mWithin m.toInt (-3) 3 = true from wi_3 (lo := -3) (hi := 3) q3 q4]
              by_cases q5 : i1 < 0
              · rw [show mWithin i1.toInt 0 32 = false from wi_1 (lo := 0) (hi := 32) q5]
                refine sim_same hA hp ?_
                simp only [x101_0, x101_1, x101_4, x101_5, x101_8, x101_10, x101_12, x101_15, x101_16, x101_19, x101_22, x101_23, x101_24, x101_25, x101_27, x101_30, x101_31, x101_33, x101_36, x101_38, x101_40, x101_43, x101_45, x101_46, x101_49, x101_51, x101_54, x101_56, x101_58, x101_61, x101_63, x101_66, x101_69, x101_71, x101_72, x101_74, x101_75, x101_76, x101_78, x101_80, x101_82, x101_85, x101_86, gf_15_9 k0, hb, gc_9 hB.1, k13, hne, c127, e2, xb_t, h10, q1, q2, q3, q4, q5, Option.bind_some, Option.toList_some, Option.toList_none, List.cons_append, List.nil_append, Option.isSome_some, if_true, eq_self, or_true, true_or, xb_01, mcl_cl, not_true_eq_false, not_false_eq_true, if_false]
                rfl
              · by_cases q6 : 32 < i1
                · rw [show mWithin i1.toInt 0 32 = false from wi_2 (lo := 0) (hi := 32) q6]
                  refine sim_same hA hp ?_
                  simp only [x101_0, x101_1, x101_4, x101_5, x101_8, x101_10, x101_12, x101_15, x101_16, x101_19, x101_22, x101_23, x101_24, x101_25, x101_27, x101_30, x101_31, x101_33, x101_36, x101_38, x101_40, x101_43, x101_45, x101_46, x101_49, x101_51, x101_54, x101_56, x101_58, x101_61, x101_63, x101_66, x101_69, x101_71, x101_72, x101_74, x101_75, x101_76, x101_78, x101_80, x101_82, x101_85, x101_86, gf_15_9 k0, hb, gc_9 hB.1, k13, hne, c127, e2, xb_t, h10, q1, q2, q3, q4, q5, q6, Option.bind_some, Option.toList_some, Option.toList_none, List.cons_append, List.nil_append, Option.isSome_some, if_true, eq_self, or_true, true_or, xb_01, mcl_cl, not_true_eq_false, not_false_eq_true, if_false]
                  rfl
                · have e3 : mWithin i1.toInt 0 32 = true := wi_3 (lo := 0) (hi := 32) q5 q6
                  rw [e3]
                  cases e4 : mWithin i2.toInt 0 8 with
                  | false =>
                    refine sim_same hA hp ?_
                    simp only [x101_0, x101_1, x101_4, x101_5, x101_8, x101_10, x101_12, x101_15, x101_16, x101_19, x101_22, x101_23, x101_24, x101_25, x101_27, x101_30, x101_31, x101_33, x101_36, x101_38, x101_40, x101_43, x101_45, x101_46, x101_49, x101_51, x101_54, x101_56, x101_58, x101_61, x101_63, x101_66, x101_69, x101_71, x101_72, x101_74, x101_75, x101_76, x101_78, x101_80, x101_82, x101_85, x101_86, gf_15_9 k0, hb, gc_9 hB.1, k13, hne, c127, e2, xb_t, xb_f, h10, q1, q2, q3, q4, q5, q6, c128, e4, Option.bind_some, Option.toList_some, Option.toList_none, List.cons_append, List.nil_append, Option.isSome_some, if_true, eq_self, or_true, true_or, xb_01, mcl_cl, not_true_eq_false, not_false_eq_true, if_false]
                    rfl
                  | true =>
                    have k7 : G.1 (c + 7) = 20 := hA.1.2.1.2.2.2.2.2.2.2.1
                    refine sim_in (rA_win (j := k) (k := m) hA hi e2 e3 e4) ?_ rfl ?_
                    · have hne2 : ¬ c + 7 = b + 5 + tn i := by
                        intro z
                        rw [← z, k7] at h14
                        exact absurd h14 (by decide)
                      simp only [wSet, gsI3, hne2, false_and, if_false]
                      exact hp
                    · have k90 := c90 (g := g) (n := n) (kc := kc) (ks := ks) (i := j) (j := k) (k := m) (m := i1) (p := i2) h14
                      simp only [x101_0, x101_1, x101_4, x101_5, x101_8, x101_10, x101_12, x101_15, x101_16, x101_19, x101_22, x101_23, x101_24, x101_25, x101_27, x101_30, x101_31, x101_33, x101_36, x101_38, x101_40, x101_43, x101_45, x101_46, x101_49, x101_51, x101_54, x101_56, x101_58, x101_61, x101_63, x101_66, x101_69, x101_71, x101_72, x101_74, x101_75, x101_76, x101_78, x101_80, x101_82, x101_85, x101_86, gf_15_9 k0, hb, gc_9 hB.1, k13, hne, c127, e2, xb_t, xb_f, h10, q1, q2, q3, q4, q5, q6, c128, e4, gc_14 h14, k90, Option.bind_some, Option.toList_some, Option.toList_none, List.cons_append, List.nil_append, Option.isSome_some, if_true, eq_self, or_true, true_or, xb_01, mcl_cl, not_true_eq_false, not_false_eq_true, if_false]
                      rfl
theorem i8_id (h1 : 1 ≤ i.toInt) (h2 : i.toInt ≤ 127) : i.toInt8.toInt32 = i := by
  apply Int32.toInt_inj.mp
  rw [Int8.toInt_toInt32, Int32.toInt_toInt8, Int.bmod_def]
  omega
theorem c76 (hk : gK G c) (hl : G.2.2.1 (c + 10) 2 = nI l) (h6 : l ≤ 120) (h1 : 1 ≤ i.toInt) (h2 : i.toInt ≤ 127) : X g 76 0 [.val (va_rf (some (c + 10))), .val (.int i)] [] (gH n kc ks G) = some (some (.int (if l = 120 then -4 else nI (l + 1))), gH n kc ks (if l = 120 then G else gsI (gsI G (c + 11) l i) (c + 10) 2 (nI (l + 1)))) := by
  obtain ⟨k0, k1, k2, k3, k4, k5, k6, k7, k8, k9, k10, ⟨k11, k11'⟩, k12, k13, k14, k15⟩ := hk
  have k11a : G.1 (c + 10 + 1) = 24 := k11
  have k11b : G.2.1 (c + 10 + 1) = 120 := k11'
  have h0 : ¬ nI l < 0 := nI_pos (by omega)
  by_cases c1 : l = 120
  · subst c1
    have h3 : ¬ nI 120 < nI 120 := by decide
    rw [if_pos rfl, if_pos rfl]
    simp only [x76_0, x76_1, x76_4, x76_7, x76_8, x76_11, x76_12, x76_15, x76_16, x76_19, x76_21, x76_22, x76_23, x76_26, x76_27, x76_30, x76_31, x76_32, x76_33, x76_34, x76_35, x76_38, x76_39, x76_40, x76_43, x76_44, x76_47, gf_23_2 k10, hl, h0, gf_23_0 k10, gN_24 k11a, k11b, h3, Option.bind_some, Option.toList_some, Option.toList_none, List.cons_append, List.nil_append, Option.isSome_some, if_true, eq_self, or_true, true_or, xb_01, mcl_cl, not_true_eq_false, not_false_eq_true, if_false]
  · have h3 : nI l < nI 120 := nI_lt (by omega) (by omega)
    have hx : xin (nI l) 120 = true := xin_nI (by omega) (by omega)
    have hc : (nI l).toNatClampNeg = l := nI_clamp (by omega)
    have k10' : (gsI G (c + 11) l i).1 (c + 10) = 23 := k10
    have hl' : (gsI G (c + 11) l i).2.2.1 (c + 10) 2 = nI l := by
      rw [gsI3, if_neg (by omega)]
      exact hl
    have e8 := i8_id h1 h2
    rw [if_neg c1, if_neg c1]
    have gs := gs_24 (n := n) (kc := kc) (ks := ks) (x := nI l) (v := i) k11a
    rw [k11b, hx, if_pos rfl, hc, e8] at gs
    have ga : c + 10 + 1 = c + 11 := rfl
    rw [ga] at gs
    have k10s : (gsI (gsI G (c + 11) l i) (c + 10) 2 (nI (l + 1))).1 (c + 10) = 23 := k10
    simp only [x76_0, x76_1, x76_4, x76_7, x76_8, x76_11, x76_12, x76_15, x76_16, x76_19, x76_21, x76_22, x76_23, x76_26, x76_27, x76_30, x76_31, x76_32, x76_33, x76_34, x76_35, x76_38, x76_39, x76_40, x76_43, x76_44, x76_47, gf_23_2 k10, hl, h0, gf_23_0 k10, gN_24 k11a, k11b, h3, e8, ga, gs, gf_23_2 k10', hl', gp_23_2 k10', nI_1, gf_23_2 k10s, Option.bind_some, Option.toList_some, Option.toList_none, List.cons_append, List.nil_append, Option.isSome_some, if_true, eq_self, or_true, true_or, xb_01, mcl_cl, not_true_eq_false, not_false_eq_true, if_false]
    simp [gsI]
theorem s122 (hA : rA g G c n b ρ S) (hp : G.2.2.1 (c + 7) 1 = 0) : sim g c n kc ks G 122 [.val (va_rf (some c)), .val (.int i)] (.int (fFeed S i).1) (fFeed S i).2 := by
  have k0 : G.1 c = 15 := hA.1.2.1.1
  obtain ⟨_, k1, k2, k3, ⟨k4, _⟩, ⟨k5, _⟩, ⟨k6, _⟩, k7, ⟨k8, _⟩, ⟨k9, _⟩, k10, ⟨k11, _⟩, ⟨k12, _⟩, k13, ⟨k14, _⟩, ⟨k15, _⟩⟩ := hA.1.2.1
  obtain ⟨l, l1, l2, l3⟩ := hA.2.2.2.2.2.2.2.2.2.2.1
  obtain ⟨r1, r2, r3, r4, r5, r6, r7, r8, r9⟩ := hA.2.2.2.2.2.2.2.1
  unfold fFeed
  by_cases q1 : i < 1
  · rw [show mWithin i.toInt 1 127 = false from wi_1 (lo := 1) (hi := 127) q1, if_pos rfl]
    refine sim_same hA hp ?_
    simp only [x122_0, x122_1, x122_2, x122_5, x122_6, x122_8, x122_11, x122_13, x122_14, x122_15, x122_18, x122_19, x122_22, q1, Option.bind_some, Option.toList_some, Option.toList_none, List.cons_append, List.nil_append, Option.isSome_some, if_true, eq_self, or_true, true_or, xb_01, mcl_cl, not_true_eq_false, not_false_eq_true, if_false]
  · by_cases q2 : i ≤ 127
    · have q2' : ¬ 127 < i := by rw [i32_le] at q2; rw [i32_lt]; omega
      have hw : mWithin i.toInt 1 127 = true := wi_3 (lo := 1) (hi := 127) q1 q2'
      obtain ⟨w1, w2⟩ := mWithin_iff.mp hw
      have k76 := c76 (g := g) (n := n) (kc := kc) (ks := ks) (i := i) hA.1.2.1 (by rw [r8]; exact l1) l2 w1 w2
      rw [hw, if_neg (by simp), l1]
      by_cases c1 : l = 120
      · rw [if_pos c1, if_pos c1] at k76
        rw [if_pos (by rw [c1]; rfl)]
        refine sim_same hA hp ?_
        simp only [x122_0, x122_1, x122_2, x122_5, x122_6, x122_8, x122_11, x122_13, x122_14, x122_15, x122_18, x122_19, x122_22, q1, q2, gf_15_7 k0, gc_23 k10, k76, Option.bind_some, Option.toList_some, Option.toList_none, List.cons_append, List.nil_append, Option.isSome_some, if_true, eq_self, or_true, true_or, xb_01, mcl_cl, not_true_eq_false, not_false_eq_true, if_false]
      · rw [if_neg c1, if_neg c1] at k76
        have hn : ¬ nI l = 120 := by
          intro z
          have := congrArg tn z
          rw [tn_nI (by omega), show tn 120 = 120 from rfl] at this
          exact c1 this
        rw [if_neg hn, nI_1, tn_nI (by omega)]
        have hAg : agr (gsI (gsI G (c + 11) l i) (c + 10) 2 (nI (l + 1))) G [23, 24] := agr_trans (agr_I (by rw [k11]; decide)) (agr_I (by rw [gsI1, k10]; decide))
        have ec := hAg c (by rw [k0]; decide)
        have x1 := hAg (c + 1) (by rw [k1]; decide)
        have x6 := hAg (c + 6) (by rw [k6]; decide)
        have x7 := hAg (c + 7) (by rw [k7]; decide)
        have x13 := hAg (c + 13) (by rw [k13]; decide)
        have x14 := hAg (c + 14) (by rw [k14]; decide)
        have e33 : ∀ q, q ≠ 33 → (msI (msA S 33 l i) 34 (nI (l + 1))).2.2.1 q = S.2.2.1 q := fun q hq => funext fun t => by simp [msI, msA, hq]
        have f33 : ∀ t, (msI (msA S 33 l i) 34 (nI (l + 1))).2.2.1 33 t = if t = l then i else S.2.2.1 33 t := fun t => by simp [msI, msA]
        have e34 : (msI (msA S 33 l i) 34 (nI (l + 1))).1 34 = nI (l + 1) := by simp [msI, msA]
        have f34 : ∀ q, q ≠ 34 → (msI (msA S 33 l i) 34 (nI (l + 1))).1 q = S.1 q := fun q hq => by simp [msI, msA, hq]
        refine sim_in (rA_ms hA hAg (by decide) rfl rfl rfl rfl (by rw [x7.2.2.1]) (by rw [x7.2.2.1]) ⟨⟨rfl, rfl, rfl⟩, fun q hq => e33 q (by rintro rfl; exact absurd hq (by decide)), fun q _ => rfl⟩ ?_ ?_ ?_ ?_ ?_ ?_) ?_ rfl ?_
        · unfold rMs
          rw [x1.2.2.1, x1.2.2.2.1, x6.2.2.1, ec.2.2.1, x13.2.2.1, x14.2.2.1, e34, e33 9 (by decide), e33 26 (by decide), e33 29 (by decide), f34 10 (by decide), f34 25 (by decide), f34 30 (by decide)]
          refine ⟨r1, r2, r3, r4, r5, r6, r7, ?_, fun e he => ?_⟩
          · rw [gsI3, if_pos ⟨rfl, rfl⟩]
          · rw [tn_nI (by omega)] at he
            rw [gsI3, if_neg (by omega), gsI3, f33]
            by_cases ce : e = l
            · rw [if_pos ⟨rfl, ce⟩, if_pos ce]
            · rw [if_neg (fun z => ce z.2), if_neg ce]
              exact r9 e (by rw [l1, tn_nI (by omega)]; omega)
        · rw [f34 10 (by decide)]
          exact hA.2.2.2.2.2.2.2.2.2.1
        · refine ⟨l + 1, e34, by omega, fun e he => ?_⟩
          rw [f33]
          by_cases ce : e = l
          · rw [if_pos ce]
            exact ⟨w1, w2⟩
          · rw [if_neg ce]
            exact l3 e (by omega)
        · rw [f34 30 (by decide)]
          exact hA.2.2.2.2.2.2.2.2.2.2.2.1
        · unfold mLt
          rw [e33 32 (by decide)]
          exact hA.2.2.2.2.2.2.2.2.2.2.2.2.1
        · rw [f34 25 (by decide)]
          exact hA.2.2.2.2.2.2.2.2.2.2.2.2.2
        · rw [x7.2.2.1]
          exact hp
        · simp only [x122_0, x122_1, x122_2, x122_5, x122_6, x122_8, x122_11, x122_13, x122_14, x122_15, x122_18, x122_19, x122_22, q1, q2, gf_15_7 k0, gc_23 k10, k76, Option.bind_some, Option.toList_some, Option.toList_none, List.cons_append, List.nil_append, Option.isSome_some, if_true, eq_self, or_true, true_or, xb_01, mcl_cl, not_true_eq_false, not_false_eq_true, if_false]
    · have q2' : 127 < i := by rw [i32_le] at q2; rw [i32_lt]; omega
      rw [show mWithin i.toInt 1 127 = false from wi_2 (lo := 1) (hi := 127) q2', if_pos rfl]
      refine sim_same hA hp ?_
      simp only [x122_0, x122_1, x122_2, x122_5, x122_6, x122_8, x122_11, x122_13, x122_14, x122_15, x122_18, x122_19, x122_22, q1, q2, Option.bind_some, Option.toList_some, Option.toList_none, List.cons_append, List.nil_append, Option.isSome_some, if_true, eq_self, or_true, true_or, xb_01, mcl_cl, not_true_eq_false, not_false_eq_true, if_false]
end K25
