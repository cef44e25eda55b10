/-! THE CLASS's methods, 5: doubles cut to whole numbers -/
section K5
variable {g : xG} {h : xH} {E F P Q s c : Nat} {d : UInt64} {f : UInt32} {k i j : Int32} {u v b x y : Int64}
theorem zq_lo (hP : P < 1023) (hQ : Q < 2 ^ 52) : FP.Core.unitsOf FP.Core.b64 (P * 2 ^ 52 + Q) / FP.Core.one64 = 0 := by
  rw [one_p2]
  apply Nat.div_eq_of_lt
  by_cases c : P = 0
  · subst c
    unfold FP.Core.unitsOf
    rw [FP.Core.tails_b64, if_pos (by omega)]
    have h1 : p2 1074 = p2 52 * p2 1022 := (p2_eq (show 1074 = 52 + 1022 by decide)).trans (p2_add _ _)
    have h2 := Nat.le_mul_of_pos_right (p2 52) (p2_pos 1022)
    rw [← h1, ← p2_52] at h2
    omega
  · rw [units64 (by omega) hQ]
    have h1 : p2 1074 = p2 53 * p2 1021 := (p2_eq (show 1074 = 53 + 1021 by decide)).trans (p2_add _ _)
    have h2 : p2 (P - 1) ≤ p2 1021 := Nat.pow_le_pow_right (by decide) (by omega)
    have h3 : 2 ^ 52 + Q < p2 53 := by
      have : p2 53 = 2 ^ 53 := rfl
      omega
    rw [h1]
    exact Nat.lt_of_lt_of_le (Nat.mul_lt_mul_of_pos_right h3 (p2_pos _)) (Nat.mul_le_mul_left _ h2)
theorem zq_hi (hP : 1086 ≤ P) (hQ : Q < 2 ^ 52) : 2 ^ 63 ≤ FP.Core.unitsOf FP.Core.b64 (P * 2 ^ 52 + Q) / FP.Core.one64 := by
  rw [one_p2, units64 (by omega) hQ]
  have h1 : p2 (P - 1) = p2 (P - 1075) * p2 1074 := (p2_eq (show P - 1 = P - 1075 + 1074 by omega)).trans (p2_add _ _)
  rw [h1, ← Nat.mul_assoc, Nat.mul_div_cancel _ (p2_pos _)]
  have h2 : p2 11 ≤ p2 (P - 1075) := Nat.pow_le_pow_right (by decide) (by omega)
  have h3 : (2 ^ 63 : Nat) = 2 ^ 52 * p2 11 := rfl
  rw [h3]
  exact Nat.mul_le_mul (by omega) h2
theorem zq_up (hP : 1075 ≤ P) (hQ : Q < 2 ^ 52) : FP.Core.unitsOf FP.Core.b64 (P * 2 ^ 52 + Q) / FP.Core.one64 = (2 ^ 52 + Q) * 2 ^ (P - 1075) := by
  rw [one_p2, units64 (by omega) hQ]
  have h1 : p2 (P - 1) = p2 (P - 1075) * p2 1074 := (p2_eq (show P - 1 = P - 1075 + 1074 by omega)).trans (p2_add _ _)
  rw [h1, ← Nat.mul_assoc, Nat.mul_div_cancel _ (p2_pos _)]
  rfl
theorem zq_dn (hP : P < 1075) (hP1 : 1 ≤ P) (hQ : Q < 2 ^ 52) : FP.Core.unitsOf FP.Core.b64 (P * 2 ^ 52 + Q) / FP.Core.one64 = (2 ^ 52 + Q) / 2 ^ (1075 - P) := by
  rw [one_p2, units64 (by omega) hQ]
  have h1 : p2 1074 = p2 (1075 - P) * p2 (P - 1) := (p2_eq (show 1074 = 1075 - P + (P - 1) by omega)).trans (p2_add _ _)
  rw [h1, Nat.mul_div_mul_right _ _ (p2_pos _)]
  rfl
theorem sgd (s N : Nat) : FP.Core.signed (decide (s = 1)) N = if s = 1 then -(N : Int) else (N : Int) := by
  by_cases c : s = 1
  · rw [decide_eq_true c, if_pos c]
    rfl
  · rw [decide_eq_false c, if_neg c]
    rfl
theorem d2l_bits (hn : d.toNat = s * 2 ^ 63 + (P * 2 ^ 52 + Q)) (hs : s ≤ 1) (hP : P < 2047) (hQ : Q < 2 ^ 52) : (FP.Core.d2l d).toInt = max (-2 ^ 63) (min (2 ^ 63 - 1) (if s = 1 then -((FP.Core.unitsOf FP.Core.b64 (P * 2 ^ 52 + Q) / FP.Core.one64 : Nat) : Int) else ((FP.Core.unitsOf FP.Core.b64 (P * 2 ^ 52 + Q) / FP.Core.one64 : Nat) : Int))) := by
  have hd : FP.Core.DFin d := by rw [FP.Core.fin_bits]; omega
  have hm : FP.Core.mag FP.Core.b64 d.toNat = P * 2 ^ 52 + Q := by rw [FP.Core.mag_toNat64]; omega
  have hmi : FP.Core.mag FP.Core.b64 d.toNat ≤ FP.Core.infBits FP.Core.b64 := by rw [hm, FP.Core.infBits_b64]; omega
  have h1 : FP.Core.zmag FP.Core.b64 (FP.Core.val64 d) = FP.Core.unitsOf FP.Core.b64 (P * 2 ^ 52 + Q) := by
    show FP.Core.zmag FP.Core.b64 (FP.Core.decode FP.Core.b64 d.toNat) = _
    rw [FP.Core.zmag_decode FP.Core.good_b64 hmi, hm]
  have h2 : FP.Core.sgn (FP.Core.val64 d) = decide (s = 1) := by
    show FP.Core.sgn (FP.Core.decode FP.Core.b64 d.toNat) = _
    rw [FP.Core.sgn_decode hmi (FP.Core.lt_full64 _), FP.Core.half_b64]
    by_cases c : s = 1
    · rw [decide_eq_true c, decide_eq_true (by omega)]
    · rw [decide_eq_false c, decide_eq_false (by omega)]
  rw [FP.Core.d2l_val (FP.Core.DFin.ne_nan hd), h1, h2, sgd]
theorem d2l_ex (hn : d.toNat = s * 2 ^ 63 + (P * 2 ^ 52 + Q)) (hs : s ≤ 1) (hP : P < 2047) (hQ : Q < 2 ^ 52) : ∃ N : Nat, (FP.Core.d2l d).toInt = max (-2 ^ 63) (min (2 ^ 63 - 1) (if s = 1 then -(N : Int) else (N : Int))) ∧ (P < 1023 → N = 0) ∧ (1086 ≤ P → 2 ^ 63 ≤ N) ∧ (1075 ≤ P → N = (2 ^ 52 + Q) * 2 ^ (P - 1075)) ∧ (P < 1075 → 1 ≤ P → N = (2 ^ 52 + Q) / 2 ^ (1075 - P)) :=
  ⟨_, d2l_bits hn hs hP hQ, fun h1 => zq_lo h1 hQ, fun h1 => zq_hi h1 hQ, fun h1 => zq_up h1 hQ, fun h1 h2 => zq_dn h1 h2 hQ⟩
theorem n64_i64 (hc : n64 x = c) (h63 : c < 2 ^ 63) : x.toInt = (c : Int) := by
  have h1 := n64_toInt x
  rw [hc, if_pos h63] at h1
  exact h1
theorem c53 (hd : FP.Core.DFin d) : X g 53 0 [.val (.long d.toInt64), .second, .unset, .unset, .unset, .unset, .unset, .unset] [] h = some (some (.long (FP.Core.d2l d)), h) := by
  have hlt := d.toNat_lt
  rw [FP.Core.fin_bits] at hd
  obtain ⟨s, P, Q, hs, hP, hQ, hn⟩ : ∃ s P Q, s ≤ 1 ∧ P < 2047 ∧ Q < 2 ^ 52 ∧ d.toNat = s * 2 ^ 63 + (P * 2 ^ 52 + Q) := ⟨d.toNat / 2 ^ 63, d.toNat % 2 ^ 63 / 2 ^ 52, d.toNat % 2 ^ 52, by omega, by omega, Nat.mod_lt _ (by decide), by omega⟩
  obtain ⟨N, hv, n0, n1, n2, n3⟩ := d2l_ex hn hs hP hQ
  have hb : n64 d.toInt64 = s * 2 ^ 63 + (P * 2 ^ 52 + Q) := hn
  generalize d.toInt64 = b at hb
  have hsg : b.toInt < (0 : Int64).toInt ↔ s = 1 := by
    rw [Int64.toInt_zero, n64_neg, hb]
    omega
  have e1 : n64 ((b.toUInt64 >>> ((52 : Int32).toInt64.toUInt64 &&& Int64.toUInt64 63)).toInt64 &&& 2047) = P := by
    rw [n64_mask (c := 11) (by decide), n64_shr b _ (c := 52) (by decide) (by decide), hb]
    omega
  have e2 : ((b.toUInt64 >>> ((52 : Int32).toInt64.toUInt64 &&& Int64.toUInt64 63)).toInt64 &&& 2047).toInt32 = nI P := n64_i32 e1 (by omega)
  have hT : (nI P - 1023).toInt = (P : Int) - 1023 := by
    rw [Int32.toInt_sub, nI_toInt (by omega), show (1023 : Int32).toInt = 1023 from rfl, Int.bmod_def]
    omega
  have c1 : (0 ≤ nI P - 1023) = (1023 ≤ P) := by
    rw [i32_le, hT, show (0 : Int32).toInt = 0 from rfl]
    exact propext (by omega)
  have c2 : (nI P - 1023 ≤ 62) = (P ≤ 1085) := by
    rw [i32_le, hT, show (62 : Int32).toInt = 62 from rfl]
    exact propext (by omega)
  have hT2 : (nI P - 1023 - 52).toInt = (P : Int) - 1075 := by
    rw [Int32.toInt_sub, hT, show (52 : Int32).toInt = 52 from rfl, Int.bmod_def]
    omega
  have c3 : (nI P - 1023 - 52 < 0) = (P < 1075) := by
    rw [i32_lt, hT2, show (0 : Int32).toInt = 0 from rfl]
    exact propext (by omega)
  by_cases p1 : 1023 ≤ P
  · by_cases p2' : P ≤ 1085
    · have e3 : n64 (b &&& 4503599627370495 ||| 4503599627370496) = 2 ^ 52 + Q := by
        rw [n64_or, n64_mask (c := 52) (by decide), hb, Nat.or_comm, show n64 4503599627370496 = 1 * 2 ^ 52 from by decide, or_pow (Nat.mod_lt _ (by decide))]
        omega
      have fin : ∀ (w : Int64) (M : Nat), n64 w = M → M < 2 ^ 63 → N = M → (if s = 1 then -w else w) = FP.Core.d2l d := by
        intro w M h1 h2 h3
        apply Int64.toInt_inj.mp
        rw [hv, h3]
        have h4 := n64_i64 h1 h2
        by_cases c : s = 1
        · rw [if_pos c, if_pos c, Int64.toInt_neg, h4, i64_bm (by omega) (by omega)]
          omega
        · rw [if_neg c, if_neg c, h4]
          omega
      by_cases p3 : P < 1075
      · have e4 : -(nI P - 1023 - 52) = nI (1075 - P) := by
          apply Int32.toInt_inj.mp
          rw [Int32.toInt_neg, hT2, nI_toInt (by omega), Int.bmod_def]
          omega
        have e5 : n64 ((b &&& 4503599627370495 ||| 4503599627370496).toUInt64 >>> ((nI (1075 - P)).toInt64.toUInt64 &&& Int64.toUInt64 63)).toInt64 = (2 ^ 52 + Q) / 2 ^ (1075 - P) := by
          rw [n64_shr _ _ (c := 1075 - P) (by
            show n64 ((nI (1075 - P)).toInt64 &&& 63) = _
            rw [n64_mask (c := 6) (by decide), n64_nI (by omega)]
            omega) (by omega), e3]
        have e6 := fin _ _ e5 (by
          have := Nat.div_le_self (2 ^ 52 + Q) (2 ^ (1075 - P))
          omega) (n3 p3 (by omega))
        by_cases c : s = 1
        · rw [if_pos c] at e6
          have g1 : b.toInt < (0 : Int64).toInt := hsg.mpr c
          simp only [x53_0, x53_1, x53_3, x53_4, x53_7, x53_8, x53_9, x53_12, x53_13, x53_14, x53_15, x53_18, x53_19, x53_20, x53_21, x53_23, x53_26, x53_27, x53_28, x53_29, x53_32, x53_35, x53_38, x53_41, x53_42, x53_43, x53_46, x53_47, x53_50, x53_51, x53_52, x53_53, x53_55, x53_56, x53_58, x53_60, x53_63, x53_64, x53_66, x53_67, x53_70, x53_71, x53_73, x53_74, x53_75, x53_77, x53_78, x53_79, x53_80, x53_83, x53_85, x53_86, x53_89, x53_91, lcmp_ge0, e2, c1, p1, c2, p2', c3, p3, e4, g1, e6, Option.bind_some, Option.toList_some, Option.toList_none, List.cons_append, List.nil_append, Option.isSome_some, if_true, eq_self, or_true, true_or, xb_01, mcl_cl, not_true_eq_false, not_false_eq_true, if_false]
        · rw [if_neg c] at e6
          have g1 : ¬ b.toInt < (0 : Int64).toInt := fun z => c (hsg.mp z)
          simp only [x53_0, x53_1, x53_3, x53_4, x53_7, x53_8, x53_9, x53_12, x53_13, x53_14, x53_15, x53_18, x53_19, x53_20, x53_21, x53_23, x53_26, x53_27, x53_28, x53_29, x53_32, x53_35, x53_38, x53_41, x53_42, x53_43, x53_46, x53_47, x53_50, x53_51, x53_52, x53_53, x53_55, x53_56, x53_58, x53_60, x53_63, x53_64, x53_66, x53_67, x53_70, x53_71, x53_73, x53_74, x53_75, x53_77, x53_78, x53_79, x53_80, x53_83, x53_85, x53_86, x53_89, x53_91, lcmp_ge0, e2, c1, p1, c2, p2', c3, p3, e4, g1, e6, Option.bind_some, Option.toList_some, Option.toList_none, List.cons_append, List.nil_append, Option.isSome_some, if_true, eq_self, or_true, true_or, xb_01, mcl_cl, not_true_eq_false, not_false_eq_true, if_false]
      · have e4 : nI P - 1023 - 52 = nI (P - 1075) := by
          apply Int32.toInt_inj.mp
          rw [hT2, nI_toInt (by omega)]
          omega
        have hbig : (2 ^ 52 + Q) * 2 ^ (P - 1075) < 2 ^ 63 := by
          have h1 : 2 ^ (P - 1075) ≤ 2 ^ 10 := Nat.pow_le_pow_right (by decide) (by omega)
          have h2 := Nat.mul_le_mul_left (2 ^ 52 + Q) h1
          omega
        have e5 : n64 ((b &&& 4503599627370495 ||| 4503599627370496) <<< ((nI (P - 1075)).toInt64 &&& 63)) = (2 ^ 52 + Q) * 2 ^ (P - 1075) := by
          rw [n64_shl (c := P - 1075) _ _ (by rw [n64_mask (c := 6) (by decide), n64_nI (by omega)]; omega) (by omega) (by rw [e3]; omega), e3]
        have e6 := fin _ _ e5 hbig (n2 (by omega))
        have c3' : ¬ nI (P - 1075) < 0 := by
          rw [← e4, c3]
          exact p3
        by_cases c : s = 1
        · rw [if_pos c] at e6
          have g1 : b.toInt < (0 : Int64).toInt := hsg.mpr c
          simp only [x53_0, x53_1, x53_3, x53_4, x53_7, x53_8, x53_9, x53_12, x53_13, x53_14, x53_15, x53_18, x53_19, x53_20, x53_21, x53_23, x53_26, x53_27, x53_28, x53_29, x53_32, x53_35, x53_38, x53_41, x53_42, x53_43, x53_46, x53_47, x53_50, x53_51, x53_52, x53_53, x53_55, x53_56, x53_58, x53_60, x53_63, x53_64, x53_66, x53_67, x53_70, x53_71, x53_73, x53_74, x53_75, x53_77, x53_78, x53_79, x53_80, x53_83, x53_85, x53_86, x53_89, x53_91, lcmp_ge0, e2, c1, p1, c2, p2', e4, c3', g1, e6, Option.bind_some, Option.toList_some, Option.toList_none, List.cons_append, List.nil_append, Option.isSome_some, if_true, eq_self, or_true, true_or, xb_01, mcl_cl, not_true_eq_false, not_false_eq_true, if_false]
        · rw [if_neg c] at e6
          have g1 : ¬ b.toInt < (0 : Int64).toInt := fun z => c (hsg.mp z)
          simp only [x53_0, x53_1, x53_3, x53_4, x53_7, x53_8, x53_9, x53_12, x53_13, x53_14, x53_15, x53_18, x53_19, x53_20, x53_21, x53_23, x53_26, x53_27, x53_28, x53_29, x53_32, x53_35, x53_38, x53_41, x53_42, x53_43, x53_46, x53_47, x53_50, x53_51, x53_52, x53_53, x53_55, x53_56, x53_58, x53_60, x53_63, x53_64, x53_66, x53_67, x53_70, x53_71, x53_73, x53_74, x53_75, x53_77, x53_78, x53_79, x53_80, x53_83, x53_85, x53_86, x53_89, x53_91, lcmp_ge0, e2, c1, p1, c2, p2', e4, c3', g1, e6, Option.bind_some, Option.toList_some, Option.toList_none, List.cons_append, List.nil_append, Option.isSome_some, if_true, eq_self, or_true, true_or, xb_01, mcl_cl, not_true_eq_false, not_false_eq_true, if_false]
    · have h3 := n1 (by omega)
      by_cases c : s = 1
      · have g1 : b.toInt < (0 : Int64).toInt := hsg.mpr c
        rw [if_pos c] at hv
        have e6 : (-9223372036854775808 : Int64) = FP.Core.d2l d := by
          apply Int64.toInt_inj.mp
          rw [hv, show (-9223372036854775808 : Int64).toInt = -2 ^ 63 from rfl]
          omega
        simp only [x53_0, x53_1, x53_3, x53_4, x53_7, x53_8, x53_9, x53_12, x53_13, x53_14, x53_15, x53_18, x53_19, x53_20, x53_21, x53_23, x53_26, x53_27, x53_28, x53_29, x53_32, x53_35, x53_38, x53_41, x53_42, x53_43, x53_46, x53_47, x53_50, x53_51, x53_52, x53_53, x53_55, x53_56, x53_58, x53_60, x53_63, x53_64, x53_66, x53_67, x53_70, x53_71, x53_73, x53_74, x53_75, x53_77, x53_78, x53_79, x53_80, x53_83, x53_85, x53_86, x53_89, x53_91, lcmp_ge0, e2, c1, p1, c2, p2', g1, Option.bind_some, Option.toList_some, Option.toList_none, List.cons_append, List.nil_append, Option.isSome_some, if_true, eq_self, or_true, true_or, xb_01, mcl_cl, not_true_eq_false, not_false_eq_true, if_false]
        rw [e6]
      · have g1 : ¬ b.toInt < (0 : Int64).toInt := fun z => c (hsg.mp z)
        rw [if_neg c] at hv
        have e6 : (9223372036854775807 : Int64) = FP.Core.d2l d := by
          apply Int64.toInt_inj.mp
          rw [hv, show (9223372036854775807 : Int64).toInt = 2 ^ 63 - 1 from rfl]
          omega
        simp only [x53_0, x53_1, x53_3, x53_4, x53_7, x53_8, x53_9, x53_12, x53_13, x53_14, x53_15, x53_18, x53_19, x53_20, x53_21, x53_23, x53_26, x53_27, x53_28, x53_29, x53_32, x53_35, x53_38, x53_41, x53_42, x53_43, x53_46, x53_47, x53_50, x53_51, x53_52, x53_53, x53_55, x53_56, x53_58, x53_60, x53_63, x53_64, x53_66, x53_67, x53_70, x53_71, x53_73, x53_74, x53_75, x53_77, x53_78, x53_79, x53_80, x53_83, x53_85, x53_86, x53_89, x53_91, lcmp_ge0, e2, c1, p1, c2, p2', g1, Option.bind_some, Option.toList_some, Option.toList_none, List.cons_append, List.nil_append, Option.isSome_some, if_true, eq_self, or_true, true_or, xb_01, mcl_cl, not_true_eq_false, not_false_eq_true, if_false]
        rw [e6]
  · have h3 := n0 (by omega)
    rw [h3] at hv
    have e6 : (0 : Int64) = FP.Core.d2l d := by
      apply Int64.toInt_inj.mp
      rw [hv, Int64.toInt_zero]
      split <;> decide
    simp only [x53_0, x53_1, x53_3, x53_4, x53_7, x53_8, x53_9, x53_12, x53_13, x53_14, x53_15, x53_18, x53_19, x53_20, x53_21, x53_23, x53_26, x53_27, x53_28, x53_29, x53_32, x53_35, x53_38, x53_41, x53_42, x53_43, x53_46, x53_47, x53_50, x53_51, x53_52, x53_53, x53_55, x53_56, x53_58, x53_60, x53_63, x53_64, x53_66, x53_67, x53_70, x53_71, x53_73, x53_74, x53_75, x53_77, x53_78, x53_79, x53_80, x53_83, x53_85, x53_86, x53_89, x53_91, e2, c1, p1, Option.bind_some, Option.toList_some, Option.toList_none, List.cons_append, List.nil_append, Option.isSome_some, if_true, eq_self, or_true, true_or, xb_01, mcl_cl, not_true_eq_false, not_false_eq_true, if_false]
    rw [e6]
end K5
