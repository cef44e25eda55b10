/-! FLOATS, 2: quotients of ints -/
section M24
variable {g : xG} {n kc ks mu s w q p r l o : Nat} {S T : MS} {h : xH} {i j k m v x y a : Int32} {u b : Int64}
theorem div_dec {f : FP.Core.Fmt} (hf : FP.Core.Good f) {x y L : Nat} (hx : FP.Core.mag f x < FP.Core.infBits f) (hy : L * f.tails ≤ FP.Core.mag f y) (hyf : FP.Core.mag f y < FP.Core.infBits f) (hL : 1 ≤ L) : ∃ (s : Bool) (c d : Nat) (e0 e : Int), FP.Core.decode f (FP.Core.div f x y) = FP.Core.roundRatio f s c d e ∧ 0 < d ∧ e0 ≤ f.qmin ∧ e0 ≤ e ∧ FP.Core.inUnits c e e0 = FP.Core.unitsOf f (FP.Core.mag f x) * 2 ^ (-f.qmin).toNat ∧ 2 ^ (f.qmin - e0).toNat * d = FP.Core.unitsOf f (FP.Core.mag f y) := by
  obtain ⟨s, c, q, x1, x2, x3⟩ := FP.Core.fin_of_mag hf hx
  obtain ⟨t, d, r, y1, y2, y3⟩ := FP.Core.fin_of_mag hf hyf
  have hq := FP.Core.qmin_neg hf
  have l2 : f.tails * 2 ^ (L - 1) ≤ FP.Core.zmag f (.fin t d r) := by
    rw [y3, ← FP.Core.unitsOf_start hL]; exact FP.Core.unitsOf_le_iff.mpr hy
  have hd0 : d ≠ 0 := by
    rintro rfl
    have h1 : FP.Core.zmag f (.fin t 0 r) = 0 := Nat.zero_mul _
    have := Nat.mul_pos (FP.Core.tails_pos f) (Nat.two_pow_pos (L - 1))
    omega
  have hd : FP.Core.decode f (FP.Core.div f x y) = FP.Core.roundRatio f (s != t) c d (q - r) := by
    unfold FP.Core.div
    rw [FP.Core.decode_enc hf (FP.Core.quotient_fits hf _ _), x1, y1]
    simp only [FP.Core.quotient, if_neg hd0]
  have hx1 := x2.2.1
  have hy1 := y2.2.1
  refine ⟨s != t, c, d, 2 * f.qmin - r, q - r, hd, by omega, by omega, by omega, ?_, ?_⟩
  · rw [← x3]
    show c * _ = c * _ * _
    rw [Nat.mul_assoc, ← Nat.pow_add]; congr 2; omega
  · rw [← y3]
    show _ = d * _
    rw [Nat.mul_comm]; congr 2; omega
theorem div_ge {f : FP.Core.Fmt} (hf : FP.Core.Good f) {x y La Kb K L : Nat} (hx : La * f.tails ≤ FP.Core.mag f x) (hxf : FP.Core.mag f x < FP.Core.infBits f) (hy : L * f.tails ≤ FP.Core.mag f y) (hyf : FP.Core.mag f y < FP.Core.infBits f) (hyk : FP.Core.mag f y < Kb * f.tails) (hL : 1 ≤ L) (hLa : 1 ≤ La) (hK : 1 ≤ K) (hKi : K * f.tails ≤ FP.Core.infBits f) (h : K + (f.p - 1) + Kb ≤ La + 1 + (-f.qmin).toNat) : K * f.tails ≤ FP.Core.mag f (FP.Core.div f x y) := by
  obtain ⟨s, c, d, e0, e, h1, h2, h3, h4, h5, h6⟩ := div_dec hf hxf hy hyf hL
  obtain ⟨k1, l1⟩ := FP.Core.units_lt_start hyk
  have l2 : f.tails * 2 ^ (La - 1) ≤ FP.Core.unitsOf f (FP.Core.mag f x) := by
    rw [← FP.Core.unitsOf_start hLa]; exact FP.Core.unitsOf_le_iff.mpr hx
  refine FP.Core.mag_ge hf h1 h2 h3 h4 hKi ?_
  rw [FP.Core.unitsOf_start hK, h5, Nat.mul_assoc, h6]
  calc f.tails * 2 ^ (K - 1) * FP.Core.unitsOf f (FP.Core.mag f y) ≤ f.tails * 2 ^ (K - 1) * (f.tails * 2 ^ (Kb - 1)) := Nat.mul_le_mul_left _ (Nat.le_of_lt l1)
    _ = f.tails * 2 ^ (K - 1 + (f.p - 1) + (Kb - 1)) := by
      rw [Nat.pow_add, Nat.pow_add, show 2 ^ (f.p - 1) = f.tails from rfl]; ac_rfl
    _ ≤ f.tails * 2 ^ (La - 1 + (-f.qmin).toNat) := Nat.mul_le_mul_left _ (Nat.pow_le_pow_right (by decide) (by omega))
    _ = f.tails * 2 ^ (La - 1) * 2 ^ (-f.qmin).toNat := by rw [Nat.pow_add, Nat.mul_assoc]
    _ ≤ FP.Core.unitsOf f (FP.Core.mag f x) * 2 ^ (-f.qmin).toNat := Nat.mul_le_mul_right _ l2
theorem div_0 {f : FP.Core.Fmt} (hf : FP.Core.Good f) {x y L : Nat} (hx : FP.Core.mag f x = 0) (hy : L * f.tails ≤ FP.Core.mag f y) (hyf : FP.Core.mag f y < FP.Core.infBits f) (hL : 1 ≤ L) : FP.Core.mag f (FP.Core.div f x y) = 0 := by
  have h0 : 0 < FP.Core.infBits f := by omega
  obtain ⟨s, c, d, e0, e, h1, h2, h3, h4, h5, h6⟩ := div_dec hf (x := x) (by omega) hy hyf hL
  have hu : FP.Core.unitsOf f 0 = 0 := by
    obtain ⟨s, c, q, x1, x2, x3⟩ := FP.Core.fin_of_mag hf (n := 0) (by
      have : FP.Core.mag f 0 = 0 := Nat.zero_mod _
      omega)
    unfold FP.Core.unitsOf
    simp
  have := FP.Core.mag_le hf (m := 0) h1 h2 h3 h4 (by rw [h5, hx, hu]; simp)
  omega
theorem i2f_le (v : Int32) : (FP.i2f v).toNat % 2 ^ 31 ≤ 158 * 2 ^ 23 := FP.Core.fromInt_mag32 (FP.Core.toNat_i2f v) (FP.Core.int32_abs v) (by decide) (by decide)
theorem i2d_le (v : Int32) : (FP.i2d v).toNat % 2 ^ 63 ≤ 1054 * 2 ^ 52 := FP.Core.fromInt_mag (FP.Core.toNat_i2d v) (FP.Core.int32_abs v) (by decide) (by decide)
/-- a quotient of ints as a float -/
theorem fquo (hy : ¬ y = 0) : (x = 0 → (FP.fdiv (FP.i2f x) (FP.i2f y)).toNat % 2 ^ 31 = 0) ∧ (¬ x = 0 → 95 * 2 ^ 23 ≤ (FP.fdiv (FP.i2f x) (FP.i2f y)).toNat % 2 ^ 31) ∧ (FP.fdiv (FP.i2f x) (FP.i2f y)).toNat % 2 ^ 31 < 163 * 2 ^ 23 := by
  have hy' : y.toInt ≠ 0 := fun z => hy (Int32.toInt_inj.mp z)
  have b1 := FP.Core.i2f_big hy'
  have b2 := i2f_le y
  have b3 := i2f_le x
  have h1 : (FP.fdiv (FP.i2f x) (FP.i2f y)).toNat = FP.Core.div FP.Core.b32 (FP.i2f x).toNat (FP.i2f y).toNat := FP.Core.toNat_of32 (FP.Core.quotient_fits FP.Core.good_b32 _ _)
  refine ⟨fun hx => ?_, fun hx => ?_, ?_⟩
  · subst hx
    have h2 := div_0 FP.Core.good_b32 (x := (FP.i2f 0).toNat) (y := (FP.i2f y).toNat) (L := 127) (by decide +kernel) (by rw [FP.Core.mag_toNat32, FP.Core.tails_b32]; exact b1.1) (by rw [FP.Core.mag_toNat32, FP.Core.infBits_b32]; omega) (by decide)
    rw [← h1, FP.Core.mag_toNat32] at h2
    exact h2
  · have hx' : x.toInt ≠ 0 := fun z => hx (Int32.toInt_inj.mp z)
    have c1 := FP.Core.i2f_big hx'
    have h2 := div_ge FP.Core.good_b32 (x := (FP.i2f x).toNat) (y := (FP.i2f y).toNat) (La := 127) (Kb := 159) (K := 95) (L := 127) (by rw [FP.Core.mag_toNat32, FP.Core.tails_b32]; exact c1.1) (by rw [FP.Core.mag_toNat32, FP.Core.infBits_b32]; omega) (by rw [FP.Core.mag_toNat32, FP.Core.tails_b32]; exact b1.1) (by rw [FP.Core.mag_toNat32, FP.Core.infBits_b32]; omega) (by rw [FP.Core.mag_toNat32, FP.Core.tails_b32]; omega) (by decide) (by decide) (by decide) (by decide) (by decide)
    rw [← h1, FP.Core.mag_toNat32, FP.Core.tails_b32] at h2
    exact h2
  · have := FP.Core.fdiv_mag (a := FP.i2f x) (b := FP.i2f y) (K := 159) (L := 127) (by omega) b1.1 b1.2 (by decide) (by decide)
    have this' : (FP.fdiv (FP.i2f x) (FP.i2f y)).toNat % 2 ^ 31 < (159 + (149 - 23 - 1) - 127 + 3) * 2 ^ 23 := this
    omega
/-- a quotient of ints as a double -/
theorem dquo (hy : ¬ y = 0) : (x = 0 → (FP.ddiv (FP.i2d x) (FP.i2d y)).toNat % 2 ^ 63 = 0) ∧ (¬ x = 0 → 991 * 2 ^ 52 ≤ (FP.ddiv (FP.i2d x) (FP.i2d y)).toNat % 2 ^ 63) ∧ (FP.ddiv (FP.i2d x) (FP.i2d y)).toNat % 2 ^ 63 < 1060 * 2 ^ 52 := by
  have hy' : y.toInt ≠ 0 := fun z => hy (Int32.toInt_inj.mp z)
  have b1 := FP.Core.i2d_big hy'
  have b2 := i2d_le y
  have b3 := i2d_le x
  have h1 : (FP.ddiv (FP.i2d x) (FP.i2d y)).toNat = FP.Core.div FP.Core.b64 (FP.i2d x).toNat (FP.i2d y).toNat := FP.Core.toNat_of64 (FP.Core.quotient_fits FP.Core.good_b64 _ _)
  refine ⟨fun hx => ?_, fun hx => ?_, ?_⟩
  · subst hx
    have h2 := div_0 FP.Core.good_b64 (x := (FP.i2d 0).toNat) (y := (FP.i2d y).toNat) (L := 1023) (by decide +kernel) (by rw [FP.Core.mag_toNat64, FP.Core.tails_b64]; exact b1.1) (by rw [FP.Core.mag_toNat64, FP.Core.infBits_b64]; omega) (by decide)
    rw [← h1, FP.Core.mag_toNat64] at h2
    exact h2
  · have hx' : x.toInt ≠ 0 := fun z => hx (Int32.toInt_inj.mp z)
    have c1 := FP.Core.i2d_big hx'
    have h2 := div_ge FP.Core.good_b64 (x := (FP.i2d x).toNat) (y := (FP.i2d y).toNat) (La := 1023) (Kb := 1055) (K := 991) (L := 1023) (by rw [FP.Core.mag_toNat64, FP.Core.tails_b64]; exact c1.1) (by rw [FP.Core.mag_toNat64, FP.Core.infBits_b64]; omega) (by rw [FP.Core.mag_toNat64, FP.Core.tails_b64]; exact b1.1) (by rw [FP.Core.mag_toNat64, FP.Core.infBits_b64]; omega) (by rw [FP.Core.mag_toNat64, FP.Core.tails_b64]; omega) (by decide) (by decide) (by decide) (by decide) (by decide)
    rw [← h1, FP.Core.mag_toNat64, FP.Core.tails_b64] at h2
    exact h2
  · have := FP.Core.ddiv_mag (a := FP.i2d x) (b := FP.i2d y) (K := 1055) (L := 1023) (by omega) b1.1 b1.2 (by decide) (by decide)
    have this' : (FP.ddiv (FP.i2d x) (FP.i2d y)).toNat % 2 ^ 63 < (1055 + (1074 - 52 - 1) - 1023 + 3) * 2 ^ 52 := this
    omega
theorem fquo_fin (hy : ¬ y = 0) : FP.Core.FFin (FP.fdiv (FP.i2f x) (FP.i2f y)) := by
  have := (fquo (x := x) hy).2.2
  rw [FP.Core.fin_bits32]
  omega
theorem dquo_fin (hy : ¬ y = 0) : FP.Core.DFin (FP.ddiv (FP.i2d x) (FP.i2d y)) := by
  have := (dquo (x := x) hy).2.2
  rw [FP.Core.fin_bits]
  omega
/-- a quotient, as it is boxed -/
def pQuo (k x y : Int32) : Int64 := if k = 6 then (FP.fdiv (FP.i2f x) (FP.i2f y)).toInt32.toInt64 else (FP.ddiv (FP.i2d x) (FP.i2d y)).toInt64
theorem okb_quo (hk : mWithin k.toInt 6 7 = true) (hy : ¬ y = 0) : okb k (pQuo k x y) := by
  have hk' := mWithin_iff.mp hk
  refine ⟨?_, okl_n (by omega) (by rw [i32_lt, show (8 : Int32).toInt = 8 from rfl]; omega)⟩
  unfold pQuo
  by_cases e : k = 6
  · rw [if_pos e]
    subst e
    refine ⟨fun _ => ?_, fun e => absurd e (by decide)⟩
    rw [ofN32]
    refine ⟨by rw [Int32.toInt32_toInt64], ?_⟩
    obtain ⟨q1, q2, q3⟩ := fquo (x := x) hy
    by_cases e : x = 0
    · exact Or.inl (q1 e)
    · have := q2 e
      right
      omega
  · rw [if_neg e]
    have e7 : k = 7 := by
      apply Int32.toInt_inj.mp
      have : k.toInt ≠ (6 : Int32).toInt := fun z => e (Int32.toInt_inj.mp z)
      rw [show (6 : Int32).toInt = 6 from rfl] at this
      rw [show (7 : Int32).toInt = 7 from rfl]
      omega
    subst e7
    exact okv_7 (dquo_fin hy)
def fReal (S : MS) (i j k x y : Int32) : Int32 × MS := if mSlot i = false then (-1, S) else if mWithin k.toInt 6 7 = false then (-1, S) else if y = 0 then (-2, S) else (sAns (sPutBy S (tn i) j k k), fWrs S (tn i) j k k (pQuo k x y))
theorem e182 {d : Nat} (hd : S.1 24 = nI d) (h24 : d ≤ 24) (hO : mOk S) : ∃ a b, X g 182 0 [.val (va_rf (some mu)), .val (.int i), .val (.int j), .val (.int k), .val (.int x), .val (.int y)] [] (mH n kc ks mu S) = some (some (.int (fReal S i j k x y).1), mH n kc ks mu (mIs (fReal S i j k x y).2 a b)) := by
  unfold fReal
  by_cases e1 : mSlot i = false
  · rw [if_pos e1]
    refine ⟨S.1 0, S.2.1 1, ?_⟩
    rw [mIs_self]
    simp only [x182_0, x182_1, x182_4, x182_7, x182_8, x182_9, x182_12, x182_15, x182_18, x182_21, x182_22, x182_23, x182_25, x182_28, x182_30, x182_31, x182_32, x182_34, x182_37, x182_38, x182_40, x182_42, x182_43, x182_45, x182_46, x182_47, x182_50, x182_51, x182_54, x182_57, x182_58, x182_60, x182_62, x182_63, x182_65, x182_66, x182_67, x182_70, x182_73, x182_74, x182_75, x182_76, x182_77, x182_80, c164, e1, xb_f, Option.bind_some, Option.toList_some, Option.toList_none, List.cons_append, List.nil_append, Option.isSome_some, if_true, eq_self, or_true, true_or, xb_01, mcl_cl, not_true_eq_false, not_false_eq_true, if_false]
  · rw [if_neg e1]
    have e1 : mSlot i = true := by simpa using e1
    obtain ⟨e2, e3⟩ := mSlot_eq e1
    by_cases e4 : mWithin k.toInt 6 7 = false
    · have e7 : mWithin k.toInt (Int64.toInt 6) (Int64.toInt 7) = false := e4
      rw [if_pos e4]
      refine ⟨S.1 0, S.2.1 1, ?_⟩
      rw [mIs_self]
      simp only [x182_0, x182_1, x182_4, x182_7, x182_8, x182_9, x182_12, x182_15, x182_18, x182_21, x182_22, x182_23, x182_25, x182_28, x182_30, x182_31, x182_32, x182_34, x182_37, x182_38, x182_40, x182_42, x182_43, x182_45, x182_46, x182_47, x182_50, x182_51, x182_54, x182_57, x182_58, x182_60, x182_62, x182_63, x182_65, x182_66, x182_67, x182_70, x182_73, x182_74, x182_75, x182_76, x182_77, x182_80, c164, c154, e1, e7, i32_64, xb_f, xb_t, i32_10, Option.bind_some, Option.toList_some, Option.toList_none, List.cons_append, List.nil_append, Option.isSome_some, if_true, eq_self, or_true, true_or, xb_01, mcl_cl, not_true_eq_false, not_false_eq_true, if_false]
    · rw [if_neg e4]
      have e4 : mWithin k.toInt 6 7 = true := by simpa using e4
      have e7 : mWithin k.toInt (Int64.toInt 6) (Int64.toInt 7) = true := e4
      by_cases e5 : y = 0
      · rw [if_pos e5]
        refine ⟨S.1 0, S.2.1 1, ?_⟩
        rw [mIs_self]
        simp only [x182_0, x182_1, x182_4, x182_7, x182_8, x182_9, x182_12, x182_15, x182_18, x182_21, x182_22, x182_23, x182_25, x182_28, x182_30, x182_31, x182_32, x182_34, x182_37, x182_38, x182_40, x182_42, x182_43, x182_45, x182_46, x182_47, x182_50, x182_51, x182_54, x182_57, x182_58, x182_60, x182_62, x182_63, x182_65, x182_66, x182_67, x182_70, x182_73, x182_74, x182_75, x182_76, x182_77, x182_80, c164, c154, e1, e5, i32_64, e7, xb_f, xb_t, i32_10, Option.bind_some, Option.toList_some, Option.toList_none, List.cons_append, List.nil_append, Option.isSome_some, if_true, eq_self, or_true, true_or, xb_01, mcl_cl, not_true_eq_false, not_false_eq_true, if_false]
      · rw [if_neg e5]
        refine ⟨k, pQuo k x y, ?_⟩
        have h1 := e180 (g := g) (n := n) (kc := kc) (ks := ks) (mu := mu) (i := j) (v := k) (b := pQuo k x y) hd h24 e3 hO (okb_quo e4 e5)
        rw [← e2] at h1
        by_cases k6 : k = 6
        · have hn := fin32 (fquo_fin (x := x) e5)
          have hq : pQuo k x y = (FP.fdiv (FP.i2f x) (FP.i2f y)).toInt32.toInt64 := by unfold pQuo; rw [if_pos k6]
          rw [hq] at h1 ⊢
          subst k6
          simp only [x182_0, x182_1, x182_4, x182_7, x182_8, x182_9, x182_12, x182_15, x182_18, x182_21, x182_22, x182_23, x182_25, x182_28, x182_30, x182_31, x182_32, x182_34, x182_37, x182_38, x182_40, x182_42, x182_43, x182_45, x182_46, x182_47, x182_50, x182_51, x182_54, x182_57, x182_58, x182_60, x182_62, x182_63, x182_65, x182_66, x182_67, x182_70, x182_73, x182_74, x182_75, x182_76, x182_77, x182_80, c164, c154, e1, e5, i32_64, e7, xb_t, i32_10, x182_46 hn, c249 (okF_of (fquo_fin (x := x) e5)), c155', h1, Option.bind_some, Option.toList_some, Option.toList_none, List.cons_append, List.nil_append, Option.isSome_some, if_true, eq_self, or_true, true_or, xb_01, mcl_cl, not_true_eq_false, not_false_eq_true, if_false]
        · have hn := fin64 (dquo_fin (x := x) e5)
          have hq : pQuo k x y = (FP.ddiv (FP.i2d x) (FP.i2d y)).toInt64 := by unfold pQuo; rw [if_neg k6]
          have e7' : k = 7 := by
            apply Int32.toInt_inj.mp
            have hk' := mWithin_iff.mp e4
            have : k.toInt ≠ (6 : Int32).toInt := fun z => k6 (Int32.toInt_inj.mp z)
            rw [show (6 : Int32).toInt = 6 from rfl] at this
            rw [show (7 : Int32).toInt = 7 from rfl]
            omega
          rw [hq] at h1 ⊢
          subst e7'
          simp only [x182_0, x182_1, x182_4, x182_7, x182_8, x182_9, x182_12, x182_15, x182_18, x182_21, x182_22, x182_23, x182_25, x182_28, x182_30, x182_31, x182_32, x182_34, x182_37, x182_38, x182_40, x182_42, x182_43, x182_45, x182_46, x182_47, x182_50, x182_51, x182_54, x182_57, x182_58, x182_60, x182_62, x182_63, x182_65, x182_66, x182_67, x182_70, x182_73, x182_74, x182_75, x182_76, x182_77, x182_80, c164, c154, e1, e5, i32_64, e7, k6, xb_t, i32_10, x182_66 hn, c247 (okD_of (dquo_fin (x := x) e5)), c155', h1, Option.bind_some, Option.toList_some, Option.toList_none, List.cons_append, List.nil_append, Option.isSome_some, if_true, eq_self, or_true, true_or, xb_01, mcl_cl, not_true_eq_false, not_false_eq_true, if_false]
end M24
