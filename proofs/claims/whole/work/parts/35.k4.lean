/-! THE CLASS's methods, 4: floats' bits and doubles' bits -/
section K4
variable {g : xG} {h : xH} {E F P Q s c : Nat} {d : UInt64} {f : UInt32} {k i j : Int32} {u v b x y : Int64}
theorem n64_toInt (x : Int64) : x.toInt = if n64 x < 2 ^ 63 then (n64 x : Int) else (n64 x : Int) - 2 ^ 64 := by
  have h4 := BitVec.toInt_eq_toNat_cond x.toBitVec
  have h3 : x.toInt = x.toBitVec.toInt := rfl
  have h2 : n64 x = x.toBitVec.toNat := rfl
  rw [h3, h4, h2]
  by_cases c : 2 * x.toBitVec.toNat < 2 ^ 64
  · rw [if_pos c, if_pos (by omega)]
  · rw [if_neg c, if_neg (by omega)]
    rfl
theorem n64_lt (x : Int64) : n64 x < 2 ^ 64 := x.toUInt64.toNat_lt
theorem n64_neg : x.toInt < 0 ↔ 2 ^ 63 ≤ n64 x := by
  have h1 := n64_lt x
  rw [n64_toInt]
  split <;> omega
theorem n32_toInt (f : UInt32) : f.toInt32.toInt = if f.toNat < 2 ^ 31 then (f.toNat : Int) else (f.toNat : Int) - 2 ^ 32 := by
  have h4 := BitVec.toInt_eq_toNat_cond f.toInt32.toBitVec
  have h3 : f.toInt32.toInt = f.toInt32.toBitVec.toInt := rfl
  have h2 : f.toNat = f.toInt32.toBitVec.toNat := rfl
  rw [h3, h4, h2]
  by_cases c : 2 * f.toInt32.toBitVec.toNat < 2 ^ 32
  · rw [if_pos c, if_pos (by omega)]
  · rw [if_neg c, if_neg (by omega)]
    rfl
theorem n64_f (f : UInt32) : n64 f.toInt32.toInt64 = if f.toNat < 2 ^ 31 then f.toNat else 2 ^ 64 - 2 ^ 32 + f.toNat := by
  have h1 : (f.toInt32.toInt64).toInt = f.toInt32.toInt := Int32.toInt_toInt64 _
  have h2 := n32_toInt f
  have h3 := n64_toInt f.toInt32.toInt64
  have h4 := n64_lt f.toInt32.toInt64
  have h5 := f.toNat_lt
  rw [h1, h2] at h3
  by_cases e : f.toNat < 2 ^ 31
  · rw [if_pos e] at h3 ⊢
    split at h3 <;> omega
  · rw [if_neg e] at h3 ⊢
    split at h3 <;> omega
theorem n64_i32 (hc : n64 x = c) (h31 : c < 2 ^ 31) : x.toInt32 = nI c := by
  have h1 := n64_toInt x
  rw [hc, if_pos (by omega)] at h1
  apply Int32.toInt_inj.mp
  rw [Int64.toInt_toInt32, h1, nI_toInt h31, Int.bmod_def]
  omega
theorem n64_shr (x y : Int64) (hc : (y.toUInt64 &&& Int64.toUInt64 63).toNat = c) (h64 : c < 64) : n64 (x.toUInt64 >>> (y.toUInt64 &&& Int64.toUInt64 63)).toInt64 = n64 x / 2 ^ c := by
  show (x.toUInt64 >>> (y.toUInt64 &&& Int64.toUInt64 63)).toNat = _
  rw [UInt64.toNat_shiftRight, hc, Nat.mod_eq_of_lt h64, Nat.shiftRight_eq_div_pow]
  rfl
theorem n64_mask (hc : n64 y = 2 ^ c - 1) : n64 (x &&& y) = n64 x % 2 ^ c := by
  rw [n64_and, hc, Nat.and_two_pow_sub_one_eq_mod]
theorem n64_0 (h : n64 x ≠ 0) : ¬ x = 0 := by
  intro z
  rw [z] at h
  exact h rfl
/-- a float's bits out of a double's -/
theorem c51 (hn : n64 b = s * 2 ^ 63 + (P * 2 ^ 52 + Q * 2 ^ 29)) (hs : s ≤ 1) (hQ : Q < 2 ^ 23) (hP : 897 ≤ P) (hP2 : P ≤ 1150) : X g 51 0 [.val (.long b), .second, .unset, .unset, .unset, .unset, .unset] [] h = some (some (.long (UInt32.ofNat (s * 2 ^ 31 + ((P - 896) * 2 ^ 23 + Q))).toInt32.toInt64), h) := by
  have z0 : ¬ b = 0 := n64_0 (by omega)
  have e1 : n64 ((b.toUInt64 >>> ((52 : Int32).toInt64.toUInt64 &&& Int64.toUInt64 63)).toInt64 &&& 2047) = P := by
    rw [n64_mask (c := 11) (by decide), n64_shr b _ (c := 52) (by decide) (by decide), hn]
    omega
  have e2 : ((b.toUInt64 >>> ((52 : Int32).toInt64.toUInt64 &&& Int64.toUInt64 63)).toInt64 &&& 2047).toInt32 = nI P := n64_i32 e1 (by omega)
  have e3 : n64 ((b &&& 4503599627370495).toUInt64 >>> ((29 : Int32).toInt64.toUInt64 &&& Int64.toUInt64 63)).toInt64 = Q := by
    rw [n64_shr _ _ (c := 29) (by decide) (by decide), n64_mask (c := 52) (by decide), hn]
    omega
  have e4 : nI P - 1023 + 127 = nI (P - 896) := by
    rw [show P = P - 896 + 896 by omega, ← nI_add, show (P - 896 + 896 - 896) = P - 896 by omega, Int32.sub_eq_add_neg, Int32.add_assoc, Int32.add_assoc, show nI 896 + (-1023 + 127) = (0 : Int32) from by decide, Int32.add_zero]
  have e5 : n64 ((nI (P - 896)).toInt64 <<< ((23 : Int32).toInt64 &&& 63) ||| ((b &&& 4503599627370495).toUInt64 >>> ((29 : Int32).toInt64.toUInt64 &&& Int64.toUInt64 63)).toInt64) = (P - 896) * 2 ^ 23 + Q := by
    rw [n64_or, e3, n64_shl (c := 23) _ _ (by decide) (by decide) (by rw [n64_nI (by omega)]; omega), n64_nI (by omega), or_pow hQ]
  have hf : (UInt32.ofNat (s * 2 ^ 31 + ((P - 896) * 2 ^ 23 + Q))).toNat = s * 2 ^ 31 + ((P - 896) * 2 ^ 23 + Q) := by
    rw [UInt32.toNat_ofNat']
    exact Nat.mod_eq_of_lt (by omega)
  by_cases c : s = 0
  · subst c
    have g1 : ¬ b.toInt < (0 : Int64).toInt := by
      rw [Int64.toInt_zero, n64_neg]
      omega
    have g2 : (nI (P - 896)).toInt64 <<< ((23 : Int32).toInt64 &&& 63) ||| ((b &&& 4503599627370495).toUInt64 >>> ((29 : Int32).toInt64.toUInt64 &&& Int64.toUInt64 63)).toInt64 = (UInt32.ofNat (0 * 2 ^ 31 + ((P - 896) * 2 ^ 23 + Q))).toInt32.toInt64 := by
      apply n64_inj
      rw [e5, n64_f, hf, if_pos (by omega)]
      omega
    simp only [x51_0, x51_1, x51_2, x51_3, x51_6, x51_7, x51_8, x51_9, x51_11, x51_12, x51_15, x51_16, x51_17, x51_20, x51_21, x51_22, x51_23, x51_26, x51_27, x51_29, x51_30, x51_31, x51_32, x51_34, x51_35, x51_36, x51_38, x51_39, x51_40, x51_41, x51_43, x51_44, x51_45, x51_46, x51_49, x51_51, x51_54, x51_55, x51_58, x51_60, lcmp_eq0, lcmp_ge0, z0, e2, e4, g1, g2, Option.bind_some, Option.toList_some, Option.toList_none, List.cons_append, List.nil_append, Option.isSome_some, if_true, eq_self, or_true, true_or, xb_01, mcl_cl, not_true_eq_false, not_false_eq_true, if_false]
  · have c : s = 1 := by omega
    subst c
    have g1 : b.toInt < (0 : Int64).toInt := by
      rw [Int64.toInt_zero, n64_neg]
      omega
    have g2 : (nI (P - 896)).toInt64 <<< ((23 : Int32).toInt64 &&& 63) ||| ((b &&& 4503599627370495).toUInt64 >>> ((29 : Int32).toInt64.toUInt64 &&& Int64.toUInt64 63)).toInt64 ||| -2147483648 = (UInt32.ofNat (1 * 2 ^ 31 + ((P - 896) * 2 ^ 23 + Q))).toInt32.toInt64 := by
      apply n64_inj
      rw [n64_or, e5, Nat.or_comm, show n64 (-2147483648) = (2 ^ 33 - 1) * 2 ^ 31 from by decide, or_pow (by omega), n64_f, hf, if_neg (by omega)]
      omega
    simp only [x51_0, x51_1, x51_2, x51_3, x51_6, x51_7, x51_8, x51_9, x51_11, x51_12, x51_15, x51_16, x51_17, x51_20, x51_21, x51_22, x51_23, x51_26, x51_27, x51_29, x51_30, x51_31, x51_32, x51_34, x51_35, x51_36, x51_38, x51_39, x51_40, x51_41, x51_43, x51_44, x51_45, x51_46, x51_49, x51_51, x51_54, x51_55, x51_58, x51_60, lcmp_eq0, lcmp_ge0, z0, e2, e4, g1, g2, Option.bind_some, Option.toList_some, Option.toList_none, List.cons_append, List.nil_append, Option.isSome_some, if_true, eq_self, or_true, true_or, xb_01, mcl_cl, not_true_eq_false, not_false_eq_true, if_false]
theorem c51z : X g 51 0 [.val (.long 0), .second, .unset, .unset, .unset, .unset, .unset] [] h = some (some (.long 0), h) := by
  simp only [x51_0, x51_1, x51_2, x51_3, x51_6, x51_7, x51_8, x51_9, x51_11, x51_12, x51_15, x51_16, x51_17, x51_20, x51_21, x51_22, x51_23, x51_26, x51_27, x51_29, x51_30, x51_31, x51_32, x51_34, x51_35, x51_36, x51_38, x51_39, x51_40, x51_41, x51_43, x51_44, x51_45, x51_46, x51_49, x51_51, x51_54, x51_55, x51_58, x51_60, lcmp_eq0, Option.bind_some, Option.toList_some, Option.toList_none, List.cons_append, List.nil_append, Option.isSome_some, if_true, eq_self, or_true, true_or, xb_01, mcl_cl, not_true_eq_false, not_false_eq_true, if_false]
/-- a float's value in a double's units -/
theorem units32 (hE : 1 ≤ E) (hF : F < 2 ^ 23) : FP.Core.unitsOf FP.Core.b32 (E * 2 ^ 23 + F) = (2 ^ 23 + F) * p2 (E - 1) := by
  unfold FP.Core.unitsOf
  rw [FP.Core.tails_b32, if_neg (by omega)]
  have e1 : (E * 2 ^ 23 + F) % 2 ^ 23 = F := by omega
  have e2 : (E * 2 ^ 23 + F) / 2 ^ 23 = E := by omega
  rw [e1, e2]
  rfl
theorem cv_units (hf : FP.Core.FFin f) : FP.Core.mag FP.Core.b64 (FP.Core.f2d f).toNat < FP.Core.infBits FP.Core.b64 ∧ FP.Core.sgn (FP.Core.decode FP.Core.b64 (FP.Core.f2d f).toNat) = FP.Core.sgn (FP.Core.decode FP.Core.b32 f.toNat) ∧ ∀ m, m ≤ FP.Core.infBits FP.Core.b64 → FP.Core.unitsOf FP.Core.b32 (FP.Core.mag FP.Core.b32 f.toNat) * p2 925 = FP.Core.unitsOf FP.Core.b64 m → FP.Core.mag FP.Core.b64 (FP.Core.f2d f).toNat = m := by
  have h0 := FP.Core.f2d_fin hf
  have hfin : FP.Core.mag FP.Core.b64 (FP.Core.f2d f).toNat < FP.Core.infBits FP.Core.b64 := by
    rw [FP.Core.fin_bits] at h0
    rw [FP.Core.mag_toNat64, FP.Core.infBits_b64]
    exact h0
  have hm : FP.Core.mag FP.Core.b32 f.toNat < FP.Core.infBits FP.Core.b32 := by
    rw [FP.Core.fin_bits32] at hf
    rw [FP.Core.mag_toNat32, FP.Core.infBits_b32]
    exact hf
  obtain ⟨s, c, q, x1, x2, x3⟩ := FP.Core.fin_of_mag FP.Core.good_b32 hm
  have hv : FP.Core.decode FP.Core.b64 (FP.Core.f2d f).toNat = FP.Core.round FP.Core.b64 (FP.Core.decode FP.Core.b32 f.toNat) := FP.Core.val64_f2d f
  rw [x1] at hv
  have hd : FP.Core.decode FP.Core.b64 (FP.Core.f2d f).toNat = FP.Core.roundRatio FP.Core.b64 s c 1 q := hv
  have hq := x2.2.1
  rw [FP.Core.qmin_b32] at hq
  refine ⟨hfin, ?_, fun m hmi hu => ?_⟩
  · rw [hd, x1, FP.Core.sgn_roundRatio]
    rfl
  · refine mag_eqq FP.Core.good_b64 hd (by decide) (e0 := FP.Core.b64.qmin) (Int.le_refl _) (by rw [FP.Core.qmin_b64]; omega) hmi ?_
    rw [← hu, ← x3, Nat.mul_one, Int.sub_self, FP.Core.qmin_b64]
    show c * p2 (q - -1074).toNat = c * p2 (q - FP.Core.b32.qmin).toNat * p2 925 * p2 0
    rw [Nat.mul_assoc, Nat.mul_assoc, ← p2_add, ← p2_add, FP.Core.qmin_b32]
    refine congrArg (c * ·) (p2_eq ?_)
    omega
/-- a float as a double, by bits -/
theorem f2d_bits (hn : f.toNat = s * 2 ^ 31 + (E * 2 ^ 23 + F)) (hs : s ≤ 1) (hF : F < 2 ^ 23) (hE : 1 ≤ E) (hE2 : E < 255) : (FP.Core.f2d f).toNat = s * 2 ^ 63 + ((E + 896) * 2 ^ 52 + F * 2 ^ 29) := by
  have hf : FP.Core.FFin f := by rw [FP.Core.fin_bits32, hn]; omega
  obtain ⟨h1, h2, h3⟩ := cv_units hf
  have hm : FP.Core.mag FP.Core.b32 f.toNat = E * 2 ^ 23 + F := by rw [FP.Core.mag_toNat32, hn]; omega
  have hF29 : F * 2 ^ 29 < 2 ^ 52 := by omega
  have h4 := h3 ((E + 896) * 2 ^ 52 + F * 2 ^ 29) (by rw [FP.Core.infBits_b64]; omega) (by
    rw [hm, units32 hE hF, units64 (by omega) hF29, Nat.mul_assoc, ← p2_add]
    have e : 2 ^ 52 + F * 2 ^ 29 = (2 ^ 23 + F) * p2 29 := by
      rw [show p2 29 = 2 ^ 29 from rfl, Nat.add_mul]
    rw [e, Nat.mul_assoc, ← p2_add]
    refine congrArg ((2 ^ 23 + F) * ·) (p2_eq ?_)
    omega)
  have h5 := FP.Core.sgn_decode (f := FP.Core.b64) (n := (FP.Core.f2d f).toNat) (by omega) (FP.Core.lt_full64 _)
  have h6 := FP.Core.sgn_decode (f := FP.Core.b32) (n := f.toNat) (by rw [hm, FP.Core.infBits_b32]; omega) (by rw [FP.Core.half_b32]; have := f.toNat_lt; omega)
  rw [h2, h6, FP.Core.half_b32, FP.Core.half_b64] at h5
  rw [FP.Core.mag_toNat64] at h4
  have h7 := (FP.Core.f2d f).toNat_lt
  by_cases c : s = 0
  · subst c
    rw [decide_eq_false (by omega)] at h5
    have h8 : ¬ 2 ^ 63 ≤ (FP.Core.f2d f).toNat := of_decide_eq_false h5.symm
    omega
  · have c : s = 1 := by omega
    subst c
    rw [decide_eq_true (by omega)] at h5
    have h8 : 2 ^ 63 ≤ (FP.Core.f2d f).toNat := of_decide_eq_true h5.symm
    omega
theorem f2d_z (hn : f.toNat = s * 2 ^ 31) (hs : s ≤ 1) : (FP.Core.f2d f).toNat = s * 2 ^ 63 := by
  by_cases c : s = 0
  · subst c
    have : f = 0 := UInt32.toNat_inj.mp (by rw [hn]; rfl)
    subst this
    decide +kernel
  · have c : s = 1 := by omega
    subst c
    have : f = 2147483648 := UInt32.toNat_inj.mp (by rw [hn]; rfl)
    subst this
    decide +kernel
/-- a double's bits out of a float's -/
theorem c52 (hb : b = f.toInt32.toInt64) (hn : f.toNat % 2 ^ 31 = 0 ∨ (2 ^ 23 ≤ f.toNat % 2 ^ 31 ∧ f.toNat % 2 ^ 31 < 255 * 2 ^ 23)) : X g 52 0 [.val (.long b), .second, .unset, .unset, .unset, .unset, .unset] [] h = some (some (.long (FP.Core.f2d f).toInt64), h) := by
  have hlt := f.toNat_lt
  have hnb := n64_f f
  rw [← hb] at hnb
  have hd : n64 (FP.Core.f2d f).toInt64 = (FP.Core.f2d f).toNat := rfl
  have hmk : n64 (b &&& 2147483647) = f.toNat % 2 ^ 31 := by
    rw [n64_mask (c := 31) (by decide), hnb]
    split <;> omega
  obtain ⟨s, hs, hsn⟩ : ∃ s, s ≤ 1 ∧ f.toNat = s * 2 ^ 31 + f.toNat % 2 ^ 31 := ⟨f.toNat / 2 ^ 31, by omega, by omega⟩
  have hsg : b.toInt < (0 : Int64).toInt ↔ s = 1 := by
    rw [Int64.toInt_zero, n64_neg, hnb]
    split <;> omega
  rcases hn with hz | ⟨h1, h2⟩
  · have z0 : b &&& 2147483647 = 0 := n64_inj (by rw [hmk, hz]; rfl)
    have hf := f2d_z (f := f) (s := s) (hsn.trans (by rw [hz, Nat.add_zero])) hs
    by_cases c : s = 0
    · have g1 : ¬ b.toInt < (0 : Int64).toInt := fun y => by have := hsg.mp y; omega
      have g2 : (0 : Int64) = (FP.Core.f2d f).toInt64 := n64_inj (by rw [hd, hf, c]; rfl)
      simp only [x52_0, x52_1, x52_4, x52_5, x52_6, x52_7, x52_10, x52_11, x52_12, x52_13, x52_16, x52_19, x52_22, x52_23, x52_24, x52_25, x52_27, x52_28, x52_31, x52_32, x52_33, x52_35, x52_36, x52_37, x52_38, x52_41, x52_42, x52_44, x52_45, x52_46, x52_47, x52_50, x52_51, x52_52, x52_54, x52_55, x52_56, x52_57, x52_59, x52_60, x52_61, x52_62, x52_65, x52_67, x52_70, x52_71, x52_74, x52_76, lcmp_eq0, lcmp_ge0, z0, g1, Option.bind_some, Option.toList_some, Option.toList_none, List.cons_append, List.nil_append, Option.isSome_some, if_true, eq_self, or_true, true_or, xb_01, mcl_cl, not_true_eq_false, not_false_eq_true, if_false]
      rw [g2]
    · have c : s = 1 := by omega
      have g1 : b.toInt < (0 : Int64).toInt := hsg.mpr c
      have g2 : (-9223372036854775808 : Int64) = (FP.Core.f2d f).toInt64 := n64_inj (by rw [hd, hf, c]; rfl)
      simp only [x52_0, x52_1, x52_4, x52_5, x52_6, x52_7, x52_10, x52_11, x52_12, x52_13, x52_16, x52_19, x52_22, x52_23, x52_24, x52_25, x52_27, x52_28, x52_31, x52_32, x52_33, x52_35, x52_36, x52_37, x52_38, x52_41, x52_42, x52_44, x52_45, x52_46, x52_47, x52_50, x52_51, x52_52, x52_54, x52_55, x52_56, x52_57, x52_59, x52_60, x52_61, x52_62, x52_65, x52_67, x52_70, x52_71, x52_74, x52_76, lcmp_eq0, lcmp_ge0, z0, g1, Option.bind_some, Option.toList_some, Option.toList_none, List.cons_append, List.nil_append, Option.isSome_some, if_true, eq_self, or_true, true_or, xb_01, mcl_cl, not_true_eq_false, not_false_eq_true, if_false]
      rw [g2]
  · have z0 : ¬ b &&& 2147483647 = 0 := n64_0 (by rw [hmk]; omega)
    obtain ⟨E, F, hE, hE2, hF, hEF⟩ : ∃ E F, 1 ≤ E ∧ E < 255 ∧ F < 2 ^ 23 ∧ f.toNat % 2 ^ 31 = E * 2 ^ 23 + F := ⟨f.toNat % 2 ^ 31 / 2 ^ 23, f.toNat % 2 ^ 31 % 2 ^ 23, by omega, by omega, Nat.mod_lt _ (by decide), by omega⟩
    have hf := f2d_bits (f := f) (s := s) (E := E) (F := F) (by omega) hs hF hE hE2
    have e1 : n64 ((b.toUInt64 >>> ((23 : Int32).toInt64.toUInt64 &&& Int64.toUInt64 63)).toInt64 &&& 255) = E := by
      rw [n64_mask (c := 8) (by decide), n64_shr b _ (c := 23) (by decide) (by decide), hnb]
      split <;> omega
    have e2 : ((b.toUInt64 >>> ((23 : Int32).toInt64.toUInt64 &&& Int64.toUInt64 63)).toInt64 &&& 255).toInt32 = nI E := n64_i32 e1 (by omega)
    have e3 : n64 ((b &&& 8388607) <<< ((29 : Int32).toInt64 &&& 63)) = F * 2 ^ 29 := by
      have e9 : n64 (b &&& 8388607) = F := by
        rw [n64_mask (c := 23) (by decide), hnb]
        split <;> omega
      rw [n64_shl (c := 29) _ _ (by decide) (by decide) (by rw [e9]; omega), e9]
    have e4 : nI E - 127 + 1023 = nI (E + 896) := by
      rw [← nI_add, Int32.sub_eq_add_neg, Int32.add_assoc, show (-127 + 1023 : Int32) = nI 896 from by decide]
    have e5 : n64 ((nI (E + 896)).toInt64 <<< ((52 : Int32).toInt64 &&& 63) ||| (b &&& 8388607) <<< ((29 : Int32).toInt64 &&& 63)) = (E + 896) * 2 ^ 52 + F * 2 ^ 29 := by
      rw [n64_or, e3, n64_shl (c := 52) _ _ (by decide) (by decide) (by rw [n64_nI (by omega)]; omega), n64_nI (by omega), or_pow (by omega)]
    by_cases c : s = 0
    · have g1 : ¬ b.toInt < (0 : Int64).toInt := fun y => by have := hsg.mp y; omega
      have g2 : (nI (E + 896)).toInt64 <<< ((52 : Int32).toInt64 &&& 63) ||| (b &&& 8388607) <<< ((29 : Int32).toInt64 &&& 63) = (FP.Core.f2d f).toInt64 := n64_inj (by rw [hd, hf, c, e5]; omega)
      simp only [x52_0, x52_1, x52_4, x52_5, x52_6, x52_7, x52_10, x52_11, x52_12, x52_13, x52_16, x52_19, x52_22, x52_23, x52_24, x52_25, x52_27, x52_28, x52_31, x52_32, x52_33, x52_35, x52_36, x52_37, x52_38, x52_41, x52_42, x52_44, x52_45, x52_46, x52_47, x52_50, x52_51, x52_52, x52_54, x52_55, x52_56, x52_57, x52_59, x52_60, x52_61, x52_62, x52_65, x52_67, x52_70, x52_71, x52_74, x52_76, lcmp_eq0, lcmp_ge0, z0, e2, e4, g1, g2, Option.bind_some, Option.toList_some, Option.toList_none, List.cons_append, List.nil_append, Option.isSome_some, if_true, eq_self, or_true, true_or, xb_01, mcl_cl, not_true_eq_false, not_false_eq_true, if_false]
    · have c : s = 1 := by omega
      have g1 : b.toInt < (0 : Int64).toInt := hsg.mpr c
      have g2 : (nI (E + 896)).toInt64 <<< ((52 : Int32).toInt64 &&& 63) ||| (b &&& 8388607) <<< ((29 : Int32).toInt64 &&& 63) ||| -9223372036854775808 = (FP.Core.f2d f).toInt64 := n64_inj (by
        rw [hd, hf, c, n64_or, e5, Nat.or_comm, show n64 (-9223372036854775808) = 1 * 2 ^ 63 from by decide, or_pow (by omega)])
      simp only [x52_0, x52_1, x52_4, x52_5, x52_6, x52_7, x52_10, x52_11, x52_12, x52_13, x52_16, x52_19, x52_22, x52_23, x52_24, x52_25, x52_27, x52_28, x52_31, x52_32, x52_33, x52_35, x52_36, x52_37, x52_38, x52_41, x52_42, x52_44, x52_45, x52_46, x52_47, x52_50, x52_51, x52_52, x52_54, x52_55, x52_56, x52_57, x52_59, x52_60, x52_61, x52_62, x52_65, x52_67, x52_70, x52_71, x52_74, x52_76, lcmp_eq0, lcmp_ge0, z0, e2, e4, g1, g2, Option.bind_some, Option.toList_some, Option.toList_none, List.cons_append, List.nil_append, Option.isSome_some, if_true, eq_self, or_true, true_or, xb_01, mcl_cl, not_true_eq_false, not_false_eq_true, if_false]
end K4
