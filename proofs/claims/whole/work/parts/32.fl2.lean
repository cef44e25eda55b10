/-! FLOATS, 3: doubles by their bits; powers of two; the class's bits of a double -/
section FL2
variable {g : xG} {h : xH} {E F j e : Nat}
/-- a power of two -/
def p2 (n : Nat) : Nat := 2 ^ n
theorem p2_add (a b : Nat) : p2 (a + b) = p2 a * p2 b := Nat.pow_add ..
theorem p2_pos (a : Nat) : 0 < p2 a := Nat.two_pow_pos a
theorem p2_52 : 2 ^ 52 = p2 52 := rfl
theorem p2_eq {a b : Nat} (h : a = b) : p2 a = p2 b := congrArg p2 h
/-- a double by its exponent's and its fraction's fields -/
def dbl (E F : Nat) : UInt64 := UInt64.ofNat (E * 2 ^ 52 + F)
theorem dbl_nat (hE : E < 2048) (hF : F < 2 ^ 52) : (dbl E F).toNat = E * 2 ^ 52 + F := by
  unfold dbl
  rw [UInt64.toNat_ofNat']
  exact Nat.mod_eq_of_lt (by omega)
theorem dbl_mag (hE : E < 2048) (hF : F < 2 ^ 52) : FP.Core.mag FP.Core.b64 (dbl E F).toNat = E * 2 ^ 52 + F := by
  rw [FP.Core.mag_toNat64, dbl_nat hE hF]
  exact Nat.mod_eq_of_lt (by omega)
theorem dbl_fin (hE : E < 2047) (hF : F < 2 ^ 52) : FP.Core.DFin (dbl E F) := by
  rw [FP.Core.fin_bits, dbl_nat (by omega) hF]
  omega
theorem units64 (hE : 1 ≤ E) (hF : F < 2 ^ 52) : FP.Core.unitsOf FP.Core.b64 (E * 2 ^ 52 + F) = (2 ^ 52 + F) * p2 (E - 1) := by
  unfold FP.Core.unitsOf
  rw [FP.Core.tails_b64, if_neg (by omega)]
  have e1 : (E * 2 ^ 52 + F) % 2 ^ 52 = F := by omega
  have e2 : (E * 2 ^ 52 + F) / 2 ^ 52 = E := by omega
  rw [e1, e2]
  rfl
theorem mag_eqq {f : FP.Core.Fmt} (hf : FP.Core.Good f) {s : Bool} {n m A B : Nat} {e e0 : Int} (hn : FP.Core.decode f n = FP.Core.roundRatio f s A B e) (hB : 0 < B) (h0 : e0 ≤ f.qmin) (h0e : e0 ≤ e) (hm : m ≤ FP.Core.infBits f) (hh : FP.Core.inUnits A e e0 = FP.Core.unitsOf f m * (p2 (f.qmin - e0).toNat * B)) : FP.Core.mag f n = m :=
  Nat.le_antisymm (FP.Core.mag_le hf hn hB h0 h0e (Nat.le_of_eq (hh.trans (Nat.mul_assoc _ _ _).symm))) (FP.Core.mag_ge hf hn hB h0 h0e hm (Nat.le_of_eq ((Nat.mul_assoc _ _ _).trans hh.symm)))
theorem nat_of_dec {f : FP.Core.Fmt} {n m A B : Nat} {e : Int} (hn : FP.Core.decode f n = FP.Core.roundRatio f false A B e) (hl : n < 2 * FP.Core.half f) (hm : FP.Core.mag f n = m) (hi : m ≤ FP.Core.infBits f) : n = m := by
  have h1 := FP.Core.sgn_decode (f := f) (n := n) (by omega) hl
  rw [hn, FP.Core.sgn_roundRatio] at h1
  have h2 : ¬ FP.Core.half f ≤ n := by
    intro z
    rw [decide_eq_true z] at h1
    exact absurd h1 (by simp)
  rw [← hm]
  exact (FP.Core.mag_of_lt (by omega)).symm
theorem div_decs {f : FP.Core.Fmt} (hf : FP.Core.Good f) {x y L : Nat} (hx : FP.Core.mag f x < FP.Core.infBits f) (hy : L * f.tails ≤ FP.Core.mag f y) (hyf : FP.Core.mag f y < FP.Core.infBits f) (hL : 1 ≤ L) : ∃ (c d : Nat) (e0 e : Int), FP.Core.decode f (FP.Core.div f x y) = FP.Core.roundRatio f (FP.Core.sgn (FP.Core.decode f x) != FP.Core.sgn (FP.Core.decode f y)) c d e ∧ 0 < d ∧ e0 ≤ f.qmin ∧ e0 ≤ e ∧ FP.Core.inUnits c e e0 = FP.Core.unitsOf f (FP.Core.mag f x) * p2 (-f.qmin).toNat ∧ p2 (f.qmin - e0).toNat * d = FP.Core.unitsOf f (FP.Core.mag f y) := by
  obtain ⟨s, c, q, x1, x2, x3⟩ := FP.Core.fin_of_mag hf hx
  obtain ⟨t, d, r, y1, y2, y3⟩ := FP.Core.fin_of_mag hf hyf
  have hq := FP.Core.qmin_neg hf
  have l2 : f.tails * 2 ^ (L - 1) ≤ FP.Core.zmag f (.fin t d r) := by
    rw [y3, ← FP.Core.unitsOf_start hL]; exact FP.Core.unitsOf_le_iff.mpr hy
  have hd0 : d ≠ 0 := by
    rintro rfl
    have h1 : FP.Core.zmag f (.fin t 0 r) = 0 := Nat.zero_mul _
    have := Nat.mul_pos (FP.Core.tails_pos f) (Nat.two_pow_pos (L - 1))
    omega
  have hd : FP.Core.decode f (FP.Core.div f x y) = FP.Core.roundRatio f (FP.Core.sgn (FP.Core.decode f x) != FP.Core.sgn (FP.Core.decode f y)) c d (q - r) := by
    unfold FP.Core.div
    rw [FP.Core.decode_enc hf (FP.Core.quotient_fits hf _ _), x1, y1]
    simp only [FP.Core.quotient, if_neg hd0, FP.Core.sgn]
  have hx1 := x2.2.1
  have hy1 := y2.2.1
  refine ⟨c, d, 2 * f.qmin - r, q - r, hd, by omega, by omega, by omega, ?_, ?_⟩
  · rw [← x3]
    show c * 2 ^ _ = c * 2 ^ _ * 2 ^ _
    rw [Nat.mul_assoc, ← Nat.pow_add]; congr 2; omega
  · rw [← y3]
    show 2 ^ _ * d = d * 2 ^ _
    rw [Nat.mul_comm]; congr 2; omega
theorem mul_decs {f : FP.Core.Fmt} (hf : FP.Core.Good f) {x y : Nat} (hx : FP.Core.mag f x < FP.Core.infBits f) (hy : FP.Core.mag f y < FP.Core.infBits f) : ∃ (c : Nat) (e : Int), FP.Core.decode f (FP.Core.mul f x y) = FP.Core.roundRatio f (FP.Core.sgn (FP.Core.decode f x) != FP.Core.sgn (FP.Core.decode f y)) c 1 e ∧ 2 * f.qmin ≤ e ∧ FP.Core.inUnits c e (2 * f.qmin) = FP.Core.unitsOf f (FP.Core.mag f x) * FP.Core.unitsOf f (FP.Core.mag f y) := by
  obtain ⟨s, c, q, x1, x2, x3⟩ := FP.Core.fin_of_mag hf hx
  obtain ⟨t, d, r, y1, y2, y3⟩ := FP.Core.fin_of_mag hf hy
  obtain ⟨p1, p2, p3⟩ := FP.Core.product_units x2 y2
  have hd : FP.Core.decode f (FP.Core.mul f x y) = FP.Core.roundRatio f (FP.Core.sgn (FP.Core.decode f x) != FP.Core.sgn (FP.Core.decode f y)) (c * d) 1 (q + r) := by
    unfold FP.Core.mul
    rw [FP.Core.decode_enc hf (FP.Core.round_fits hf _), x1, y1, p1]; rfl
  exact ⟨c * d, q + r, hd, p2, by rw [p3, x3, y3]⟩
theorem sgn_dbl (hE : E < 2047) (hF : F < 2 ^ 52) : FP.Core.sgn (FP.Core.decode FP.Core.b64 (dbl E F).toNat) = false := by
  rw [FP.Core.sgn_decode (by rw [dbl_mag (by omega) hF, FP.Core.infBits_b64]; omega) (FP.Core.lt_full64 _), FP.Core.half_b64, dbl_nat (by omega) hF]
  exact decide_eq_false (by omega)
/-- divided by a power of two -/
theorem ddiv_2 (hF : F < 2 ^ 52) (hj : j ≤ 63) (hE : j + 1 ≤ E) (hE2 : E < 2047) : FP.Core.ddiv (dbl E F) (dbl (1023 + j) 0) = dbl (E - j) F := by
  have hz : (0 : Nat) < 2 ^ 52 := by decide
  have h1 : (FP.Core.ddiv (dbl E F) (dbl (1023 + j) 0)).toNat = FP.Core.div FP.Core.b64 (dbl E F).toNat (dbl (1023 + j) 0).toNat := FP.Core.toNat_of64 (FP.Core.quotient_fits FP.Core.good_b64 _ _)
  obtain ⟨c, d, e0, e, h2, h3, h4, h5, h6, h7⟩ := div_decs FP.Core.good_b64 (x := (dbl E F).toNat) (y := (dbl (1023 + j) 0).toNat) (L := 1023) (by rw [dbl_mag (by omega) hF, FP.Core.infBits_b64]; omega) (by rw [dbl_mag (by omega) hz, FP.Core.tails_b64]; omega) (by rw [dbl_mag (by omega) hz, FP.Core.infBits_b64]; omega) (by decide)
  rw [sgn_dbl hE2 hF, sgn_dbl (by omega) hz] at h2
  rw [dbl_mag (by omega) hF, units64 (by omega) hF] at h6
  rw [dbl_mag (by omega) hz, units64 (by omega) hz] at h7
  have h8 : FP.Core.mag FP.Core.b64 (FP.Core.div FP.Core.b64 (dbl E F).toNat (dbl (1023 + j) 0).toNat) = (E - j) * 2 ^ 52 + F := by
    refine mag_eqq FP.Core.good_b64 h2 h3 h4 h5 (by rw [FP.Core.infBits_b64]; omega) ?_
    rw [h6, h7, units64 (by omega) hF, FP.Core.qmin_b64, show (-(-1074) : Int).toNat = 1074 from rfl, Nat.add_zero, p2_52, Nat.mul_assoc, Nat.mul_assoc]
    refine congrArg ((p2 52 + F) * ·) ?_
    rw [← p2_add, ← p2_add, ← p2_add]
    exact p2_eq (by omega)
  apply UInt64.toNat_inj.mp
  rw [dbl_nat (by omega) hF, h1]
  exact nat_of_dec h2 (by rw [← h1]; exact FP.Core.lt_full64 _) h8 (by rw [FP.Core.infBits_b64]; omega)
/-- times a power of two -/
theorem dmul_2 (hF : F < 2 ^ 52) (hE : 1 ≤ E) (hE2 : E + j < 2047) (hj : j ≤ 63) : FP.Core.dmul (dbl E F) (dbl (1023 + j) 0) = dbl (E + j) F := by
  have hz : (0 : Nat) < 2 ^ 52 := by decide
  have h1 : (FP.Core.dmul (dbl E F) (dbl (1023 + j) 0)).toNat = FP.Core.mul FP.Core.b64 (dbl E F).toNat (dbl (1023 + j) 0).toNat := FP.Core.toNat_of64 (FP.Core.round_fits FP.Core.good_b64 _)
  obtain ⟨c, e, h2, h3, h4⟩ := mul_decs FP.Core.good_b64 (x := (dbl E F).toNat) (y := (dbl (1023 + j) 0).toNat) (by rw [dbl_mag (by omega) hF, FP.Core.infBits_b64]; omega) (by rw [dbl_mag (by omega) hz, FP.Core.infBits_b64]; omega)
  rw [sgn_dbl (by omega) hF, sgn_dbl (by omega) hz] at h2
  rw [dbl_mag (by omega) hF, units64 (by omega) hF, dbl_mag (by omega) hz, units64 (by omega) hz] at h4
  have h8 : FP.Core.mag FP.Core.b64 (FP.Core.mul FP.Core.b64 (dbl E F).toNat (dbl (1023 + j) 0).toNat) = (E + j) * 2 ^ 52 + F := by
    refine mag_eqq FP.Core.good_b64 h2 (by decide) (e0 := 2 * FP.Core.b64.qmin) (by rw [FP.Core.qmin_b64]; decide) h3 (by rw [FP.Core.infBits_b64]; omega) ?_
    rw [h4, units64 (by omega) hF, FP.Core.qmin_b64, show (-1074 - 2 * -1074 : Int).toNat = 1074 from rfl, Nat.mul_one, Nat.add_zero, p2_52, Nat.mul_assoc, Nat.mul_assoc]
    refine congrArg ((p2 52 + F) * ·) ?_
    rw [← p2_add, ← p2_add, ← p2_add]
    exact p2_eq (by omega)
  apply UInt64.toNat_inj.mp
  rw [dbl_nat (by omega) hF, h1]
  exact nat_of_dec h2 (by rw [← h1]; exact FP.Core.lt_full64 _) h8 (by rw [FP.Core.infBits_b64]; omega)
theorem fin_ex {a : UInt64} (ha : FP.Core.DFin a) : ∃ s c q, FP.Core.val64 a = .fin s c q := ha
theorem zval_dbl (hE : 1 ≤ E) (hE2 : E < 2047) (hF : F < 2 ^ 52) : FP.Core.zval FP.Core.b64 (FP.Core.val64 (dbl E F)) = (((2 ^ 52 + F) * p2 (E - 1) : Nat) : Int) := by
  have h1 : FP.Core.zmag FP.Core.b64 (FP.Core.val64 (dbl E F)) = (2 ^ 52 + F) * p2 (E - 1) := by
    show FP.Core.zmag FP.Core.b64 (FP.Core.decode FP.Core.b64 (dbl E F).toNat) = _
    rw [FP.Core.zmag_decode FP.Core.good_b64 (by rw [dbl_mag (by omega) hF, FP.Core.infBits_b64]; omega), dbl_mag (by omega) hF, units64 hE hF]
  have h2 : FP.Core.sgn (FP.Core.val64 (dbl E F)) = false := sgn_dbl hE2 hF
  unfold FP.Core.zval
  rw [h1, h2]
  rfl
theorem F_int (hF : F < 2 ^ 52) : (Int64.ofNat F).toInt = (F : Int) := Int64.toInt_ofNat_of_lt (by omega)
theorem F_dint (hF : F < 2 ^ 52) : FP.Core.DInt (F : Int) (FP.Core.l2d (Int64.ofNat F)) := by
  have hFi := F_int hF
  have := FP.Core.l2d_int (a := Int64.ofNat F) (by rw [hFi]; omega)
  rw [hFi] at this
  exact this
theorem one_p2 : FP.Core.one64 = p2 1074 := rfl
theorem F_zval (hF : F < 2 ^ 52) : FP.Core.zval FP.Core.b64 (FP.Core.val64 (FP.Core.l2d (Int64.ofNat F))) = ((F * p2 1074 : Nat) : Int) := by
  rw [FP.Core.DInt_zval (F_dint hF), one_p2, Int.natCast_mul]
theorem F_down (hF : F < 2 ^ 52) : ∃ V : UInt64, FP.Core.DFin V ∧ FP.Core.zval FP.Core.b64 (FP.Core.val64 V) = ((F * p2 1022 : Nat) : Int) := by
  have hFi := F_int hF
  have zF := F_zval hF
  by_cases h0 : F = 0
  · refine ⟨0, by rw [FP.Core.fin_bits]; decide, ?_⟩
    rw [h0, Nat.zero_mul, FP.Core.zval64_zero]
    rfl
  · have hFl : (Int64.ofNat F).toInt ≠ 0 := by rw [hFi]; omega
    have hb := FP.Core.l2d_big hFl
    have hb2 := FP.Core.fromInt_mag (FP.Core.toNat_l2d (Int64.ofNat F)) (j := 52) (K := 1075) (by rw [hFi]; omega) (by decide) (by decide)
    have hpos : 0 < F * p2 1074 := Nat.mul_pos (Nat.pos_of_ne_zero h0) (p2_pos _)
    have hsg : (FP.Core.l2d (Int64.ofNat F)).toNat < 2 ^ 63 := by
      have hne := FP.Core.DInt_ne_nan (F_dint hF)
      refine Nat.lt_of_not_le fun hh => ?_
      have h5 := FP.Core.zval_nonpos hne hh
      rw [zF] at h5
      generalize F * p2 1074 = N at h5 hpos
      omega
    have e1 : (FP.Core.l2d (Int64.ofNat F)).toNat % 2 ^ 63 = (FP.Core.l2d (Int64.ofNat F)).toNat := Nat.mod_eq_of_lt hsg
    rw [e1] at hb hb2
    obtain ⟨P, Q, hP, hQ, hPQ⟩ : ∃ P Q, 1023 ≤ P ∧ Q < 2 ^ 52 ∧ (FP.Core.l2d (Int64.ofNat F)).toNat = P * 2 ^ 52 + Q := ⟨(FP.Core.l2d (Int64.ofNat F)).toNat / 2 ^ 52, (FP.Core.l2d (Int64.ofNat F)).toNat % 2 ^ 52, by omega, Nat.mod_lt _ (by decide), by omega⟩
    have hP2 : P ≤ 1075 := by omega
    have el : FP.Core.l2d (Int64.ofNat F) = dbl P Q := by
      apply UInt64.toNat_inj.mp
      rw [dbl_nat (by omega) hQ, hPQ]
    rw [el, zval_dbl (by omega) (by omega) hQ] at zF
    refine ⟨dbl (P - 52) Q, dbl_fin (by omega) hQ, ?_⟩
    rw [zval_dbl (by omega) (by omega) hQ]
    have z4 : (2 ^ 52 + Q) * p2 (P - 1) = F * p2 1074 := Int.ofNat_inj.mp zF
    have z5 : (2 ^ 52 + Q) * p2 (P - 52 - 1) * p2 52 = F * p2 1022 * p2 52 := by
      rw [Nat.mul_assoc, ← p2_add, Nat.mul_assoc, ← p2_add, p2_eq (show P - 52 - 1 + 52 = P - 1 by omega)]
      exact z4
    rw [Nat.eq_of_mul_eq_mul_right (p2_pos 52) z5]
theorem F_sub (hF : F < 2 ^ 52) : FP.Core.zval FP.Core.b64 (FP.Core.val64 (FP.Core.dsub (dbl 1023 F) (dbl 1023 0))) = ((F * p2 1022 : Nat) : Int) := by
  have hz : (0 : Nat) < 2 ^ 52 := by decide
  have f1 : FP.Core.DFin (dbl 1023 F) := dbl_fin (by decide) hF
  have f2 : FP.Core.DFin (dbl 1023 0) := dbl_fin (by decide) hz
  have z1 := zval_dbl (E := 1023) (by decide) (by decide) hF
  have z2 := zval_dbl (E := 1023) (by decide) (by decide) hz
  rw [show (1023 - 1 : Nat) = 1022 from rfl] at z1 z2
  obtain ⟨V, fV, zV⟩ := F_down hF
  have nV : FP.Core.val64 V ≠ .nan := FP.Core.DFin.ne_nan fV
  have hsum : FP.Core.zval FP.Core.b64 (FP.Core.val64 (dbl 1023 F)) + FP.Core.zval FP.Core.b64 (FP.Core.negate (FP.Core.val64 (dbl 1023 0))) = FP.Core.zval FP.Core.b64 (FP.Core.val64 V) := by
    rw [FP.Core.zval_negate, z1, z2, zV, Nat.add_zero, Nat.add_mul, Int.natCast_add]
    generalize ((2 ^ 52 * p2 1022 : Nat) : Int) = A
    generalize ((F * p2 1022 : Nat) : Int) = B
    omega
  have hr : FP.Core.val64 (FP.Core.dsub (dbl 1023 F) (dbl 1023 0)) = FP.Core.round FP.Core.b64 (FP.Core.exactSum (FP.Core.val64 (dbl 1023 F)) (FP.Core.negate (FP.Core.val64 (dbl 1023 0)))) := FP.Core.val64_dsub _ _
  obtain ⟨s2, c2, q2, hf2⟩ := fin_ex f2
  have hn2 : ∃ s c q, FP.Core.negate (FP.Core.val64 (dbl 1023 0)) = .fin s c q := by rw [hf2]; exact ⟨!s2, c2, q2, rfl⟩
  have le := FP.Core.sum_le FP.Core.good_b64 (fin_ex f1) hn2 (FP.Core.val64_fits _) (by rw [← FP.Core.val64_dneg]; exact FP.Core.val64_fits _) (FP.Core.val64_fits V) nV (Int.le_of_eq hsum)
  have ge := FP.Core.sum_ge FP.Core.good_b64 (fin_ex f1) hn2 (FP.Core.val64_fits _) (by rw [← FP.Core.val64_dneg]; exact FP.Core.val64_fits _) (FP.Core.val64_fits V) nV (Int.le_of_eq hsum.symm)
  rw [hr, ← zV]
  exact Int.le_antisymm le ge
theorem sgz (s : Bool) (m N : Nat) (hh : FP.Core.signed s m = (N : Int)) : m = N := by
  cases s with
  | false => exact Int.ofNat_inj.mp hh
  | true =>
    have h9 : -(m : Int) = (N : Int) := hh
    omega
theorem sgpos (s : Bool) (m : Nat) (hh : FP.Core.signed s m = (m : Int)) (hm : 0 < m) : s = false := by
  cases s with
  | false => rfl
  | true =>
    have h9 : -(m : Int) = (m : Int) := hh
    omega
theorem F_subfin (hF : F < 2 ^ 52) : (FP.Core.dsub (dbl 1023 F) (dbl 1023 0)).toNat % 2 ^ 63 < 1026 * 2 ^ 52 := by
  have hz : (0 : Nat) < 2 ^ 52 := by decide
  have hm1 : (dbl 1023 F).toNat % 2 ^ 63 < 1024 * 2 ^ 52 := by rw [dbl_nat (by decide) hF]; omega
  have hm2 : (dbl 1023 0).toNat % 2 ^ 63 < 1024 * 2 ^ 52 := by rw [dbl_nat (by decide) hz]; omega
  exact FP.Core.dsub_mag hm1 hm2 (by decide)
theorem p2_key : p2 1022 * (p2 52 * p2 1074) = p2 1074 * p2 1074 := by
  have e : p2 1074 = p2 1022 * p2 52 := (p2_eq (show 1074 = 1022 + 52 by decide)).trans (p2_add _ _)
  rw [← Nat.mul_assoc]
  exact congrArg (· * p2 1074) e.symm
theorem F_mul1 {D Y W : UInt64} (hms : FP.Core.mag FP.Core.b64 D.toNat < FP.Core.infBits FP.Core.b64) (ums : FP.Core.unitsOf FP.Core.b64 (FP.Core.mag FP.Core.b64 D.toNat) = F * p2 1022) (hmk : FP.Core.mag FP.Core.b64 Y.toNat < FP.Core.infBits FP.Core.b64) (uY : FP.Core.unitsOf FP.Core.b64 (FP.Core.mag FP.Core.b64 Y.toNat) = p2 52 * p2 1074) (hmF : FP.Core.mag FP.Core.b64 W.toNat < FP.Core.infBits FP.Core.b64) (uF : FP.Core.unitsOf FP.Core.b64 (FP.Core.mag FP.Core.b64 W.toNat) = F * p2 1074) : FP.Core.mag FP.Core.b64 (FP.Core.dmul D Y).toNat = FP.Core.mag FP.Core.b64 W.toNat ∧ FP.Core.sgn (FP.Core.decode FP.Core.b64 (FP.Core.dmul D Y).toNat) = (FP.Core.sgn (FP.Core.decode FP.Core.b64 D.toNat) != FP.Core.sgn (FP.Core.decode FP.Core.b64 Y.toNat)) := by
  obtain ⟨c, e, h2, h3, h4⟩ := mul_decs FP.Core.good_b64 (x := D.toNat) (y := Y.toNat) hms hmk
  have h1 : (FP.Core.dmul D Y).toNat = FP.Core.mul FP.Core.b64 D.toNat Y.toNat := FP.Core.toNat_of64 (FP.Core.round_fits FP.Core.good_b64 _)
  rw [h1]
  refine ⟨?_, by rw [h2, FP.Core.sgn_roundRatio]⟩
  refine mag_eqq FP.Core.good_b64 h2 (by decide) (e0 := 2 * FP.Core.b64.qmin) (by rw [FP.Core.qmin_b64]; decide) h3 (Nat.le_of_lt hmF) ?_
  rw [h4, ums, uF, uY, Nat.mul_one, FP.Core.qmin_b64, show (-1074 - 2 * -1074 : Int).toNat = 1074 from rfl, Nat.mul_assoc F, Nat.mul_assoc F, p2_key]
theorem F_mul2 : FP.Core.mag FP.Core.b64 (dbl 1075 0).toNat < FP.Core.infBits FP.Core.b64 ∧ FP.Core.unitsOf FP.Core.b64 (FP.Core.mag FP.Core.b64 (dbl 1075 0).toNat) = p2 52 * p2 1074 ∧ FP.Core.sgn (FP.Core.decode FP.Core.b64 (dbl 1075 0).toNat) = false := by
  have hz : (0 : Nat) < 2 ^ 52 := by decide
  refine ⟨?_, ?_, sgn_dbl (by decide) hz⟩
  · rw [dbl_mag (by decide) hz, FP.Core.infBits_b64]
    decide
  · rw [dbl_mag (by decide) hz, units64 (by decide) hz, Nat.add_zero, p2_52]
theorem F_mul3 {D : UInt64} (hs : D.toNat % 2 ^ 63 < 1026 * 2 ^ 52) (zs : FP.Core.zval FP.Core.b64 (FP.Core.val64 D) = ((F * p2 1022 : Nat) : Int)) : FP.Core.mag FP.Core.b64 D.toNat < FP.Core.infBits FP.Core.b64 ∧ FP.Core.unitsOf FP.Core.b64 (FP.Core.mag FP.Core.b64 D.toNat) = F * p2 1022 ∧ (F ≠ 0 → FP.Core.sgn (FP.Core.decode FP.Core.b64 D.toNat) = false) := by
  have zms : FP.Core.zmag FP.Core.b64 (FP.Core.val64 D) = F * p2 1022 := sgz _ _ _ zs
  have hms : FP.Core.mag FP.Core.b64 D.toNat < FP.Core.infBits FP.Core.b64 := by rw [FP.Core.mag_toNat64, FP.Core.infBits_b64]; omega
  refine ⟨hms, ?_, fun h0 => ?_⟩
  · rw [← FP.Core.zmag_decode FP.Core.good_b64 (Nat.le_of_lt hms)]
    exact zms
  · unfold FP.Core.zval at zs
    rw [zms] at zs
    exact sgpos _ _ zs (Nat.mul_pos (Nat.pos_of_ne_zero h0) (p2_pos _))
theorem F_l2d (hF : F < 2 ^ 52) : FP.Core.mag FP.Core.b64 (FP.Core.l2d (Int64.ofNat F)).toNat < FP.Core.infBits FP.Core.b64 ∧ FP.Core.unitsOf FP.Core.b64 (FP.Core.mag FP.Core.b64 (FP.Core.l2d (Int64.ofNat F)).toNat) = F * p2 1074 := by
  have hmF : FP.Core.mag FP.Core.b64 (FP.Core.l2d (Int64.ofNat F)).toNat < FP.Core.infBits FP.Core.b64 := by
    have := FP.Core.l2d_mag (Int64.ofNat F)
    rw [FP.Core.mag_toNat64, FP.Core.infBits_b64]
    omega
  refine ⟨hmF, ?_⟩
  rw [← FP.Core.zmag_decode FP.Core.good_b64 (Nat.le_of_lt hmF)]
  exact sgz _ _ _ (F_zval hF)
theorem F_mul (hF : F < 2 ^ 52) : FP.Core.mag FP.Core.b64 (FP.Core.dmul (FP.Core.dsub (dbl 1023 F) (dbl 1023 0)) (dbl 1075 0)).toNat < FP.Core.infBits FP.Core.b64 ∧ FP.Core.unitsOf FP.Core.b64 (FP.Core.mag FP.Core.b64 (FP.Core.dmul (FP.Core.dsub (dbl 1023 F) (dbl 1023 0)) (dbl 1075 0)).toNat) = F * p2 1074 ∧ (F ≠ 0 → FP.Core.sgn (FP.Core.decode FP.Core.b64 (FP.Core.dmul (FP.Core.dsub (dbl 1023 F) (dbl 1023 0)) (dbl 1075 0)).toNat) = false) := by
  obtain ⟨a1, a2, a3⟩ := F_mul3 (F_subfin hF) (F_sub hF)
  obtain ⟨b1, b2, b3⟩ := F_mul2
  obtain ⟨c1, c2⟩ := F_l2d hF
  obtain ⟨d1, d2⟩ := F_mul1 a1 a2 b1 b2 c1 c2
  rw [d1, d2, b3]
  exact ⟨c1, c2, fun h0 => by rw [a3 h0]; rfl⟩
theorem F_end {a : UInt64} (hm : FP.Core.mag FP.Core.b64 a.toNat < FP.Core.infBits FP.Core.b64) (hu : FP.Core.unitsOf FP.Core.b64 (FP.Core.mag FP.Core.b64 a.toNat) = F * p2 1074) (hs : F ≠ 0 → FP.Core.sgn (FP.Core.decode FP.Core.b64 a.toNat) = false) (hF : F < 2 ^ 52) : FP.Core.DFin a ∧ (FP.Core.d2l a).toInt = (F : Int) := by
  have fp : FP.Core.DFin a := by
    rw [FP.Core.fin_bits, ← FP.Core.mag_toNat64, ← FP.Core.infBits_b64]
    exact hm
  refine ⟨fp, ?_⟩
  have zp : FP.Core.zmag FP.Core.b64 (FP.Core.val64 a) = F * p2 1074 := by
    show FP.Core.zmag FP.Core.b64 (FP.Core.decode FP.Core.b64 a.toNat) = _
    rw [FP.Core.zmag_decode FP.Core.good_b64 (Nat.le_of_lt hm), hu]
  have hq : F * p2 1074 / FP.Core.one64 = F := by
    rw [one_p2]
    exact Nat.mul_div_cancel _ (p2_pos _)
  rw [FP.Core.d2l_val (FP.Core.DFin.ne_nan fp), zp, hq]
  by_cases h0 : F = 0
  · rw [h0]
    cases FP.Core.sgn (FP.Core.val64 a) <;> decide
  · have : FP.Core.sgn (FP.Core.val64 a) = false := hs h0
    rw [this]
    show max (-2 ^ 63) (min (2 ^ 63 - 1) ((F : Nat) : Int)) = (F : Int)
    omega
/-- the fraction of a number from 1 up to 2, as a whole number -/
theorem frac_val (hF : F < 2 ^ 52) : FP.Core.DFin (FP.Core.dsub (dbl 1023 F) (dbl 1023 0)) ∧ FP.Core.DFin (FP.Core.dmul (FP.Core.dsub (dbl 1023 F) (dbl 1023 0)) (dbl 1075 0)) ∧ (FP.Core.d2l (FP.Core.dmul (FP.Core.dsub (dbl 1023 F) (dbl 1023 0)) (dbl 1075 0))).toInt = (F : Int) := by
  have hs := F_subfin hF
  obtain ⟨h1, h2, h3⟩ := F_mul hF
  obtain ⟨h4, h5⟩ := F_end h1 h2 h3 hF
  exact ⟨by rw [FP.Core.fin_bits]; omega, h4, h5⟩
end FL2
