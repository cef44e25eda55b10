/-! THE CLASS's methods, 3: doubles and floats by their bits -/
section K3
variable {g : xG} {h : xH} {E F e lp : Nat} {d : UInt64} {pw k i j : Int32} {u v : Int64}
theorem l50c (hF : F < 2 ^ 52) (hE : E < 2048) (s6 s7 : Slot) (i5 : Int32) (hp : pw + 1023 = nI E) : ∃ b b5, n64 b = E * 2 ^ 52 + F ∧ X g 50 84 [.val (.double d), .second, .val (.double (dbl 1023 F)), .second, .val (.int pw), .val (.int i5), s6, s7, .unset] [] h = X g 50 109 [.val (.double d), .second, .val (.double (dbl 1023 F)), .second, .val (.int pw), .val (.long b5), .second, .val (.long b), .second] [] h := by
  obtain ⟨f1, f2, f3⟩ := frac_val hF
  have n1 : isNaN64 (FP.dsub (dbl 1023 F) FP.dconst1) = false := by rw [one_dbl]; exact fin64 f1
  have n2 : isNaN64 (FP.dmul (FP.dsub (dbl 1023 F) FP.dconst1) 4841369599423283200) = false := by rw [one_dbl, k52_dbl]; exact fin64 f2
  have f3' : (FP.d2l (FP.dmul (FP.dsub (dbl 1023 F) FP.dconst1) 4841369599423283200)).toInt = (F : Int) := by rw [one_dbl, k52_dbl]; exact f3
  refine ⟨((nI E).toInt64 <<< ((52 : Int32).toInt64 &&& 63)) ||| FP.d2l (FP.dmul (FP.dsub (dbl 1023 F) FP.dconst1) 4841369599423283200), FP.d2l (FP.dmul (FP.dsub (dbl 1023 F) FP.dconst1) 4841369599423283200), ?_, ?_⟩
  · rw [n64_or, n64_of f3', n64_shl (c := 52) _ _ (by decide) (by decide) (by rw [n64_nI (by omega)]; omega), n64_nI (by omega), or_pow hF]
  · simp only [x50_84, x50_85, x50_86, x50_87, x50_90, x50_91, x50_92, x50_94, x50_96, x50_99, x50_100, x50_101, x50_103, x50_104, x50_106, x50_107, x50_86 n1, x50_90 n2, hp, Option.bind_some, Option.toList_some, Option.toList_none, List.cons_append, List.nil_append, Option.isSome_some, if_true, eq_self, or_true, true_or, xb_01, mcl_cl, not_true_eq_false, not_false_eq_true, if_false]
theorem l50b (hE : 991 ≤ E) (hE2 : E ≤ 1086) (hF : F < 2 ^ 52) : ∃ b b5 pw, n64 b = E * 2 ^ 52 + F ∧ X g 50 20 [.val (.double d), .second, .unset, .unset, .unset, .unset, .unset, .unset, .unset] [.double (dbl E F)] h = X g 50 109 [.val (.double d), .second, .val (.double (dbl 1023 F)), .second, .val (.int pw), .val (.long b5), .second, .val (.long b), .second] [] h := by
  have hz : (0 : Nat) < 2 ^ 52 := by decide
  have h4 := dcmp_dbl (E := E) (F := F) (E' := 1023) (F' := 0) (by omega) hF (by decide) hz
  rw [← one_dbl] at h4
  by_cases c : 1023 ≤ E
  · have h7 : 0 ≤ Op.cmpValue (FP.dcmp (dbl E F) FP.dconst1) .g := by
      rw [h4]
      by_cases c2 : E * 2 ^ 52 + F = 1023 * 2 ^ 52 + 0
      · rw [icmp_eq (by omega), cv_eq]
        decide
      · rw [icmp_gt (by omega), cv_gt]
        decide
    have h8 := l50a (g := g) (h := h) (d := d) (pw := 0) (e := E - 1023) (F := F) (by omega) hF
    rw [show 1023 + (E - 1023) = E by omega] at h8
    obtain ⟨b, b5, h9, h10⟩ := l50c (g := g) (h := h) (d := d) (E := E) (F := F) (pw := 0 + nI (E - 1023)) hF (by omega) (.val (.double (dbl 1024 0))) .second 0 (by
      rw [Int32.zero_add, show (1023 : Int32) = nI 1023 from rfl, nI_add, show E - 1023 + 1023 = E by omega])
    refine ⟨b, b5, 0 + nI (E - 1023), h9, ?_⟩
    rw [← h10, ← h8]
    simp only [x50_20, x50_21, x50_22, x50_24, x50_25, x50_26, x50_27, x50_30, x50_31, x50_34, x50_35, x50_36, x50_38, x50_40, x50_42, h7, Option.bind_some, Option.toList_some, Option.toList_none, List.cons_append, List.nil_append, Option.isSome_some, if_true, eq_self, or_true, true_or, xb_01, mcl_cl, not_true_eq_false, not_false_eq_true, if_false]
  · have h7 : ¬ 0 ≤ Op.cmpValue (FP.dcmp (dbl E F) FP.dconst1) .g := by
      rw [h4, icmp_lt (by omega), cv_lt]
      decide
    have h5 : FP.Core.dmul (dbl E F) (dbl 1055 0) = dbl (E + 32) F := dmul_2 (j := 32) hF (by omega) (by omega) (by decide)
    have h5' : FP.dmul (dbl E F) 4751297606875873280 = dbl (E + 32) F := by
      rw [k32_dbl]
      exact h5
    have h6 : isNaN64 (FP.dmul (dbl E F) 4751297606875873280) = false := by
      rw [h5']
      exact fin64 (dbl_fin (by omega) hF)
    have h8 := l50a (g := g) (h := h) (d := d) (pw := -32) (e := E - 991) (F := F) (by omega) hF
    rw [show 1023 + (E - 991) = E + 32 by omega] at h8
    obtain ⟨b, b5, h9, h10⟩ := l50c (g := g) (h := h) (d := d) (E := E) (F := F) (pw := -32 + nI (E - 991)) hF (by omega) (.val (.double (dbl 1024 0))) .second 0 (by
      rw [Int32.add_comm (-32), Int32.add_assoc, show (-32 + 1023 : Int32) = nI 991 from rfl, nI_add, show E - 991 + 991 = E by omega])
    refine ⟨b, b5, -32 + nI (E - 991), h9, ?_⟩
    rw [← h10, ← h8]
    simp only [x50_20, x50_21, x50_22, x50_24, x50_25, x50_26, x50_27, x50_30, x50_31, x50_34, x50_35, x50_36, x50_38, x50_40, x50_42, h7, x50_34 h6, h5', Option.bind_some, Option.toList_some, Option.toList_none, List.cons_append, List.nil_append, Option.isSome_some, if_true, eq_self, or_true, true_or, xb_01, mcl_cl, not_true_eq_false, not_false_eq_true, if_false]
theorem dneg_dbl (hm : d.toNat = 2 ^ 63 + (E * 2 ^ 52 + F)) (hE : E < 2048) (hF : F < 2 ^ 52) : FP.dneg d = dbl E F := by
  apply UInt64.toNat_inj.mp
  rw [dbl_nat hE hF]
  show (d ^^^ 0x8000000000000000).toNat = _
  rw [UInt64.toNat_xor, hm]
  have e : (0x8000000000000000 : UInt64).toNat = 1 * 2 ^ 63 := by decide
  have e2 : 2 ^ 63 + (E * 2 ^ 52 + F) = 1 * 2 ^ 63 ||| (E * 2 ^ 52 + F) := by rw [or_pow (by omega), Nat.one_mul]
  rw [e, e2]
  refine Nat.eq_of_testBit_eq fun j => ?_
  rw [Nat.testBit_xor, Nat.testBit_or, Nat.one_mul, Nat.testBit_two_pow]
  by_cases c : 63 = j
  · rw [decide_eq_true c, ← c]
    have : (E * 2 ^ 52 + F).testBit 63 = false := Nat.testBit_lt_two_pow (by omega)
    rw [this]
    rfl
  · rw [decide_eq_false c]
    cases (E * 2 ^ 52 + F).testBit j <;> rfl
theorem dk0 : FP.Core.dkey FP.dconst0 = 0 := by decide +kernel
theorem fin_d0 : FP.Core.DFin FP.dconst0 := by rw [FP.Core.fin_bits]; decide
/-- the class's bits of a double are its bits -/
theorem c50 (hm : d.toNat % 2 ^ 63 = E * 2 ^ 52 + F) (hE : 991 ≤ E) (hE2 : E ≤ 1086) (hF : F < 2 ^ 52) : X g 50 0 [.val (.double d), .second, .unset, .unset, .unset, .unset, .unset, .unset, .unset] [] h = some (some (.long d.toInt64), h) := by
  have hd : FP.Core.DFin d := by rw [FP.Core.fin_bits]; omega
  have hlt := d.toNat_lt
  have hc := dcmp_of hd fin_d0
  rw [dk0] at hc
  obtain ⟨b, b5, pw, h1, h2⟩ := l50b (g := g) (h := h) (d := d) hE hE2 hF
  have hn : n64 d.toInt64 = d.toNat := rfl
  by_cases s : 2 ^ 63 ≤ d.toNat
  · have hk : FP.Core.dkey d < 0 := by
      unfold FP.Core.dkey
      rw [if_pos s]
      omega
    rw [icmp_lt hk] at hc
    have e : d.toNat = 2 ^ 63 + (E * 2 ^ 52 + F) := by omega
    have hneg := dneg_dbl e (by omega) hF
    have z1 : ¬ (-1 : Int32) = 0 := by decide
    have z2 : ¬ (0 : Int32) ≤ -1 := by decide
    have hb : b ||| -9223372036854775808 = d.toInt64 := by
      apply n64_inj
      rw [n64_or, h1, hn, e, Nat.or_comm, show n64 (-9223372036854775808) = 1 * 2 ^ 63 from by decide, or_pow (by omega), Nat.one_mul]
    simp only [x50_0, x50_1, x50_2, x50_3, x50_6, x50_7, x50_8, x50_9, x50_10, x50_11, x50_14, x50_15, x50_16, x50_19, hc, cv_lt, z1, z2, hneg, h2, Option.bind_some, Option.toList_some, Option.toList_none, List.cons_append, List.nil_append, Option.isSome_some, if_true, eq_self, or_true, true_or, xb_01, mcl_cl, not_true_eq_false, not_false_eq_true, if_false]
    simp only [x50_109, x50_110, x50_111, x50_112, x50_115, x50_117, x50_120, x50_121, x50_124, x50_126, hc, cv_lt, z2, hb, Option.bind_some, Option.toList_some, Option.toList_none, List.cons_append, List.nil_append, Option.isSome_some, if_true, eq_self, or_true, true_or, xb_01, mcl_cl, not_true_eq_false, not_false_eq_true, if_false]
  · have hk : 0 < FP.Core.dkey d := by
      unfold FP.Core.dkey
      rw [if_neg s]
      omega
    rw [icmp_gt hk] at hc
    have e : d.toNat = E * 2 ^ 52 + F := by omega
    have hdd : d = dbl E F := by
      apply UInt64.toNat_inj.mp
      rw [dbl_nat (by omega) hF, e]
    have z1 : ¬ (1 : Int32) = 0 := by decide
    have z2 : (0 : Int32) ≤ 1 := by decide
    have hb : b = d.toInt64 := by
      apply n64_inj
      rw [h1, hn, e]
    have h2' : X g 50 20 [.val (.double d), .second, .unset, .unset, .unset, .unset, .unset, .unset, .unset] [.double d] h = X g 50 109 [.val (.double d), .second, .val (.double (dbl 1023 F)), .second, .val (.int pw), .val (.long b5), .second, .val (.long b), .second] [] h := by
      rw [← h2]
      exact congrArg (fun q => X g 50 20 [.val (.double d), .second, .unset, .unset, .unset, .unset, .unset, .unset, .unset] [.double q] h) hdd
    simp only [x50_0, x50_1, x50_2, x50_3, x50_6, x50_7, x50_8, x50_9, x50_10, x50_11, x50_14, x50_15, x50_16, x50_19, hc, cv_gt, z1, z2, h2', Option.bind_some, Option.toList_some, Option.toList_none, List.cons_append, List.nil_append, Option.isSome_some, if_true, eq_self, or_true, true_or, xb_01, mcl_cl, not_true_eq_false, not_false_eq_true, if_false]
    simp only [x50_109, x50_110, x50_111, x50_112, x50_115, x50_117, x50_120, x50_121, x50_124, x50_126, hc, cv_gt, z2, hb, Option.bind_some, Option.toList_some, Option.toList_none, List.cons_append, List.nil_append, Option.isSome_some, if_true, eq_self, or_true, true_or, xb_01, mcl_cl, not_true_eq_false, not_false_eq_true, if_false]
theorem c50z (hm : d.toNat % 2 ^ 63 = 0) : X g 50 0 [.val (.double d), .second, .unset, .unset, .unset, .unset, .unset, .unset, .unset] [] h = some (some (.long 0), h) := by
  have hd : FP.Core.DFin d := by rw [FP.Core.fin_bits]; omega
  have hlt := d.toNat_lt
  have hc := dcmp_of hd fin_d0
  rw [dk0, icmp_eq (by unfold FP.Core.dkey; split <;> omega)] at hc
  simp only [x50_0, x50_1, x50_2, x50_3, x50_6, x50_7, x50_8, x50_9, x50_10, x50_11, x50_14, x50_15, x50_16, x50_19, hc, cv_eq, Option.bind_some, Option.toList_some, Option.toList_none, List.cons_append, List.nil_append, Option.isSome_some, if_true, eq_self, or_true, true_or, xb_01, mcl_cl, not_true_eq_false, not_false_eq_true, if_false]
end K3
