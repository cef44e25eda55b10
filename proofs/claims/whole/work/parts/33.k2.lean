/-! THE CLASS's methods, 2: the bits of doubles -/
section K2
variable {g : xG} {h : xH} {E F e lp : Nat} {d : UInt64} {pw : Int32} {m : CmpOp}
theorem icmp_lt {a b : Int} (h : a < b) : compare a b = .lt := by
  show compareOfLessAndEq a b = _
  unfold compareOfLessAndEq
  rw [if_pos h]
theorem icmp_eq {a b : Int} (h : a = b) : compare a b = .eq := by
  show compareOfLessAndEq a b = _
  unfold compareOfLessAndEq
  rw [if_neg (by omega), if_pos h]
theorem icmp_gt {a b : Int} (h : b < a) : compare a b = .gt := by
  show compareOfLessAndEq a b = _
  unfold compareOfLessAndEq
  rw [if_neg (by omega), if_neg (by omega)]
theorem dcmp_of {a b : UInt64} (ha : FP.Core.DFin a) (hb : FP.Core.DFin b) : FP.dcmp a b = some (compare (FP.Core.dkey a) (FP.Core.dkey b)) := FP.Core.dcmp_key (FP.Core.DFin.ne_nan ha) (FP.Core.DFin.ne_nan hb)
theorem dkey_lt {a : UInt64} (ha : a.toNat < 2 ^ 63) : FP.Core.dkey a = (a.toNat : Int) := by
  unfold FP.Core.dkey
  rw [if_neg (by omega)]
theorem dkey_dbl (hE : E < 2048) (hF : F < 2 ^ 52) : FP.Core.dkey (dbl E F) = ((E * 2 ^ 52 + F : Nat) : Int) := by
  rw [dkey_lt (by rw [dbl_nat hE hF]; omega), dbl_nat hE hF]
theorem dcmp_dbl {E' F' : Nat} (hE : E < 2047) (hF : F < 2 ^ 52) (hE' : E' < 2047) (hF' : F' < 2 ^ 52) : FP.dcmp (dbl E F) (dbl E' F') = some (compare ((E * 2 ^ 52 + F : Nat) : Int) ((E' * 2 ^ 52 + F' : Nat) : Int)) := by
  rw [dcmp_of (dbl_fin hE hF) (dbl_fin hE' hF'), dkey_dbl (by omega) hF, dkey_dbl (by omega) hF']
theorem one_dbl : FP.dconst1 = dbl 1023 0 := by decide +kernel
theorem k32_dbl : (4751297606875873280 : UInt64) = dbl 1055 0 := by decide +kernel
theorem k52_dbl : (4841369599423283200 : UInt64) = dbl 1075 0 := by decide +kernel
theorem prt_32 : FP.l2d ((1 : Int64) <<< ((nI 32).toInt64 &&& 63)) = dbl (1023 + 32) 0 := by decide +kernel
theorem prt_16 : FP.l2d ((1 : Int64) <<< ((nI 16).toInt64 &&& 63)) = dbl (1023 + 16) 0 := by decide +kernel
theorem prt_8 : FP.l2d ((1 : Int64) <<< ((nI 8).toInt64 &&& 63)) = dbl (1023 + 8) 0 := by decide +kernel
theorem prt_4 : FP.l2d ((1 : Int64) <<< ((nI 4).toInt64 &&& 63)) = dbl (1023 + 4) 0 := by decide +kernel
theorem prt_2 : FP.l2d ((1 : Int64) <<< ((nI 2).toInt64 &&& 63)) = dbl (1023 + 2) 0 := by decide +kernel
theorem prt_1 : FP.l2d ((1 : Int64) <<< ((nI 1).toInt64 &&& 63)) = dbl (1023 + 1) 0 := by decide +kernel
theorem cv_lt : Op.cmpValue (some .lt) m = -1 := rfl
theorem cv_eq : Op.cmpValue (some .eq) m = 0 := rfl
theorem cv_gt : Op.cmpValue (some .gt) m = 1 := rfl
/-- one halving -/
theorem l50 (s6 s7 : Slot) (hl : 1 ≤ lp) (hl2 : lp ≤ 32) (he : e ≤ 63) (hF : F < 2 ^ 52) (hp : FP.l2d ((1 : Int64) <<< ((nI lp).toInt64 &&& 63)) = dbl (1023 + lp) 0) : X g 50 44 [.val (.double d), .second, .val (.double (dbl (1023 + e) F)), .second, .val (.int pw), .val (.int (nI lp)), s6, s7, .unset] [] h = X g 50 81 [.val (.double d), .second, .val (.double (dbl (1023 + (if lp ≤ e then e - lp else e)) F)), .second, .val (.int (if lp ≤ e then pw + nI lp else pw)), .val (.int (nI (lp / 2))), .val (.double (dbl (1023 + lp) 0)), .second, .unset] [] h := by
  have hz : (0 : Nat) < 2 ^ 52 := by decide
  have h1 : ¬ nI lp ≤ 0 := nI_ge (a := 0) (b := lp) (by omega) (by omega)
  have h2 : ¬ (2 : Int32) = 0 := by decide
  have h3 : nI lp / 2 = nI (lp / 2) := pk_div (d := 2) (by omega) (by decide) (by decide)
  have h4 := dcmp_dbl (E := 1023 + e) (F := F) (E' := 1023 + lp) (F' := 0) (by omega) hF (by omega) hz
  by_cases c : lp ≤ e
  · rw [if_pos c, if_pos c]
    have h5 : FP.Core.ddiv (dbl (1023 + e) F) (dbl (1023 + lp) 0) = dbl (1023 + (e - lp)) F := by
      rw [ddiv_2 hF (by omega) (by omega) (by omega), show 1023 + e - lp = 1023 + (e - lp) by omega]
    have h6 : isNaN64 (FP.ddiv (dbl (1023 + e) F) (dbl (1023 + lp) 0)) = false := by
      rw [show FP.ddiv (dbl (1023 + e) F) (dbl (1023 + lp) 0) = _ from h5]
      exact fin64 (dbl_fin (by omega) hF)
    have h7 : ¬ Op.cmpValue (FP.dcmp (dbl (1023 + e) F) (dbl (1023 + lp) 0)) .l < 0 := by
      rw [h4]
      by_cases c2 : (1023 + e) * 2 ^ 52 + F = (1023 + lp) * 2 ^ 52 + 0
      · rw [icmp_eq (by omega), cv_eq]
        decide
      · rw [icmp_gt (by omega), cv_gt]
        decide
    simp only [x50_44, x50_46, x50_49, x50_50, x50_52, x50_53, x50_54, x50_56, x50_57, x50_59, x50_60, x50_63, x50_64, x50_66, x50_67, x50_68, x50_70, x50_72, x50_73, x50_75, x50_77, x50_78, x50_79, hp, h1, h2, h3, h7, x50_66 h6, h5, x50_78 h2, Option.bind_some, Option.toList_some, Option.toList_none, List.cons_append, List.nil_append, Option.isSome_some, if_true, eq_self, or_true, true_or, xb_01, mcl_cl, not_true_eq_false, not_false_eq_true, if_false]
  · rw [if_neg c, if_neg c]
    have h7 : Op.cmpValue (FP.dcmp (dbl (1023 + e) F) (dbl (1023 + lp) 0)) .l < 0 := by
      rw [h4, icmp_lt (by omega), cv_lt]
      decide
    simp only [x50_44, x50_46, x50_49, x50_50, x50_52, x50_53, x50_54, x50_56, x50_57, x50_59, x50_60, x50_63, x50_64, x50_66, x50_67, x50_68, x50_70, x50_72, x50_73, x50_75, x50_77, x50_78, x50_79, hp, h1, h2, h3, h7, x50_78 h2, Option.bind_some, Option.toList_some, Option.toList_none, List.cons_append, List.nil_append, Option.isSome_some, if_true, eq_self, or_true, true_or, xb_01, mcl_cl, not_true_eq_false, not_false_eq_true, if_false]
theorem pw_step {a b : Nat} : (if a ≤ b then pw + nI a else pw) + nI (if a ≤ b then b - a else b) = pw + nI b := by
  split
  · rename_i c
    rw [Int32.add_assoc, nI_add, show a + (b - a) = b by omega]
  · rfl
/-- all halvings -/
theorem l50a (he : e ≤ 63) (hF : F < 2 ^ 52) : X g 50 44 [.val (.double d), .second, .val (.double (dbl (1023 + e) F)), .second, .val (.int pw), .val (.int 32), .unset, .unset, .unset] [] h = X g 50 84 [.val (.double d), .second, .val (.double (dbl 1023 F)), .second, .val (.int (pw + nI e)), .val (.int 0), .val (.double (dbl 1024 0)), .second, .unset] [] h := by
  have a1 := l50 (g := g) (h := h) (d := d) (pw := pw) (lp := 32) (e := e) .unset .unset (by decide) (by decide) he hF prt_32
  have a1' : X g 50 44 [.val (.double d), .second, .val (.double (dbl (1023 + e) F)), .second, .val (.int pw), .val (.int 32), .unset, .unset, .unset] [] h = _ := a1
  rw [a1', x50_81, show (32 / 2 : Nat) = 16 from rfl]
  have b1 := pw_step (pw := pw) (a := 32) (b := e)
  generalize (if 32 ≤ e then pw + nI 32 else pw) = p1 at *
  have c1 : (if 32 ≤ e then e - 32 else e) ≤ 31 := by split <;> omega
  generalize (if 32 ≤ e then e - 32 else e) = e1 at *
  rw [l50 (lp := 16) (e := e1) _ _ (by decide) (by decide) (by omega) hF prt_16, x50_81, show (16 / 2 : Nat) = 8 from rfl]
  have b2 := pw_step (pw := p1) (a := 16) (b := e1)
  generalize (if 16 ≤ e1 then p1 + nI 16 else p1) = p2' at *
  have c2 : (if 16 ≤ e1 then e1 - 16 else e1) ≤ 15 := by split <;> omega
  generalize (if 16 ≤ e1 then e1 - 16 else e1) = e2 at *
  rw [l50 (lp := 8) (e := e2) _ _ (by decide) (by decide) (by omega) hF prt_8, x50_81, show (8 / 2 : Nat) = 4 from rfl]
  have b3 := pw_step (pw := p2') (a := 8) (b := e2)
  generalize (if 8 ≤ e2 then p2' + nI 8 else p2') = p3 at *
  have c3 : (if 8 ≤ e2 then e2 - 8 else e2) ≤ 7 := by split <;> omega
  generalize (if 8 ≤ e2 then e2 - 8 else e2) = e3 at *
  rw [l50 (lp := 4) (e := e3) _ _ (by decide) (by decide) (by omega) hF prt_4, x50_81, show (4 / 2 : Nat) = 2 from rfl]
  have b4 := pw_step (pw := p3) (a := 4) (b := e3)
  generalize (if 4 ≤ e3 then p3 + nI 4 else p3) = p4 at *
  have c4 : (if 4 ≤ e3 then e3 - 4 else e3) ≤ 3 := by split <;> omega
  generalize (if 4 ≤ e3 then e3 - 4 else e3) = e4 at *
  rw [l50 (lp := 2) (e := e4) _ _ (by decide) (by decide) (by omega) hF prt_2, x50_81, show (2 / 2 : Nat) = 1 from rfl]
  have b5 := pw_step (pw := p4) (a := 2) (b := e4)
  generalize (if 2 ≤ e4 then p4 + nI 2 else p4) = p5 at *
  have c5 : (if 2 ≤ e4 then e4 - 2 else e4) ≤ 1 := by split <;> omega
  generalize (if 2 ≤ e4 then e4 - 2 else e4) = e5 at *
  rw [l50 (lp := 1) (e := e5) _ _ (by decide) (by decide) (by omega) hF prt_1, x50_81, show (1 / 2 : Nat) = 0 from rfl]
  have b6 := pw_step (pw := p5) (a := 1) (b := e5)
  generalize (if 1 ≤ e5 then p5 + nI 1 else p5) = p6 at *
  have c6 : (if 1 ≤ e5 then e5 - 1 else e5) = 0 := by split <;> omega
  rw [c6] at b6 ⊢
  have b7 : p6 = pw + nI e := by
    rw [← b1, ← b2, ← b3, ← b4, ← b5, ← b6, show nI 0 = (0 : Int32) from rfl, Int32.add_zero]
  rw [b7]
  have z : nI 0 ≤ 0 := by decide
  simp only [x50_44, x50_46, z, Option.bind_some, Option.toList_some, Option.toList_none, List.cons_append, List.nil_append, Option.isSome_some, if_true, eq_self, or_true, true_or, xb_01, mcl_cl, not_true_eq_false, not_false_eq_true, if_false]
  rfl
def n64 (x : Int64) : Nat := x.toUInt64.toNat
theorem n64_inj {x y : Int64} (hh : n64 x = n64 y) : x = y := by
  have h1 : x.toUInt64 = y.toUInt64 := UInt64.toNat_inj.mp hh
  cases x
  cases y
  exact congrArg Int64.ofUInt64 h1
theorem n64_nI (hE : E < 2 ^ 31) : n64 (nI E).toInt64 = E := by
  have h1 : ((nI E).toInt64).toInt = (E : Int) := by rw [Int32.toInt_toInt64, nI_toInt hE]
  have h2 : n64 (nI E).toInt64 = ((nI E).toInt64).toBitVec.toNat := rfl
  have h4 := BitVec.toInt_eq_toNat_cond ((nI E).toInt64).toBitVec
  have h3 : ((nI E).toInt64).toInt = ((nI E).toInt64).toBitVec.toInt := rfl
  have h5 := ((nI E).toInt64).toBitVec.isLt
  rw [h2]
  rw [← h3, h1] at h4
  split at h4 <;> omega
theorem n64_of {x : Int64} {c : Nat} (hh : x.toInt = (c : Int)) : n64 x = c := by
  have h2 : n64 x = x.toBitVec.toNat := rfl
  have h4 := BitVec.toInt_eq_toNat_cond x.toBitVec
  have h3 : x.toInt = x.toBitVec.toInt := rfl
  have h5 := x.toBitVec.isLt
  rw [h2]
  rw [← h3, hh] at h4
  split at h4 <;> omega
theorem n64_or (x y : Int64) : n64 (x ||| y) = n64 x ||| n64 y := by
  show (x.toUInt64 ||| y.toUInt64).toNat = _
  exact UInt64.toNat_or ..
theorem n64_and (x y : Int64) : n64 (x &&& y) = n64 x &&& n64 y := by
  show (x.toUInt64 &&& y.toUInt64).toNat = _
  exact UInt64.toNat_and ..
theorem n64_shl (x y : Int64) {c : Nat} (hc : n64 y = c) (h64 : c < 64) (hx : n64 x * 2 ^ c < 2 ^ 64) : n64 (x <<< y) = n64 x * 2 ^ c := by
  show (x.toBitVec <<< (y.toBitVec.smod 64)).toNat = _
  have h1 : (y.toBitVec.smod 64) = BitVec.ofNat 64 c := by
    have h2 : y.toBitVec = BitVec.ofNat 64 c := by
      apply BitVec.eq_of_toNat_eq
      rw [BitVec.toNat_ofNat, Nat.mod_eq_of_lt (by omega)]
      exact hc
    rw [h2]
    clear h2 hc hx
    revert h64
    revert c
    decide +kernel
  rw [h1]
  rw [show x.toBitVec <<< BitVec.ofNat 64 c = x.toBitVec <<< (BitVec.ofNat 64 c).toNat from rfl, BitVec.toNat_shiftLeft, BitVec.toNat_ofNat, Nat.mod_eq_of_lt (show c < 2 ^ 64 by omega), Nat.shiftLeft_eq]
  exact Nat.mod_eq_of_lt hx
theorem or_pow {a b k : Nat} (hb : b < 2 ^ k) : a * 2 ^ k ||| b = a * 2 ^ k + b := by
  have := Nat.shiftLeft_add_eq_or_of_lt hb a
  rw [Nat.shiftLeft_eq] at this
  exact this.symm
end K2
