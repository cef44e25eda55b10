/-! FLOATS, 1: which numbers occur, and that none is a NaN -/
/-- a number that a cell of a kind may hold -/
def okv (k : Int32) (v : Int64) : Prop := (k = 6 → v = v.toInt32.toInt64 ∧ (v.toInt32.toUInt32.toNat % 2 ^ 31 = 0 ∨ (2 ^ 23 ≤ v.toInt32.toUInt32.toNat % 2 ^ 31 ∧ v.toInt32.toUInt32.toNat % 2 ^ 31 < 255 * 2 ^ 23))) ∧ (k = 7 → v.toUInt64.toNat % 2 ^ 63 < 2047 * 2 ^ 52)
theorem okF_of {f : UInt32} (h : FP.Core.FFin f) : okF f := by
  unfold okF
  have : FP.fcmp f f = some .eq := FP.Core.fcmp_self (FP.Core.FFin.ne_nan h)
  rw [this]
  rfl
theorem okD_of {f : UInt64} (h : FP.Core.DFin f) : okD f := by
  unfold okD
  have : FP.dcmp f f = some .eq := FP.Core.dcmp_self (FP.Core.DFin.ne_nan h)
  rw [this]
  rfl
theorem l2f_ok (v : Int64) : okF (FP.l2f v) := okF_of (FP.Core.l2f_fin v)
theorem l2d_ok (v : Int64) : okD (FP.l2d v) := okD_of (FP.Core.l2d_fin v)
theorem fin64 {a : UInt64} (h : FP.Core.DFin a) : isNaN64 a = false := by
  rw [FP.Core.fin_bits] at h
  unfold isNaN64
  simp only [gt_iff_lt, decide_eq_false_iff_not, UInt64.lt_iff_toNat_lt, UInt64.toNat_and, Nat.not_lt]
  have e : (9223372036854775807 : UInt64).toNat = 2 ^ 63 - 1 := rfl
  rw [e, Nat.and_two_pow_sub_one_eq_mod]
  exact Nat.le_of_lt h
theorem fin32 {a : UInt32} (h : FP.Core.FFin a) : isNaN32 a = false := by
  rw [FP.Core.fin_bits32] at h
  unfold isNaN32
  simp only [gt_iff_lt, decide_eq_false_iff_not, UInt32.lt_iff_toNat_lt, UInt32.toNat_and, Nat.not_lt]
  have e : (2147483647 : UInt32).toNat = 2 ^ 31 - 1 := rfl
  rw [e, Nat.and_two_pow_sub_one_eq_mod]
  exact Nat.le_of_lt h
theorem f2d_core {a : UInt32} (h : FP.Core.FFin a) : FP.f2d a = FP.Core.f2d a := by
  unfold FP.f2d
  have : FP.Core.fIsNaN a = false := FP.Core.FFin.notNaN h
  rw [this]
  rfl
theorem sn32 {v : Int32} (h : FP.Core.FFin v.toUInt32) : vn_sni2f v = false := by
  have h1 := fin32 h
  unfold isNaN32 at h1
  unfold vn_sni2f
  rw [h1]
  rfl
theorem sn64 {v : Int64} (h : FP.Core.DFin v.toUInt64) : vn_snl2d v = false := by
  have h1 := fin64 h
  unfold isNaN64 at h1
  unfold vn_snl2d
  rw [h1]
  rfl
theorem okv_f6 {v : Int64} (h : okv 6 v) : FP.Core.FFin v.toInt32.toUInt32 := by
  rw [FP.Core.fin_bits32]
  have := (h.1 rfl).2
  omega
theorem okv_d7 {v : Int64} (h : okv 7 v) : FP.Core.DFin v.toUInt64 := by
  rw [FP.Core.fin_bits]
  have := h.2 rfl
  omega
theorem okv_N {k : Int32} {v : Int64} (h : okv k v) : okN k v := by
  refine ⟨fun e => ?_, fun e => ?_⟩
  · subst e
    have hf := okv_f6 h
    refine ⟨sn32 hf, ?_⟩
    rw [f2d_core hf]
    exact fin64 (FP.Core.f2d_fin hf)
  · subst e
    exact sn64 (okv_d7 h)
theorem okv_fin {k : Int32} {v : Int64} (h : okv k v) : FP.Core.DFin (pReal k v) := by
  unfold pReal
  split
  · rename_i e
    subst e
    rw [f2d_core (okv_f6 h)]
    exact FP.Core.f2d_fin (okv_f6 h)
  · split
    · rename_i e
      subst e
      exact okv_d7 h
    · exact FP.Core.l2d_fin v
theorem okv_D {k : Int32} {v : Int64} (h : okv k v) : okD (pReal k v) := okD_of (okv_fin h)
section M4a
variable {g : xG} {n kc ks mu s w q : Nat} {S : MS} {h : xH} {i j k a : Int32} {u v : Int64}
theorem d159 (hn : okv k v) : X g 159 0 [.val (.int k), .val (.long v), .second] [] h = some (some (.double (pReal k v)), h) := c159 (okv_N hn)
theorem d160 (hn : okv k v) : X g 160 0 [.val (.int k), .val (.long v), .second, .val (.int a)] [] h = some (some (.long (pView k v a)), h) := c160 (okv_N hn) (l2f_ok v) (okv_D hn)
theorem d161 (hk : k < 8) (hn : okv k v) : X g 161 0 [.val (.int k), .val (.long v), .second] [] h = some (some (.long (pAmt k v)), h) := by
  refine c161 (fun e => ((okv_N hn).1 e).1) (fun e1 e2 => (okv_N hn).2 ?_)
  have a1 : ¬ k.toInt < 6 := by
    intro z
    exact e1 (Int32.lt_iff_toInt_lt.mpr z)
  have a2 := i32_ne e2
  have a3 : k.toInt < 8 := Int32.lt_iff_toInt_lt.mp hk
  simp at a2
  apply Int32.toInt_inj.mp
  show k.toInt = 7
  omega
theorem d162 (hn : okv k v) (hm : okv a u) : X g 162 0 [.val (.int k), .val (.long v), .second, .val (.int a), .val (.long u), .second] [] h = some (some (.int (xb (pAlike k v a u))), h) := c162 (okv_N hn) (okv_N hm)
theorem d157 : X g 157 0 [.val (va_rf (some mu)), .val (.int k), .val (.long v), .second] [] (mH n kc ks mu S) = some (none, mH n kc ks mu (mIs S k (pBy k v))) := c157 (l2f_ok v) (l2d_ok v)
end M4a
