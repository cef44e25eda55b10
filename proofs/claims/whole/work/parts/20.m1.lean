/-! THE REFERENCE's methods, 1: tests, parts -/
def xb (b : Bool) : Int32 := cond b 1 0
theorem xb_01 (b : Bool) : xb b = 0 ∨ xb b = 1 := by cases b <;> simp [xb]
theorem xb_eq0 (b : Bool) : (xb b = 0) = (b = false) := by cases b <;> simp [xb]
theorem xb_eq1 (b : Bool) : (xb b = 1) = (b = true) := by cases b <;> simp [xb]
theorem xb_t : xb true = 1 := rfl
theorem xb_f : xb false = 0 := rfl
theorem lcmp_lt0 (x y : Int64) : (lg_cmp x y < 0) = (x.toInt < y.toInt) := by
  unfold lg_cmp
  simp only [gt_iff_lt, Int64.lt_iff_toInt_lt, ← Int64.toInt_inj]
  apply propext
  constructor
  · intro h
    split at h
    · exact absurd h (by decide)
    · split at h
      · exact absurd h (by decide)
      · omega
  · intro h
    rw [if_neg (by omega), if_neg (by omega)]
    decide
theorem lcmp_0lt (x y : Int64) : (0 < lg_cmp x y) = (y.toInt < x.toInt) := by
  unfold lg_cmp
  simp only [gt_iff_lt, Int64.lt_iff_toInt_lt, ← Int64.toInt_inj]
  apply propext
  constructor
  · intro h
    split at h
    · assumption
    · split at h
      · exact absurd h (by decide)
      · exact absurd h (by decide)
  · intro h
    rw [if_pos h]
    decide
theorem i32_64 (i : Int32) : i.toInt64.toInt = i.toInt := Int32.toInt_toInt64 i
section M1
variable {g : xG} {n kc ks mu : Nat} {S : MS} {h : xH} {i j k : Int32} {u v w : Int64}
def mWithin (a b c : Int) : Bool := decide (b ≤ a) && decide (a ≤ c)
theorem c154 : X g 154 0 [.val (.long u), .second, .val (.long v), .second, .val (.long w), .second] [] h = some (some (.int (xb (mWithin u.toInt v.toInt w.toInt))), h) := by
  simp only [x154_0, x154_1, x154_2, x154_3, x154_6, x154_7, x154_9, x154_10, x154_13, x154_14, x154_17, x154_18, lcmp_lt0, lcmp_0lt, eq_self, or_true, true_or]
  unfold mWithin
  by_cases h1 : u.toInt < v.toInt
  · rw [if_pos h1, decide_eq_false (by omega)]
    rfl
  · rw [if_neg h1, decide_eq_true (by omega)]
    by_cases h2 : w.toInt < u.toInt
    · rw [if_pos h2, decide_eq_false (by omega)]
      rfl
    · rw [if_neg h2, decide_eq_true (by omega)]
      rfl
def mSlot (i : Int32) : Bool := mWithin i.toInt 0 9
theorem c164 : X g 164 0 [.val (.int i)] [] h = some (some (.int (xb (mSlot i))), h) := by
  simp only [x164_0, x164_1, x164_2, x164_3, x164_6, x164_9, c154, xb_01, i32_64, Option.bind_some, Option.toList_some, List.cons_append, List.nil_append]
  rfl
theorem c184 : X g 184 0 [.val (.int i)] [] h = some (some (.int (xb (mWithin i.toInt 0 5))), h) := by
  simp only [x184_0, x184_1, x184_2, x184_3, x184_6, x184_9, c154, xb_01, i32_64, Option.bind_some, Option.toList_some, List.cons_append, List.nil_append]
  rfl
theorem c155 : X g 155 0 [.val (va_rf (some mu)), .val (.int i), .val (.long u), .second] [] (mH n kc ks mu S) = some (none, mH n kc ks mu (msL (msI S 0 i) 1 u)) := by
  simp only [x155_0, x155_1, x155_2, x155_5, x155_6, x155_7, x155_10, mf_0, mf_1, mp_0, mp_1, Option.isSome_some, if_true]
end M1
