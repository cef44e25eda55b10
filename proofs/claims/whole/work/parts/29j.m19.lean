/-! bits -/
section M19
variable {g : xG} {n kc ks mu s w q p r t f o : Nat} {S T : MS} {h : xH} {i j k m v x y z : Int32} {u : Int64}
def nN (x : Int32) : Nat := x.toUInt32.toNat
/-- whether a bit is set -/
def pBit (x : Int32) (k : Nat) : Bool := (nN x).testBit k
theorem nN_lt (x : Int32) : nN x < 4294967296 := x.toUInt32.toNat_lt
theorem nN_and (x y : Int32) : nN (x &&& y) = nN x &&& nN y := by
  show (x.toUInt32 &&& y.toUInt32).toNat = _
  exact UInt32.toNat_and ..
theorem nN_sub (x y : Int32) (hh : nN y ≤ nN x) : nN (x - y) = nN x - nN y := by
  show (x.toUInt32 - y.toUInt32).toNat = _
  exact UInt32.toNat_sub_of_le _ _ (UInt32.le_iff_toNat_le.mpr hh)
theorem nN_add (x y : Int32) (hh : nN x + nN y < 4294967296) : nN (x + y) = nN x + nN y := by
  show (x.toUInt32 + y.toUInt32).toNat = _
  rw [UInt32.toNat_add]
  exact Nat.mod_eq_of_lt hh
theorem nN_shr (x y : Int32) {c : Nat} (hc : (y.toUInt32 &&& Int32.toUInt32 31).toNat = c) (h32 : c < 32) : nN (x.toUInt32 >>> (y.toUInt32 &&& Int32.toUInt32 31)).toInt32 = nN x / 2 ^ c := by
  show (x.toUInt32 >>> (y.toUInt32 &&& Int32.toUInt32 31)).toNat = _
  rw [UInt32.toNat_shiftRight, hc, Nat.mod_eq_of_lt h32, Nat.shiftRight_eq_div_pow]
  rfl
theorem nN_nI {a : Nat} (ha : a < 2 ^ 31) : nN (nI a) = a := by
  have h1 := nI_toInt (n := a) ha
  have h2 : (nI a).toInt = (nI a).toBitVec.toInt := rfl
  have h3 : nN (nI a) = (nI a).toBitVec.toNat := rfl
  rw [h3]
  have h4 := BitVec.toInt_eq_toNat_cond (nI a).toBitVec
  have h5 := (nI a).toBitVec.isLt
  rw [← h2, h1] at h4
  split at h4 <;> omega
theorem nN_inj {x y : Int32} (hh : nN x = nN y) : x = y := by
  have h1 : x.toUInt32 = y.toUInt32 := UInt32.toNat_inj.mp hh
  cases x
  cases y
  exact congrArg Int32.ofUInt32 h1
theorem and256 {a r c t : Nat} (hr : r < 256) (ht : t < 256) : (256 * a + r) &&& (256 * c + t) = 256 * (a &&& c) + (r &&& t) := by
  have hrt : r &&& t < 2 ^ 8 := Nat.and_lt_two_pow _ (by omega)
  refine Nat.eq_of_testBit_eq fun j => ?_
  rw [Nat.testBit_and, show (256 : Nat) = 2 ^ 8 from rfl, Nat.testBit_two_pow_mul_add _ hr, Nat.testBit_two_pow_mul_add _ ht, Nat.testBit_two_pow_mul_add _ hrt]
  by_cases e : j < 8
  · rw [if_pos e, if_pos e, if_pos e, Nat.testBit_and]
  · rw [if_neg e, if_neg e, if_neg e, Nat.testBit_and]
def g1 (r : Nat) : Nat := r - (r / 2 &&& 85)
def g2 (r : Nat) : Nat := (r &&& 51) + (r / 4 &&& 51)
def g3 (r : Nat) : Nat := (r + r / 16) &&& 15
def pc8 (r : Nat) : Nat := mCnt r.testBit 0 8
theorem bc_a : ∀ r, r < 256 → ∀ c, c < 2 → (128 * c + r / 2) &&& 85 = r / 2 &&& 85 := by decide +kernel
theorem bc_b : ∀ r, r < 256 → ∀ c, c < 4 → (64 * c + r / 4) &&& 51 = r / 4 &&& 51 := by decide +kernel
theorem bc_c : ∀ r, r < 256 → g1 r < 256 ∧ (r / 2 &&& 85) ≤ r ∧ g2 (g1 r) ≤ 68 ∧ g2 (g1 r) % 16 ≤ 4 ∧ g3 (g2 (g1 r)) = pc8 r ∧ pc8 r ≤ 8 := by decide +kernel
theorem bc_d : ∀ r, r < 69 → ∀ c, c < 5 → (16 * c + (r + r / 16)) &&& 15 = g3 r := by decide +kernel
theorem bc_1 {a r M : Nat} (hr : r < 256) : (256 * a + r) / 2 &&& (256 * M + 85) = 256 * (a / 2 &&& M) + (r / 2 &&& 85) := by
  have e : (256 * a + r) / 2 = 256 * (a / 2) + (128 * (a % 2) + r / 2) := by omega
  rw [e, and256 (by omega) (by omega), bc_a r hr (a % 2) (by omega)]
theorem bc_2 {a r M : Nat} (hr : r < 256) : (256 * a + r) / 4 &&& (256 * M + 51) = 256 * (a / 4 &&& M) + (r / 4 &&& 51) := by
  have e : (256 * a + r) / 4 = 256 * (a / 4) + (64 * (a % 4) + r / 4) := by omega
  rw [e, and256 (by omega) (by omega), bc_b r hr (a % 4) (by omega)]
theorem bc_3 {a r M : Nat} (hr : r < 69) (ha : a % 16 < 5) : (256 * a + r + (256 * a + r) / 16) &&& (256 * M + 15) = 256 * ((a + a / 16) &&& M) + g3 r := by
  have e : 256 * a + r + (256 * a + r) / 16 = 256 * (a + a / 16) + (16 * (a % 16) + (r + r / 16)) := by omega
  rw [e, and256 (by omega) (by omega), bc_d r hr (a % 16) ha]
def bN (d c b a : Nat) : Nat := 256 * (256 * (256 * d + c) + b) + a
theorem bN_1 {a b c d : Nat} (ha : a < 256) (hb : b < 256) (hc : c < 256) (hd : d < 256) : bN d c b a - (bN d c b a / 2 &&& 1431655765) = bN (g1 d) (g1 c) (g1 b) (g1 a) := by
  have e : bN d c b a / 2 &&& 1431655765 = bN (d / 2 &&& 85) (c / 2 &&& 85) (b / 2 &&& 85) (a / 2 &&& 85) := by
    unfold bN
    rw [show (1431655765 : Nat) = 256 * (256 * (256 * 85 + 85) + 85) + 85 from rfl, bc_1 ha, bc_1 hb, bc_1 hc]
  rw [e]
  have h1 := (bc_c a ha).2.1
  have h2 := (bc_c b hb).2.1
  have h3 := (bc_c c hc).2.1
  have h4 := (bc_c d hd).2.1
  unfold bN g1
  omega
theorem bN_2 {a b c d : Nat} (ha : a < 256) (hb : b < 256) (hc : c < 256) : (bN d c b a &&& 858993459) + (bN d c b a / 4 &&& 858993459) = bN (g2 d) (g2 c) (g2 b) (g2 a) := by
  have e : bN d c b a / 4 &&& 858993459 = bN (d / 4 &&& 51) (c / 4 &&& 51) (b / 4 &&& 51) (a / 4 &&& 51) := by
    unfold bN
    rw [show (858993459 : Nat) = 256 * (256 * (256 * 51 + 51) + 51) + 51 from rfl, bc_2 ha, bc_2 hb, bc_2 hc]
  have e2 : bN d c b a &&& 858993459 = bN (d &&& 51) (c &&& 51) (b &&& 51) (a &&& 51) := by
    unfold bN
    rw [show (858993459 : Nat) = 256 * (256 * (256 * 51 + 51) + 51) + 51 from rfl, and256 ha (by decide), and256 hb (by decide), and256 hc (by decide)]
  rw [e, e2]
  unfold bN g2
  omega
theorem bN_3 {a b c d : Nat} (ha : a ≤ 68) (hb : b ≤ 68) (hc : c ≤ 68) (hb' : b % 16 ≤ 4) (hc' : c % 16 ≤ 4) (hd' : d % 16 ≤ 4) : (bN d c b a + bN d c b a / 16) &&& 252645135 = bN (g3 d) (g3 c) (g3 b) (g3 a) := by
  unfold bN
  rw [show (252645135 : Nat) = 256 * (256 * (256 * 15 + 15) + 15) + 15 from rfl, bc_3 (by omega) (by omega), bc_3 (by omega) (by omega), bc_3 (by omega) (by omega)]
  rfl
theorem mCnt_congr {e f : Nat → Bool} : ∀ d y, (∀ x, y ≤ x → x < y + d → e x = f x) → mCnt e y d = mCnt f y d := by
  intro d
  induction d with
  | zero => intro y _; rfl
  | succ d ih =>
    intro y h
    rw [mCnt, mCnt, h y (by omega) (by omega), ih (y + 1) (fun x a b => h x (by omega) (by omega))]
theorem mCnt_split {e : Nat → Bool} : ∀ c d y, mCnt e y (c + d) = mCnt e y c + mCnt e (y + c) d := by
  intro c
  induction c with
  | zero => intro d y; simp [mCnt]
  | succ c ih =>
    intro d y
    rw [show c + 1 + d = c + d + 1 by omega, mCnt, mCnt, ih, show y + 1 + c = y + (c + 1) by omega]
    omega
theorem mCnt_sh {e : Nat → Bool} {k : Nat} : ∀ d y, mCnt e (y + k) d = mCnt (fun x => e (x + k)) y d := by
  intro d
  induction d with
  | zero => intro y; rfl
  | succ d ih =>
    intro y
    rw [mCnt, mCnt, show y + k + 1 = y + 1 + k by omega, ih]
theorem pc_s {a r d : Nat} (hr : r < 256) : mCnt (256 * a + r).testBit 0 (8 + d) = pc8 r + mCnt a.testBit 0 d := by
  rw [mCnt_split, Nat.zero_add]
  have hb : ∀ x, (256 * a + r).testBit x = if x < 8 then r.testBit x else a.testBit (x - 8) := fun x => by
    rw [show (256 : Nat) = 2 ^ 8 from rfl, Nat.testBit_two_pow_mul_add _ hr]
  have h1 : mCnt (256 * a + r).testBit 0 8 = pc8 r := mCnt_congr 8 0 (fun x _ hx => by rw [hb, if_pos (by omega)])
  have h2 := mCnt_sh (e := (256 * a + r).testBit) (k := 8) d 0
  rw [Nat.zero_add] at h2
  rw [h1, h2, mCnt_congr (f := a.testBit) d 0 (fun x _ _ => by rw [hb, if_neg (by omega), show x + 8 - 8 = x by omega])]
theorem pc_32 {a b c d : Nat} (ha : a < 256) (hb : b < 256) (hc : c < 256) : mCnt (bN d c b a).testBit 0 32 = pc8 a + pc8 b + pc8 c + pc8 d := by
  unfold bN
  rw [pc_s (d := 24) ha, pc_s (d := 16) hb, pc_s (d := 8) hc]
  unfold pc8
  omega
theorem pc_end {a b c d : Nat} (ha : a ≤ 8) (hb : b ≤ 8) (hc : c ≤ 8) (hd : d ≤ 8) : (bN d c b a + bN d c b a / 256 + (bN d c b a + bN d c b a / 256) / 65536) % 64 = a + b + c + d := by
  have e1 : bN d c b a / 256 = 256 * (256 * d + c) + b := by
    unfold bN
    omega
  have e2 : (bN d c b a + (256 * (256 * d + c) + b)) / 65536 = 256 * d + c + d := by
    unfold bN
    omega
  rw [e1, e2]
  unfold bN
  omega
theorem l251a : X g 251 0 [.val (.int x)] [] h = X g 251 10 [.val (.int (x - ((x.toUInt32 >>> ((1 : Int32).toUInt32 &&& Int32.toUInt32 31)).toInt32 &&& 1431655765)))] [] h := by
  simp only [x251_0, x251_1, x251_2, x251_3, x251_4, x251_7, x251_8, x251_9, Option.bind_some, Option.toList_some, Option.toList_none, List.cons_append, List.nil_append, Option.isSome_some, if_true, eq_self, or_true, true_or, xb_01, mcl_cl, not_true_eq_false, not_false_eq_true, if_false]
theorem l251b : X g 251 10 [.val (.int x)] [] h = X g 251 24 [.val (.int ((x &&& 858993459) + ((x.toUInt32 >>> ((2 : Int32).toUInt32 &&& Int32.toUInt32 31)).toInt32 &&& 858993459)))] [] h := by
  simp only [x251_10, x251_11, x251_14, x251_15, x251_16, x251_17, x251_18, x251_21, x251_22, x251_23, Option.bind_some, Option.toList_some, Option.toList_none, List.cons_append, List.nil_append, Option.isSome_some, if_true, eq_self, or_true, true_or, xb_01, mcl_cl, not_true_eq_false, not_false_eq_true, if_false]
theorem l251c : X g 251 24 [.val (.int x)] [] h = X g 251 34 [.val (.int ((x + (x.toUInt32 >>> ((4 : Int32).toUInt32 &&& Int32.toUInt32 31)).toInt32) &&& 252645135))] [] h := by
  simp only [x251_24, x251_25, x251_26, x251_27, x251_28, x251_29, x251_32, x251_33, Option.bind_some, Option.toList_some, Option.toList_none, List.cons_append, List.nil_append, Option.isSome_some, if_true, eq_self, or_true, true_or, xb_01, mcl_cl, not_true_eq_false, not_false_eq_true, if_false]
theorem l251d : X g 251 34 [.val (.int x)] [] h = X g 251 41 [.val (.int (x + (x.toUInt32 >>> ((8 : Int32).toUInt32 &&& Int32.toUInt32 31)).toInt32))] [] h := by
  simp only [x251_34, x251_35, x251_36, x251_38, x251_39, x251_40, Option.bind_some, Option.toList_some, Option.toList_none, List.cons_append, List.nil_append, Option.isSome_some, if_true, eq_self, or_true, true_or, xb_01, mcl_cl, not_true_eq_false, not_false_eq_true, if_false]
theorem l251e : X g 251 41 [.val (.int x)] [] h = some (some (.int ((x + (x.toUInt32 >>> ((16 : Int32).toUInt32 &&& Int32.toUInt32 31)).toInt32) &&& 63)), h) := by
  simp only [x251_41, x251_42, x251_43, x251_45, x251_46, x251_47, x251_48, x251_49, x251_51, x251_52, Option.bind_some, Option.toList_some, Option.toList_none, List.cons_append, List.nil_append, Option.isSome_some, if_true, eq_self, or_true, true_or, xb_01, mcl_cl, not_true_eq_false, not_false_eq_true, if_false]
theorem c251 : X g 251 0 [.val (.int x)] [] h = some (some (.int (nI (mCnt (pBit x) 0 32))), h) := by
  obtain ⟨d, c, b, a, hd, hc, hb, ha, he⟩ : ∃ d c b a, d < 256 ∧ c < 256 ∧ b < 256 ∧ a < 256 ∧ nN x = bN d c b a := by
    have := nN_lt x
    refine ⟨nN x / 256 / 256 / 256, nN x / 256 / 256 % 256, nN x / 256 % 256, nN x % 256, by omega, by omega, by omega, by omega, ?_⟩
    unfold bN
    omega
  obtain ⟨a1, a2, a3, a4, a5, a6⟩ := bc_c a ha
  obtain ⟨b1, b2, b3, b4, b5, b6⟩ := bc_c b hb
  obtain ⟨c1, c2, c3, c4, c5, c6⟩ := bc_c c hc
  obtain ⟨d1, d2, d3, d4, d5, d6⟩ := bc_c d hd
  have hcnt : mCnt (pBit x) 0 32 = pc8 a + pc8 b + pc8 c + pc8 d := by
    unfold pBit
    rw [he]
    exact pc_32 ha hb hc
  rw [hcnt, l251a]
  have i1 : nN (x - ((x.toUInt32 >>> ((1 : Int32).toUInt32 &&& Int32.toUInt32 31)).toInt32 &&& 1431655765)) = bN (g1 d) (g1 c) (g1 b) (g1 a) := by
    have e : nN ((x.toUInt32 >>> ((1 : Int32).toUInt32 &&& Int32.toUInt32 31)).toInt32 &&& 1431655765) = (bN d c b a / 2 &&& 1431655765) := by
      rw [nN_and, nN_shr x 1 (c := 1) (by decide) (by decide), he]
      rfl
    rw [nN_sub _ _ (by rw [e, he]; have := Nat.and_le_left (n := bN d c b a / 2) (m := 1431655765); omega), e, he, bN_1 ha hb hc hd]
  generalize (x - ((x.toUInt32 >>> ((1 : Int32).toUInt32 &&& Int32.toUInt32 31)).toInt32 &&& 1431655765)) = x1 at i1 ⊢
  rw [l251b]
  have i2 : nN ((x1 &&& 858993459) + ((x1.toUInt32 >>> ((2 : Int32).toUInt32 &&& Int32.toUInt32 31)).toInt32 &&& 858993459)) = bN (g2 (g1 d)) (g2 (g1 c)) (g2 (g1 b)) (g2 (g1 a)) := by
    have e : nN ((x1.toUInt32 >>> ((2 : Int32).toUInt32 &&& Int32.toUInt32 31)).toInt32 &&& 858993459) = (bN (g1 d) (g1 c) (g1 b) (g1 a) / 4 &&& 858993459) := by
      rw [nN_and, nN_shr x1 2 (c := 2) (by decide) (by decide), i1]
      rfl
    have e2 : nN (x1 &&& 858993459) = (bN (g1 d) (g1 c) (g1 b) (g1 a) &&& 858993459) := by
      rw [nN_and, i1]
      rfl
    rw [nN_add _ _ (by
      rw [e, e2]
      have h1 := Nat.and_le_right (n := bN (g1 d) (g1 c) (g1 b) (g1 a) / 4) (m := 858993459)
      have h2 := Nat.and_le_right (n := bN (g1 d) (g1 c) (g1 b) (g1 a)) (m := 858993459)
      omega), e, e2, bN_2 a1 b1 c1]
  generalize ((x1 &&& 858993459) + ((x1.toUInt32 >>> ((2 : Int32).toUInt32 &&& Int32.toUInt32 31)).toInt32 &&& 858993459)) = x2 at i2 ⊢
  have hx2 : nN x2 < 1153433600 := by rw [i2]; unfold bN; omega
  rw [l251c]
  have i3 : nN ((x2 + (x2.toUInt32 >>> ((4 : Int32).toUInt32 &&& Int32.toUInt32 31)).toInt32) &&& 252645135) = bN (pc8 d) (pc8 c) (pc8 b) (pc8 a) := by
    have e : nN (x2 + (x2.toUInt32 >>> ((4 : Int32).toUInt32 &&& Int32.toUInt32 31)).toInt32) = nN x2 + nN x2 / 16 := by
      rw [nN_add _ _ (by rw [nN_shr x2 4 (c := 4) (by decide) (by decide)]; omega), nN_shr x2 4 (c := 4) (by decide) (by decide)]
    rw [nN_and, e, i2, ← a5, ← b5, ← c5, ← d5]
    exact bN_3 a3 b3 c3 b4 c4 d4
  generalize ((x2 + (x2.toUInt32 >>> ((4 : Int32).toUInt32 &&& Int32.toUInt32 31)).toInt32) &&& 252645135) = x3 at i3 ⊢
  have hx3 : nN x3 < 200000000 := by rw [i3]; unfold bN; omega
  rw [l251d]
  have i4 : nN (x3 + (x3.toUInt32 >>> ((8 : Int32).toUInt32 &&& Int32.toUInt32 31)).toInt32) = bN (pc8 d) (pc8 c) (pc8 b) (pc8 a) + bN (pc8 d) (pc8 c) (pc8 b) (pc8 a) / 256 := by
    rw [nN_add _ _ (by rw [nN_shr x3 8 (c := 8) (by decide) (by decide)]; omega), nN_shr x3 8 (c := 8) (by decide) (by decide), i3]
  generalize (x3 + (x3.toUInt32 >>> ((8 : Int32).toUInt32 &&& Int32.toUInt32 31)).toInt32) = x4 at i4 ⊢
  have hx4 : nN x4 < 400000000 := by rw [i4]; unfold bN; omega
  rw [l251e]
  have i5 : (x4 + (x4.toUInt32 >>> ((16 : Int32).toUInt32 &&& Int32.toUInt32 31)).toInt32) &&& 63 = nI (pc8 a + pc8 b + pc8 c + pc8 d) := by
    refine nN_inj ?_
    rw [nN_nI (by omega), nN_and, nN_add _ _ (by rw [nN_shr x4 16 (c := 16) (by decide) (by decide)]; omega), nN_shr x4 16 (c := 16) (by decide) (by decide), i4]
    rw [show nN 63 = 2 ^ 6 - 1 from rfl, Nat.and_two_pow_sub_one_eq_mod]
    exact pc_end a6 b6 c6 d6
  rw [i5]
theorem d171 : X g 171 0 [.val (.int x)] [] h = some (some (.int (nI (mCnt (pBit x) 0 32))), h) := by
  simp only [x171_0, x171_1, x171_4, c251, Option.bind_some, Option.toList_some, Option.toList_none, List.cons_append, List.nil_append, Option.isSome_some, if_true, eq_self, or_true, true_or, xb_01, mcl_cl, not_true_eq_false, not_false_eq_true, if_false]
def ntzs (y n m k : Int32) : Int32 × Int32 := if y ≤ m then (y, n) else ((y.toUInt32 >>> (k.toUInt32 &&& Int32.toUInt32 31)).toInt32, n + k)
def ntz (y : Int32) : Int32 := if 0 < y then (ntzs (ntzs (ntzs (ntzs y 1 65536 16).1 (ntzs y 1 65536 16).2 256 8).1 (ntzs (ntzs y 1 65536 16).1 (ntzs y 1 65536 16).2 256 8).2 16 4).1 (ntzs (ntzs (ntzs y 1 65536 16).1 (ntzs y 1 65536 16).2 256 8).1 (ntzs (ntzs y 1 65536 16).1 (ntzs y 1 65536 16).2 256 8).2 16 4).2 4 2).2 + ((ntzs (ntzs (ntzs (ntzs y 1 65536 16).1 (ntzs y 1 65536 16).2 256 8).1 (ntzs (ntzs y 1 65536 16).1 (ntzs y 1 65536 16).2 256 8).2 16 4).1 (ntzs (ntzs (ntzs y 1 65536 16).1 (ntzs y 1 65536 16).2 256 8).1 (ntzs (ntzs y 1 65536 16).1 (ntzs y 1 65536 16).2 256 8).2 16 4).2 4 2).1.toUInt32 >>> ((1 : Int32).toUInt32 &&& Int32.toUInt32 31)).toInt32 else y &&& 32
theorem l250a : X g 250 19 [.val (.int y), .val (.int z)] [] h = X g 250 34 [.val (.int (ntzs y z 65536 16).1), .val (.int (ntzs y z 65536 16).2)] [] h := by
  unfold ntzs
  by_cases e : y ≤ 65536 <;> simp only [x250_19, x250_20, x250_23, x250_26, x250_29, x250_30, x250_32, x250_33, e, Option.bind_some, Option.toList_some, Option.toList_none, List.cons_append, List.nil_append, Option.isSome_some, if_true, eq_self, or_true, true_or, xb_01, mcl_cl, not_true_eq_false, not_false_eq_true, if_false]
theorem l250b : X g 250 34 [.val (.int y), .val (.int z)] [] h = X g 250 49 [.val (.int (ntzs y z 256 8).1), .val (.int (ntzs y z 256 8).2)] [] h := by
  unfold ntzs
  by_cases e : y ≤ 256 <;> simp only [x250_34, x250_35, x250_38, x250_41, x250_44, x250_45, x250_47, x250_48, e, Option.bind_some, Option.toList_some, Option.toList_none, List.cons_append, List.nil_append, Option.isSome_some, if_true, eq_self, or_true, true_or, xb_01, mcl_cl, not_true_eq_false, not_false_eq_true, if_false]
theorem l250c : X g 250 49 [.val (.int y), .val (.int z)] [] h = X g 250 62 [.val (.int (ntzs y z 16 4).1), .val (.int (ntzs y z 16 4).2)] [] h := by
  unfold ntzs
  by_cases e : y ≤ 16 <;> simp only [x250_49, x250_50, x250_52, x250_55, x250_58, x250_59, x250_60, x250_61, e, Option.bind_some, Option.toList_some, Option.toList_none, List.cons_append, List.nil_append, Option.isSome_some, if_true, eq_self, or_true, true_or, xb_01, mcl_cl, not_true_eq_false, not_false_eq_true, if_false]
theorem l250d : X g 250 62 [.val (.int y), .val (.int z)] [] h = X g 250 74 [.val (.int (ntzs y z 4 2).1), .val (.int (ntzs y z 4 2).2)] [] h := by
  unfold ntzs
  by_cases e : y ≤ 4 <;> simp only [x250_62, x250_63, x250_64, x250_67, x250_70, x250_71, x250_72, x250_73, e, Option.bind_some, Option.toList_some, Option.toList_none, List.cons_append, List.nil_append, Option.isSome_some, if_true, eq_self, or_true, true_or, xb_01, mcl_cl, not_true_eq_false, not_false_eq_true, if_false]
theorem ntz_32 : ∀ t, t < 32 → ntz (nI (2 ^ t - 1)) = nI t := by decide +kernel
theorem mUnl_yes {f : Nat → Bool} : ∀ d y x, y ≤ x → x < mUnl f y d → f x = true := by
  intro d
  induction d with
  | zero => intro y x a b; rw [mUnl] at b; omega
  | succ d ih =>
    intro y x a b
    rw [mUnl] at b
    by_cases e : f y = true
    · rw [if_pos e] at b
      by_cases e2 : x = y
      · rw [e2]; exact e
      · exact ih (y + 1) x (by omega) b
    · rw [if_neg e] at b
      omega
/-- the lowest bit that is set -/
def sNtz (x : Int32) : Nat := mUnl (fun k => !pBit x k) 0 32
theorem sNtz_lt (hx : ¬ x = 0) : sNtz x < 32 := by
  by_cases h : ∃ k, k < 32 ∧ pBit x k = true
  · obtain ⟨k, h1, h2⟩ := h
    have := mUnl_lt (f := fun k => !pBit x k) 32 0 k (by omega) (by omega) (by simp [h2])
    unfold sNtz
    omega
  · exfalso
    apply hx
    refine nN_inj ?_
    refine Nat.eq_of_testBit_eq fun j => ?_
    rw [show nN 0 = 0 from rfl, Nat.zero_testBit]
    by_cases hj : j < 32
    · cases e : (nN x).testBit j with
      | false => rfl
      | true => exact absurd ⟨j, hj, e⟩ h
    · have := nN_lt x
      refine Nat.testBit_lt_two_pow (Nat.lt_of_lt_of_le this ?_)
      exact Nat.pow_le_pow_right (n := 2) (i := 32) (j := j) (by decide) (by omega)
theorem sNtz_b {t : Nat} (ht : t < 32) (h1 : pBit x t = true) (h2 : ∀ k, k < t → pBit x k = false) : (x ^^^ -1) &&& (x - 1) = nI (2 ^ t - 1) := by
  have hp : 0 < 2 ^ t := Nat.pow_pos (by decide)
  have hp31 : 2 ^ t ≤ 2 ^ 31 := Nat.pow_le_pow_right (by decide) (by omega)
  have hm : nN x % 2 ^ (t + 1) = 2 ^ t := by
    refine Nat.eq_of_testBit_eq fun j => ?_
    rw [Nat.testBit_mod_two_pow, Nat.testBit_two_pow]
    by_cases e1 : j < t
    · have : (nN x).testBit j = false := h2 j e1
      rw [this, Bool.and_false, decide_eq_false (by omega)]
    · by_cases e2 : j = t
      · have : (nN x).testBit j = true := by rw [e2]; exact h1
        rw [this, Bool.and_true, decide_eq_true (by omega), decide_eq_true (by omega)]
      · rw [decide_eq_false (by omega), Bool.false_and, decide_eq_false (by omega)]
  have hd := Nat.div_add_mod (nN x) (2 ^ (t + 1))
  rw [hm] at hd
  have h3 : nN (x - 1) = 2 ^ (t + 1) * (nN x / 2 ^ (t + 1)) + (2 ^ t - 1) := by
    rw [nN_sub x 1 (by rw [show nN 1 = 1 from rfl]; omega), show nN 1 = 1 from rfl]
    omega
  have hps : 2 ^ (t + 1) = 2 * 2 ^ t := by rw [Nat.pow_succ]; omega
  refine nN_inj ?_
  rw [nN_nI (by omega), nN_and]
  refine Nat.eq_of_testBit_eq fun j => ?_
  have hx : ∀ j, j < 32 → (nN (x ^^^ -1)).testBit j = !((nN x).testBit j) := by
    intro j hj
    have e : nN (x ^^^ -1) = nN x ^^^ 4294967295 := by
      show (x.toUInt32 ^^^ (-1 : Int32).toUInt32).toNat = _
      rw [UInt32.toNat_xor]
      rfl
    rw [e, Nat.testBit_xor, show (4294967295 : Nat) = 2 ^ 32 - 1 from rfl, Nat.testBit_two_pow_sub_one, decide_eq_true hj, Bool.xor_true]
  rw [Nat.testBit_and, h3, Nat.testBit_two_pow_mul_add _ (by omega), Nat.testBit_two_pow_sub_one]
  by_cases e1 : j < t
  · rw [if_pos (by omega), decide_eq_true e1, Bool.and_true, hx j (by omega)]
    have : (nN x).testBit j = false := h2 j e1
    rw [this]
    rfl
  · rw [decide_eq_false e1]
    by_cases e2 : j = t
    · rw [if_pos (by omega), Bool.and_false]
    · rw [if_neg (by omega)]
      by_cases e3 : j < 32
      · have hb : (nN x).testBit j = (nN x / 2 ^ (t + 1)).testBit (j - (t + 1)) := by
          have := Nat.testBit_two_pow_mul_add (nN x / 2 ^ (t + 1)) (i := t + 1) (b := 2 ^ t) (by omega) j
          rw [hd, if_neg (by omega)] at this
          exact this
        rw [hx j e3, hb]
        cases (nN x / 2 ^ (t + 1)).testBit (j - (t + 1)) <;> rfl
      · have : (nN (x ^^^ -1)).testBit j = false := by
          have := nN_lt (x ^^^ -1)
          refine Nat.testBit_lt_two_pow (Nat.lt_of_lt_of_le this ?_)
          exact Nat.pow_le_pow_right (n := 2) (i := 32) (j := j) (by decide) (by omega)
        rw [this, Bool.false_and]
theorem c250 (hx : ¬ x = 0) : X g 250 0 [.val (.int x), .unset] [] h = some (some (.int (nI (sNtz x))), h) := by
  have ht := sNtz_lt hx
  have h1 : pBit x (sNtz x) = true := by
    have := mUnl_no (f := fun k => !pBit x k) 32 0 (by unfold sNtz at ht; omega)
    simpa [sNtz] using this
  have h2 : ∀ k, k < sNtz x → pBit x k = false := by
    intro k hk
    have := mUnl_yes (f := fun k => !pBit x k) 32 0 k (by omega) hk
    simpa using this
  have h3 := sNtz_b ht h1 h2
  have h4 := ntz_32 (sNtz x) ht
  rw [← h4]
  simp only [x250_0, x250_1, x250_2, x250_3, x250_4, x250_5, x250_6, x250_7, h3, Option.bind_some, Option.toList_some, Option.toList_none, List.cons_append, List.nil_append, Option.isSome_some, if_true, eq_self, or_true, true_or, xb_01, mcl_cl, not_true_eq_false, not_false_eq_true, if_false]
  unfold ntz
  by_cases e : 0 < nI (2 ^ sNtz x - 1)
  · simp only [x250_8, x250_9, x250_12, x250_13, x250_15, x250_16, x250_17, x250_18, e, l250a, l250b, l250c, l250d, x250_74, x250_75, x250_76, x250_77, x250_78, x250_79, Option.bind_some, Option.toList_some, Option.toList_none, List.cons_append, List.nil_append, Option.isSome_some, if_true, eq_self, or_true, true_or, xb_01, mcl_cl, not_true_eq_false, not_false_eq_true, if_false]
  · simp only [x250_8, x250_9, x250_12, x250_13, x250_15, x250_16, x250_17, x250_18, e, Option.bind_some, Option.toList_some, Option.toList_none, List.cons_append, List.nil_append, Option.isSome_some, if_true, eq_self, or_true, true_or, xb_01, mcl_cl, not_true_eq_false, not_false_eq_true, if_false]
/-- what a slot is -/
def fOf (S : MS) (i j : Int32) : Int32 := if mSlot i = false then -1 else if mWithin j.toInt 0 4 = false then -1 else if j = 0 then (if S.2.2.1 7 (tn i) = -11 then -1 else if mRow S (tn i) = true then S.2.2.1 2 (mr S (tn i)) else S.2.2.1 7 (tn i)) else if mRow S (tn i) = false then (if S.2.2.1 7 (tn i) = -11 then -11 else -12) else if j = 1 then S.2.2.1 3 (mr S (tn i)) else if j = 2 then nI (mHolders S (S.2.2.1 7 (tn i))) else if j = 3 then nI (mCnt (pBit (S.2.2.1 4 (mr S (tn i)))) 0 32) else if S.2.2.1 4 (mr S (tn i)) = 0 then -5 else nI (sNtz (S.2.2.1 4 (mr S (tn i))))
theorem e172 : X g 172 0 [.val (va_rf (some mu)), .val (.int i), .val (.int j), .unset] [] (mH n kc ks mu S) = some (some (.int (fOf S i j)), mH n kc ks mu S) := by
  unfold fOf
  by_cases e1 : mSlot i = false
  · rw [if_pos e1]
    simp only [x172_0, x172_1, x172_4, x172_7, x172_8, x172_9, x172_10, x172_13, x172_16, x172_19, x172_20, x172_21, x172_22, x172_25, x172_26, x172_29, x172_30, x172_31, x172_33, x172_36, x172_37, x172_40, x172_41, x172_42, x172_45, x172_48, x172_49, x172_52, x172_53, x172_56, x172_57, x172_58, x172_59, x172_62, x172_63, x172_66, x172_67, x172_68, x172_69, x172_70, x172_71, x172_74, x172_77, x172_78, x172_81, x172_82, x172_83, x172_85, x172_88, x172_90, x172_93, x172_95, x172_96, x172_97, x172_100, x172_101, x172_102, x172_103, x172_104_v1, x172_104_v2, x172_104_v3, x172_104_d, x172_132, x172_133, x172_136, x172_137, x172_138, x172_139, x172_140, x172_141, x172_144, x172_145, x172_146, x172_149, x172_150, x172_151, x172_154, x172_155, x172_156, x172_159, x172_160, x172_161, x172_164, x172_166, x172_169, x172_170, x172_173, x172_174, x172_175, x172_178, c164, e1, xb_f, Option.bind_some, Option.toList_some, Option.toList_none, List.cons_append, List.nil_append, Option.isSome_some, if_true, eq_self, or_true, true_or, xb_01, mcl_cl, not_true_eq_false, not_false_eq_true, if_false]
  · rw [if_neg e1]
    have e1 : mSlot i = true := by simpa using e1
    obtain ⟨e2, e3⟩ := mSlot_eq e1
    by_cases e4 : mWithin j.toInt 0 4 = false
    · have e7 : mWithin j.toInt (Int64.toInt 0) (Int64.toInt 4) = false := e4
      rw [if_pos e4]
      simp only [x172_0, x172_1, x172_4, x172_7, x172_8, x172_9, x172_10, x172_13, x172_16, x172_19, x172_20, x172_21, x172_22, x172_25, x172_26, x172_29, x172_30, x172_31, x172_33, x172_36, x172_37, x172_40, x172_41, x172_42, x172_45, x172_48, x172_49, x172_52, x172_53, x172_56, x172_57, x172_58, x172_59, x172_62, x172_63, x172_66, x172_67, x172_68, x172_69, x172_70, x172_71, x172_74, x172_77, x172_78, x172_81, x172_82, x172_83, x172_85, x172_88, x172_90, x172_93, x172_95, x172_96, x172_97, x172_100, x172_101, x172_102, x172_103, x172_104_v1, x172_104_v2, x172_104_v3, x172_104_d, x172_132, x172_133, x172_136, x172_137, x172_138, x172_139, x172_140, x172_141, x172_144, x172_145, x172_146, x172_149, x172_150, x172_151, x172_154, x172_155, x172_156, x172_159, x172_160, x172_161, x172_164, x172_166, x172_169, x172_170, x172_173, x172_174, x172_175, x172_178, c164, c154, e1, e7, i32_64, xb_t, xb_f, i32_10, Option.bind_some, Option.toList_some, Option.toList_none, List.cons_append, List.nil_append, Option.isSome_some, if_true, eq_self, or_true, true_or, xb_01, mcl_cl, not_true_eq_false, not_false_eq_true, if_false]
    · rw [if_neg e4]
      have e4 : mWithin j.toInt 0 4 = true := by simpa using e4
      have e7 : mWithin j.toInt (Int64.toInt 0) (Int64.toInt 4) = true := e4
      have e8 := mWithin_iff.mp e4
      generalize tn i = s at *
      subst e2
      have a1 := xin_nI e3 (n := 10) (by decide)
      have a2 := nI_clamp (lt31 e3 (by decide))
      by_cases j0 : j = 0
      · rw [if_pos j0]
        subst j0
        by_cases e5 : S.2.2.1 7 s = -11
        · simp only [x172_0, x172_1, x172_4, x172_7, x172_8, x172_9, x172_10, x172_13, x172_16, x172_19, x172_20, x172_21, x172_22, x172_25, x172_26, x172_29, x172_30, x172_31, x172_33, x172_36, x172_37, x172_40, x172_41, x172_42, x172_45, x172_48, x172_49, x172_52, x172_53, x172_56, x172_57, x172_58, x172_59, x172_62, x172_63, x172_66, x172_67, x172_68, x172_69, x172_70, x172_71, x172_74, x172_77, x172_78, x172_81, x172_82, x172_83, x172_85, x172_88, x172_90, x172_93, x172_95, x172_96, x172_97, x172_100, x172_101, x172_102, x172_103, x172_104_v1, x172_104_v2, x172_104_v3, x172_104_d, x172_132, x172_133, x172_136, x172_137, x172_138, x172_139, x172_140, x172_141, x172_144, x172_145, x172_146, x172_149, x172_150, x172_151, x172_154, x172_155, x172_156, x172_159, x172_160, x172_161, x172_164, x172_166, x172_169, x172_170, x172_173, x172_174, x172_175, x172_178, c164, c154, e1, e7, i32_64, xb_t, i32_10, mf_7, ml_7, a1, a2, e5, Option.bind_some, Option.toList_some, Option.toList_none, List.cons_append, List.nil_append, Option.isSome_some, if_true, eq_self, or_true, true_or, xb_01, mcl_cl, not_true_eq_false, not_false_eq_true, if_false]
        · rw [if_neg e5]
          cases e6 : mRow S s with
          | false =>
            simp only [x172_0, x172_1, x172_4, x172_7, x172_8, x172_9, x172_10, x172_13, x172_16, x172_19, x172_20, x172_21, x172_22, x172_25, x172_26, x172_29, x172_30, x172_31, x172_33, x172_36, x172_37, x172_40, x172_41, x172_42, x172_45, x172_48, x172_49, x172_52, x172_53, x172_56, x172_57, x172_58, x172_59, x172_62, x172_63, x172_66, x172_67, x172_68, x172_69, x172_70, x172_71, x172_74, x172_77, x172_78, x172_81, x172_82, x172_83, x172_85, x172_88, x172_90, x172_93, x172_95, x172_96, x172_97, x172_100, x172_101, x172_102, x172_103, x172_104_v1, x172_104_v2, x172_104_v3, x172_104_d, x172_132, x172_133, x172_136, x172_137, x172_138, x172_139, x172_140, x172_141, x172_144, x172_145, x172_146, x172_149, x172_150, x172_151, x172_154, x172_155, x172_156, x172_159, x172_160, x172_161, x172_164, x172_166, x172_169, x172_170, x172_173, x172_174, x172_175, x172_178, c164, c154, c165 e3, e1, e7, i32_64, xb_t, xb_f, i32_10, mf_7, ml_7, a1, a2, e5, e6, Option.bind_some, Option.toList_some, Option.toList_none, List.cons_append, List.nil_append, Option.isSome_some, if_true, eq_self, or_true, true_or, xb_01, mcl_cl, not_true_eq_false, not_false_eq_true, if_false]
            rfl
          | true =>
            obtain ⟨r1, hr⟩ := mRow_eq e6
            have e5' : ¬ nI (mr S s) = -11 := by rw [← r1]; exact e5
            simp only [x172_0, x172_1, x172_4, x172_7, x172_8, x172_9, x172_10, x172_13, x172_16, x172_19, x172_20, x172_21, x172_22, x172_25, x172_26, x172_29, x172_30, x172_31, x172_33, x172_36, x172_37, x172_40, x172_41, x172_42, x172_45, x172_48, x172_49, x172_52, x172_53, x172_56, x172_57, x172_58, x172_59, x172_62, x172_63, x172_66, x172_67, x172_68, x172_69, x172_70, x172_71, x172_74, x172_77, x172_78, x172_81, x172_82, x172_83, x172_85, x172_88, x172_90, x172_93, x172_95, x172_96, x172_97, x172_100, x172_101, x172_102, x172_103, x172_104_v1, x172_104_v2, x172_104_v3, x172_104_d, x172_132, x172_133, x172_136, x172_137, x172_138, x172_139, x172_140, x172_141, x172_144, x172_145, x172_146, x172_149, x172_150, x172_151, x172_154, x172_155, x172_156, x172_159, x172_160, x172_161, x172_164, x172_166, x172_169, x172_170, x172_173, x172_174, x172_175, x172_178, c164, c154, c165 e3, e1, e7, i32_64, xb_t, i32_10, mf_7, ml_7, mf_2, ml_2, a1, a2, e5', e6, r1, xin_nI hr (by decide), nI_clamp (lt31 hr (by decide)), Option.bind_some, Option.toList_some, Option.toList_none, List.cons_append, List.nil_append, Option.isSome_some, if_true, eq_self, or_true, true_or, xb_01, mcl_cl, not_true_eq_false, not_false_eq_true, if_false]
      · rw [if_neg j0]
        cases e6 : mRow S s with
        | false =>
          rw [if_pos rfl]
          by_cases e5 : S.2.2.1 7 s = -11
          · simp only [x172_0, x172_1, x172_4, x172_7, x172_8, x172_9, x172_10, x172_13, x172_16, x172_19, x172_20, x172_21, x172_22, x172_25, x172_26, x172_29, x172_30, x172_31, x172_33, x172_36, x172_37, x172_40, x172_41, x172_42, x172_45, x172_48, x172_49, x172_52, x172_53, x172_56, x172_57, x172_58, x172_59, x172_62, x172_63, x172_66, x172_67, x172_68, x172_69, x172_70, x172_71, x172_74, x172_77, x172_78, x172_81, x172_82, x172_83, x172_85, x172_88, x172_90, x172_93, x172_95, x172_96, x172_97, x172_100, x172_101, x172_102, x172_103, x172_104_v1, x172_104_v2, x172_104_v3, x172_104_d, x172_132, x172_133, x172_136, x172_137, x172_138, x172_139, x172_140, x172_141, x172_144, x172_145, x172_146, x172_149, x172_150, x172_151, x172_154, x172_155, x172_156, x172_159, x172_160, x172_161, x172_164, x172_166, x172_169, x172_170, x172_173, x172_174, x172_175, x172_178, c164, c154, c165 e3, e1, e7, j0, i32_64, xb_t, xb_f, i32_10, mf_7, ml_7, a1, a2, e5, e6, Option.bind_some, Option.toList_some, Option.toList_none, List.cons_append, List.nil_append, Option.isSome_some, if_true, eq_self, or_true, true_or, xb_01, mcl_cl, not_true_eq_false, not_false_eq_true, if_false]
          · simp only [x172_0, x172_1, x172_4, x172_7, x172_8, x172_9, x172_10, x172_13, x172_16, x172_19, x172_20, x172_21, x172_22, x172_25, x172_26, x172_29, x172_30, x172_31, x172_33, x172_36, x172_37, x172_40, x172_41, x172_42, x172_45, x172_48, x172_49, x172_52, x172_53, x172_56, x172_57, x172_58, x172_59, x172_62, x172_63, x172_66, x172_67, x172_68, x172_69, x172_70, x172_71, x172_74, x172_77, x172_78, x172_81, x172_82, x172_83, x172_85, x172_88, x172_90, x172_93, x172_95, x172_96, x172_97, x172_100, x172_101, x172_102, x172_103, x172_104_v1, x172_104_v2, x172_104_v3, x172_104_d, x172_132, x172_133, x172_136, x172_137, x172_138, x172_139, x172_140, x172_141, x172_144, x172_145, x172_146, x172_149, x172_150, x172_151, x172_154, x172_155, x172_156, x172_159, x172_160, x172_161, x172_164, x172_166, x172_169, x172_170, x172_173, x172_174, x172_175, x172_178, c164, c154, c165 e3, e1, e7, j0, i32_64, xb_t, xb_f, i32_10, mf_7, ml_7, a1, a2, e5, e6, Option.bind_some, Option.toList_some, Option.toList_none, List.cons_append, List.nil_append, Option.isSome_some, if_true, eq_self, or_true, true_or, xb_01, mcl_cl, not_true_eq_false, not_false_eq_true, if_false]
        | true =>
          rw [if_neg (by simp)]
          obtain ⟨r1, hr⟩ := mRow_eq e6
          have b1 := xin_nI hr (n := 10) (by decide)
          have b2 := nI_clamp (lt31 hr (by decide))
          rw [r1]
          by_cases j1 : j = 1
          · subst j1
            simp only [x172_0, x172_1, x172_4, x172_7, x172_8, x172_9, x172_10, x172_13, x172_16, x172_19, x172_20, x172_21, x172_22, x172_25, x172_26, x172_29, x172_30, x172_31, x172_33, x172_36, x172_37, x172_40, x172_41, x172_42, x172_45, x172_48, x172_49, x172_52, x172_53, x172_56, x172_57, x172_58, x172_59, x172_62, x172_63, x172_66, x172_67, x172_68, x172_69, x172_70, x172_71, x172_74, x172_77, x172_78, x172_81, x172_82, x172_83, x172_85, x172_88, x172_90, x172_93, x172_95, x172_96, x172_97, x172_100, x172_101, x172_102, x172_103, x172_104_v1, x172_104_v2, x172_104_v3, x172_104_d, x172_132, x172_133, x172_136, x172_137, x172_138, x172_139, x172_140, x172_141, x172_144, x172_145, x172_146, x172_149, x172_150, x172_151, x172_154, x172_155, x172_156, x172_159, x172_160, x172_161, x172_164, x172_166, x172_169, x172_170, x172_173, x172_174, x172_175, x172_178, c164, c154, c165 e3, e1, e7, j0, i32_64, xb_t, i32_10, mf_7, ml_7, mf_3, ml_3, a1, a2, e6, r1, b1, b2, Option.bind_some, Option.toList_some, Option.toList_none, List.cons_append, List.nil_append, Option.isSome_some, if_true, eq_self, or_true, true_or, xb_01, mcl_cl, not_true_eq_false, not_false_eq_true, if_false]
          · rw [if_neg j1]
            by_cases j2 : j = 2
            · subst j2
              simp only [x172_0, x172_1, x172_4, x172_7, x172_8, x172_9, x172_10, x172_13, x172_16, x172_19, x172_20, x172_21, x172_22, x172_25, x172_26, x172_29, x172_30, x172_31, x172_33, x172_36, x172_37, x172_40, x172_41, x172_42, x172_45, x172_48, x172_49, x172_52, x172_53, x172_56, x172_57, x172_58, x172_59, x172_62, x172_63, x172_66, x172_67, x172_68, x172_69, x172_70, x172_71, x172_74, x172_77, x172_78, x172_81, x172_82, x172_83, x172_85, x172_88, x172_90, x172_93, x172_95, x172_96, x172_97, x172_100, x172_101, x172_102, x172_103, x172_104_v1, x172_104_v2, x172_104_v3, x172_104_d, x172_132, x172_133, x172_136, x172_137, x172_138, x172_139, x172_140, x172_141, x172_144, x172_145, x172_146, x172_149, x172_150, x172_151, x172_154, x172_155, x172_156, x172_159, x172_160, x172_161, x172_164, x172_166, x172_169, x172_170, x172_173, x172_174, x172_175, x172_178, c164, c154, c165 e3, c166, e1, e7, j0, i32_64, xb_t, i32_10, mf_7, ml_7, a1, a2, e6, r1, b1, b2, Option.bind_some, Option.toList_some, Option.toList_none, List.cons_append, List.nil_append, Option.isSome_some, if_true, eq_self, or_true, true_or, xb_01, mcl_cl, not_true_eq_false, not_false_eq_true, if_false]
            · rw [if_neg j2]
              by_cases j3 : j = 3
              · subst j3
                simp only [x172_0, x172_1, x172_4, x172_7, x172_8, x172_9, x172_10, x172_13, x172_16, x172_19, x172_20, x172_21, x172_22, x172_25, x172_26, x172_29, x172_30, x172_31, x172_33, x172_36, x172_37, x172_40, x172_41, x172_42, x172_45, x172_48, x172_49, x172_52, x172_53, x172_56, x172_57, x172_58, x172_59, x172_62, x172_63, x172_66, x172_67, x172_68, x172_69, x172_70, x172_71, x172_74, x172_77, x172_78, x172_81, x172_82, x172_83, x172_85, x172_88, x172_90, x172_93, x172_95, x172_96, x172_97, x172_100, x172_101, x172_102, x172_103, x172_104_v1, x172_104_v2, x172_104_v3, x172_104_d, x172_132, x172_133, x172_136, x172_137, x172_138, x172_139, x172_140, x172_141, x172_144, x172_145, x172_146, x172_149, x172_150, x172_151, x172_154, x172_155, x172_156, x172_159, x172_160, x172_161, x172_164, x172_166, x172_169, x172_170, x172_173, x172_174, x172_175, x172_178, c164, c154, c165 e3, d171, e1, e7, j0, i32_64, xb_t, i32_10, mf_7, ml_7, mf_4, ml_4, a1, a2, e6, r1, b1, b2, Option.bind_some, Option.toList_some, Option.toList_none, List.cons_append, List.nil_append, Option.isSome_some, if_true, eq_self, or_true, true_or, xb_01, mcl_cl, not_true_eq_false, not_false_eq_true, if_false]
              · rw [if_neg j3]
                have hx : j.toInt < 1 ∨ 3 < j.toInt := by
                  right
                  have z0 : j.toInt ≠ 0 := fun z => j0 (Int32.toInt_inj.mp z)
                  have z1 : j.toInt ≠ 1 := fun z => j1 (Int32.toInt_inj.mp z)
                  have z2 : j.toInt ≠ 2 := fun z => j2 (Int32.toInt_inj.mp z)
                  have z3 : j.toInt ≠ 3 := fun z => j3 (Int32.toInt_inj.mp z)
                  omega
                by_cases t0 : S.2.2.1 4 (mr S s) = 0
                · simp only [x172_0, x172_1, x172_4, x172_7, x172_8, x172_9, x172_10, x172_13, x172_16, x172_19, x172_20, x172_21, x172_22, x172_25, x172_26, x172_29, x172_30, x172_31, x172_33, x172_36, x172_37, x172_40, x172_41, x172_42, x172_45, x172_48, x172_49, x172_52, x172_53, x172_56, x172_57, x172_58, x172_59, x172_62, x172_63, x172_66, x172_67, x172_68, x172_69, x172_70, x172_71, x172_74, x172_77, x172_78, x172_81, x172_82, x172_83, x172_85, x172_88, x172_90, x172_93, x172_95, x172_96, x172_97, x172_100, x172_101, x172_102, x172_103, x172_104_v1, x172_104_v2, x172_104_v3, x172_104_d, x172_132, x172_133, x172_136, x172_137, x172_138, x172_139, x172_140, x172_141, x172_144, x172_145, x172_146, x172_149, x172_150, x172_151, x172_154, x172_155, x172_156, x172_159, x172_160, x172_161, x172_164, x172_166, x172_169, x172_170, x172_173, x172_174, x172_175, x172_178, c164, c154, c165 e3, x172_104_d hx, e1, e7, j0, i32_64, xb_t, i32_10, mf_7, ml_7, mf_4, ml_4, a1, a2, e6, r1, b1, b2, t0, Option.bind_some, Option.toList_some, Option.toList_none, List.cons_append, List.nil_append, Option.isSome_some, if_true, eq_self, or_true, true_or, xb_01, mcl_cl, not_true_eq_false, not_false_eq_true, if_false]
                · simp only [x172_0, x172_1, x172_4, x172_7, x172_8, x172_9, x172_10, x172_13, x172_16, x172_19, x172_20, x172_21, x172_22, x172_25, x172_26, x172_29, x172_30, x172_31, x172_33, x172_36, x172_37, x172_40, x172_41, x172_42, x172_45, x172_48, x172_49, x172_52, x172_53, x172_56, x172_57, x172_58, x172_59, x172_62, x172_63, x172_66, x172_67, x172_68, x172_69, x172_70, x172_71, x172_74, x172_77, x172_78, x172_81, x172_82, x172_83, x172_85, x172_88, x172_90, x172_93, x172_95, x172_96, x172_97, x172_100, x172_101, x172_102, x172_103, x172_104_v1, x172_104_v2, x172_104_v3, x172_104_d, x172_132, x172_133, x172_136, x172_137, x172_138, x172_139, x172_140, x172_141, x172_144, x172_145, x172_146, x172_149, x172_150, x172_151, x172_154, x172_155, x172_156, x172_159, x172_160, x172_161, x172_164, x172_166, x172_169, x172_170, x172_173, x172_174, x172_175, x172_178, c164, c154, c165 e3, x172_104_d hx, c250 t0, e1, e7, j0, i32_64, xb_t, i32_10, mf_7, ml_7, mf_4, ml_4, a1, a2, e6, r1, b1, b2, t0, Option.bind_some, Option.toList_some, Option.toList_none, List.cons_append, List.nil_append, Option.isSome_some, if_true, eq_self, or_true, true_or, xb_01, mcl_cl, not_true_eq_false, not_false_eq_true, if_false]
end M19
