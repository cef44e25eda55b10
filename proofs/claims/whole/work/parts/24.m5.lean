/-! THE REFERENCE's methods, 4: cells read and put -/
section MSP
variable {S : MS} {k j q i : Nat} {v : Int32} {w : Int64}
theorem msA1 : (msA S k j v).1 = S.1 := rfl
theorem msA2 : (msA S k j v).2.1 = S.2.1 := rfl
theorem msA3 : (msA S k j v).2.2.1 q i = if q = k ∧ i = j then v else S.2.2.1 q i := rfl
theorem msA4 : (msA S k j v).2.2.2 = S.2.2.2 := rfl
theorem msB1 : (msB S k j w).1 = S.1 := rfl
theorem msB2 : (msB S k j w).2.1 = S.2.1 := rfl
theorem msB3 : (msB S k j w).2.2.1 = S.2.2.1 := rfl
theorem msB4 : (msB S k j w).2.2.2 q i = if q = k ∧ i = j then w else S.2.2.2 q i := rfl
theorem msI1 : (msI S k v).1 q = if q = k then v else S.1 q := rfl
theorem msI2 : (msI S k v).2.1 = S.2.1 := rfl
theorem msI3 : (msI S k v).2.2.1 = S.2.2.1 := rfl
theorem msI4 : (msI S k v).2.2.2 = S.2.2.2 := rfl
theorem msL1 : (msL S k w).1 = S.1 := rfl
theorem msL2 : (msL S k w).2.1 q = if q = k then w else S.2.1 q := rfl
theorem msL3 : (msL S k w).2.2.1 = S.2.2.1 := rfl
theorem msL4 : (msL S k w).2.2.2 = S.2.2.2 := rfl
end MSP
/-- an int as a place -/
def tn (i : Int32) : Nat := i.toInt.toNat
theorem nI_tn {i : Int32} (h : 0 ≤ i.toInt) : i = nI (tn i) := by
  apply Int32.toInt_inj.mp
  have h2 := Int32.toInt_lt i
  have h3 : tn i < 2 ^ 31 := by unfold tn; omega
  rw [nI_toInt h3]
  unfold tn
  omega
theorem tn_nI {n : Nat} (h : n < 2 ^ 31) : tn (nI n) = n := by
  unfold tn
  rw [nI_toInt h]
  rfl
theorem tn_int {i : Int32} (h : 0 ≤ i.toInt) : (tn i : Int) = i.toInt := by
  unfold tn
  omega
theorem i32_pred {x : Int32} (h : 0 ≤ x.toInt) : (x - 1).toInt = x.toInt - 1 := by
  have h2 := Int32.toInt_lt x
  rw [Int32.toInt_sub]
  have e : (1 : Int32).toInt = 1 := rfl
  rw [e, Int.bmod_def]
  omega
theorem i32_lt {a b : Int32} : (a < b) = (a.toInt < b.toInt) := propext Int32.lt_iff_toInt_lt
theorem i32_le {a b : Int32} : (a ≤ b) = (a.toInt ≤ b.toInt) := propext Int32.le_iff_toInt_le
theorem mWithin_iff {a b c : Int} : mWithin a b c = true ↔ b ≤ a ∧ a ≤ c := by
  unfold mWithin
  simp
/-- the row that a slot holds -/
def mr (S : MS) (s : Nat) : Nat := tn (S.2.2.1 7 s)
theorem mRow_eq {S : MS} {s : Nat} (h : mRow S s = true) : S.2.2.1 7 s = nI (mr S s) ∧ mr S s < 10 := by
  unfold mRow at h
  simp only [Bool.and_eq_true, Bool.not_eq_true', decide_eq_false_iff_not, i32_lt, i32_le] at h
  obtain ⟨h1, h2⟩ := h
  have e0 : (0 : Int32).toInt = 0 := rfl
  have e10 : (10 : Int32).toInt = 10 := rfl
  rw [e0] at h1
  rw [e10] at h2
  refine ⟨nI_tn (by omega), ?_⟩
  unfold mr tn
  omega
theorem mRow_of {S : MS} {s r : Nat} (h : S.2.2.1 7 s = nI r) (hr : r < 10) : mRow S s = true ∧ mr S s = r := by
  have h1 : r < 2 ^ 31 := by omega
  refine ⟨?_, by unfold mr; rw [h, tn_nI h1]⟩
  unfold mRow
  have h2 : ¬ (10 : Int32) ≤ nI r := nI_ge (b := 10) hr (by decide)
  rw [h, decide_eq_false (nI_pos h1), decide_eq_false h2]
  rfl
/-- sizes are from 0 to 32 -/
def mZ (S : MS) : Prop := ∀ r, r < 10 → 0 ≤ (S.2.2.1 3 r).toInt ∧ (S.2.2.1 3 r).toInt ≤ 32
/-- the cells' numbers are such as their kinds have -/
def mV (S : MS) : Prop := ∀ q, q < 320 → okv (S.2.2.1 5 q) (S.2.2.2 6 q)
/-- a cell of a row of numbers is of the row's kind -/
def mKd (S : MS) : Prop := ∀ r p, r < 10 → p < 32 → S.2.2.1 2 r < 8 → S.2.2.1 5 (32 * r + p) = S.2.2.1 2 r
def mIn (S : MS) (r : Nat) (i : Int32) : Bool := mWithin i.toInt 0 (S.2.2.1 3 r - 1).toInt
theorem mIn_eq {S : MS} {r : Nat} {i : Int32} (hz : mZ S) (hr : r < 10) (h : mIn S r i = true) : i = nI (tn i) ∧ tn i < 32 ∧ (tn i : Int) < (S.2.2.1 3 r).toInt := by
  have h1 := mWithin_iff.mp h
  obtain ⟨z1, z2⟩ := hz r hr
  rw [i32_pred z1] at h1
  refine ⟨nI_tn h1.1, ?_, ?_⟩
  · unfold tn
    omega
  · rw [tn_int h1.1]
    omega
theorem nI_cell (r p : Nat) : (32 : Int32) * nI r + nI p = nI (32 * r + p) := by
  rw [show (32 : Int32) = nI 32 from rfl, pk_mul, nI_add]
/-- why a cell of a slot can't be read; 0 -/
def sRead (S : MS) (s : Nat) (i v : Int32) : Int32 := if S.2.2.1 7 s = -11 then -11 else if mRow S s = false then -12 else if v ≠ 8 ∧ 8 ≤ S.2.2.1 2 (mr S s) then -12 else if mIn S (mr S s) i = false then -13 else if v = 8 then 0 else if pMay (S.2.2.1 2 (mr S s)) v = false then -12 else 0
def sAt (S : MS) (s : Nat) (i : Int32) : Nat := 32 * mr S s + tn i
def sBk (S : MS) (s : Nat) (i v : Int32) : Int32 := if v = 8 then S.2.2.1 5 (sAt S s i) else v
def sBv (S : MS) (s : Nat) (i v : Int32) : Int64 := if v = 8 then S.2.2.2 6 (sAt S s i) else pView (S.2.2.1 2 (mr S s)) (S.2.2.2 6 (sAt S s i)) v
def mRd (S : MS) (s : Nat) (i v : Int32) : MS := if sRead S s i v = 0 then mIs S (sBk S s i v) (sBv S s i v) else S
theorem mIs_self (S : MS) : mIs S (S.1 0) (S.2.1 1) = S := by
  unfold mIs msL msI
  refine Prod.ext ?_ (Prod.ext ?_ rfl)
  · funext q
    dsimp only
    split
    · rename_i e
      rw [e]
    · rfl
  · funext q
    dsimp only
    split
    · rename_i e
      rw [e]
    · rfl
theorem mIs_mIs (S : MS) (a c : Int32) (b d : Int64) : mIs (mIs S a b) c d = mIs S c d := by
  unfold mIs msL msI
  refine Prod.ext ?_ (Prod.ext ?_ rfl)
  · funext q
    dsimp only
    split <;> rfl
  · funext q
    dsimp only
    split <;> rfl
theorem mRd_is (S : MS) (s : Nat) (i v : Int32) : ∃ a b, mRd S s i v = mIs S a b := by
  unfold mRd
  split
  · exact ⟨_, _, rfl⟩
  · exact ⟨_, _, (mIs_self S).symm⟩
section M5
variable {g : xG} {n kc ks mu s w q p : Nat} {S : MS} {h : xH} {i j k v : Int32} {u : Int64}
theorem row_okv (hv : mV S) (hk : mKd S) {r p : Nat} (hr : r < 10) (hp : p < 32) (h8 : S.2.2.1 2 r < 8) : okv (S.2.2.1 2 r) (S.2.2.2 6 (32 * r + p)) := by
  have := hv (32 * r + p) (by omega)
  rwa [hk r p hr hp h8] at this
theorem c173 (hs : s < 10) (hz : mZ S) (hv : mV S) (hk : mKd S) : X g 173 0 [.val (va_rf (some mu)), .val (.int (nI s)), .val (.int i), .val (.int v), .unset, .unset] [] (mH n kc ks mu S) = some (some (.int (sRead S s i v)), mH n kc ks mu (mRd S s i v)) := by
  unfold mRd sRead
  have a1 := xin_nI hs (n := 10) (by decide)
  have a2 := nI_clamp (lt31 hs (by decide))
  by_cases e1 : S.2.2.1 7 s = -11
  · simp only [x173_0, x173_1, x173_4, x173_5, x173_6, x173_8, x173_11, x173_13, x173_14, x173_15, x173_16, x173_19, x173_22, x173_23, x173_25, x173_28, x173_29, x173_32, x173_33, x173_36, x173_37, x173_38, x173_39, x173_41, x173_44, x173_46, x173_47, x173_48, x173_51, x173_52, x173_53, x173_55, x173_56, x173_57, x173_58, x173_59, x173_62, x173_64, x173_65, x173_66, x173_67, x173_68, x173_71, x173_74, x173_76, x173_77, x173_79, x173_81, x173_82, x173_83, x173_84, x173_86, x173_87, x173_89, x173_92, x173_93, x173_94, x173_97, x173_99, x173_100, x173_101, x173_104, x173_106, x173_107, x173_110, x173_111, x173_112, x173_113, x173_116, x173_118, x173_119, x173_120, x173_123, x173_126, x173_128, x173_129, x173_130, x173_131, x173_132, x173_135, x173_137, x173_138, x173_139, x173_142, x173_144, x173_145, x173_146, x173_149, x173_152, x173_153, mf_7, ml_7, a1, a2, e1, not_true_eq_false, if_false, Option.bind_some, Option.toList_some, Option.toList_none, List.cons_append, List.nil_append, Option.isSome_some, if_true, eq_self, or_true, true_or, xb_01, mcl_cl]
    rfl
  · by_cases e2 : mRow S s = false
    · skip
      simp only [x173_0, x173_1, x173_4, x173_5, x173_6, x173_8, x173_11, x173_13, x173_14, x173_15, x173_16, x173_19, x173_22, x173_23, x173_25, x173_28, x173_29, x173_32, x173_33, x173_36, x173_37, x173_38, x173_39, x173_41, x173_44, x173_46, x173_47, x173_48, x173_51, x173_52, x173_53, x173_55, x173_56, x173_57, x173_58, x173_59, x173_62, x173_64, x173_65, x173_66, x173_67, x173_68, x173_71, x173_74, x173_76, x173_77, x173_79, x173_81, x173_82, x173_83, x173_84, x173_86, x173_87, x173_89, x173_92, x173_93, x173_94, x173_97, x173_99, x173_100, x173_101, x173_104, x173_106, x173_107, x173_110, x173_111, x173_112, x173_113, x173_116, x173_118, x173_119, x173_120, x173_123, x173_126, x173_128, x173_129, x173_130, x173_131, x173_132, x173_135, x173_137, x173_138, x173_139, x173_142, x173_144, x173_145, x173_146, x173_149, x173_152, x173_153, mf_7, ml_7, a1, a2, e1, c165 hs, e2, xb_f, not_false_eq_true, if_false, Option.bind_some, Option.toList_some, Option.toList_none, List.cons_append, List.nil_append, Option.isSome_some, if_true, eq_self, or_true, true_or, xb_01, mcl_cl]
      rfl
    · have e2 : mRow S s = true := by simpa using e2
      obtain ⟨e3, hr⟩ := mRow_eq e2
      have b1 := xin_nI hr (n := 10) (by decide)
      have b2 := nI_clamp (lt31 hr (by decide))
      have e1' : ¬ nI (mr S s) = -11 := by rw [← e3]; exact e1
      unfold sBk sBv sAt
      generalize mr S s = r at *
      have ht : (true = false) = False := by simp
      have h10 : ((1 : Int32) = 0) = False := by simp
      by_cases e4 : v = 8
      · subst e4
        by_cases e5 : mIn S r i = false
        · skip
          have e6 : mWithin i.toInt 0 (S.2.2.1 3 r - 1).toInt = false := e5
          simp only [x173_0, x173_1, x173_4, x173_5, x173_6, x173_8, x173_11, x173_13, x173_14, x173_15, x173_16, x173_19, x173_22, x173_23, x173_25, x173_28, x173_29, x173_32, x173_33, x173_36, x173_37, x173_38, x173_39, x173_41, x173_44, x173_46, x173_47, x173_48, x173_51, x173_52, x173_53, x173_55, x173_56, x173_57, x173_58, x173_59, x173_62, x173_64, x173_65, x173_66, x173_67, x173_68, x173_71, x173_74, x173_76, x173_77, x173_79, x173_81, x173_82, x173_83, x173_84, x173_86, x173_87, x173_89, x173_92, x173_93, x173_94, x173_97, x173_99, x173_100, x173_101, x173_104, x173_106, x173_107, x173_110, x173_111, x173_112, x173_113, x173_116, x173_118, x173_119, x173_120, x173_123, x173_126, x173_128, x173_129, x173_130, x173_131, x173_132, x173_135, x173_137, x173_138, x173_139, x173_142, x173_144, x173_145, x173_146, x173_149, x173_152, x173_153, mf_7, ml_7, mf_3, ml_3, a1, a2, b1, b2, e1', e3, c165 hs, c154, e2, e5, xb_t, xb_f, i32_64, Int64.toInt_zero, ht, h10, e6, ne_eq, not_true_eq_false, not_false_eq_true, false_and, if_false, Option.bind_some, Option.toList_some, Option.toList_none, List.cons_append, List.nil_append, Option.isSome_some, if_true, eq_self, or_true, true_or, xb_01, mcl_cl]
          rfl
        · have e5 : mIn S r i = true := by simpa using e5
          have e6 : mWithin i.toInt 0 (S.2.2.1 3 r - 1).toInt = true := e5
          obtain ⟨e7, e8, _⟩ := mIn_eq hz hr e5
          have c1 : 32 * r + tn i < 320 := by omega
          rw [e7]
          have e9 := tn_nI (n := tn i) (by omega)
          rw [e9]
          rw [e7] at e5 e6
          simp only [x173_0, x173_1, x173_4, x173_5, x173_6, x173_8, x173_11, x173_13, x173_14, x173_15, x173_16, x173_19, x173_22, x173_23, x173_25, x173_28, x173_29, x173_32, x173_33, x173_36, x173_37, x173_38, x173_39, x173_41, x173_44, x173_46, x173_47, x173_48, x173_51, x173_52, x173_53, x173_55, x173_56, x173_57, x173_58, x173_59, x173_62, x173_64, x173_65, x173_66, x173_67, x173_68, x173_71, x173_74, x173_76, x173_77, x173_79, x173_81, x173_82, x173_83, x173_84, x173_86, x173_87, x173_89, x173_92, x173_93, x173_94, x173_97, x173_99, x173_100, x173_101, x173_104, x173_106, x173_107, x173_110, x173_111, x173_112, x173_113, x173_116, x173_118, x173_119, x173_120, x173_123, x173_126, x173_128, x173_129, x173_130, x173_131, x173_132, x173_135, x173_137, x173_138, x173_139, x173_142, x173_144, x173_145, x173_146, x173_149, x173_152, x173_153, mf_7, ml_7, mf_3, ml_3, mf_5, ml_5, mf_6, ml_6, a1, a2, b1, b2, e1', e3, c165 hs, c154, c155', e2, e5, xb_t, xb_f, i32_64, Int64.toInt_zero, ht, h10, e6, nI_cell, xin_nI c1 (by decide), nI_clamp (lt31 c1 (by decide)), ne_eq, not_true_eq_false, not_false_eq_true, false_and, if_false, Option.bind_some, Option.toList_some, Option.toList_none, List.cons_append, List.nil_append, Option.isSome_some, if_true, eq_self, or_true, true_or, xb_01, mcl_cl]
      · by_cases e5 : (8 : Int32) ≤ S.2.2.1 2 r
        · have e6 : ¬ S.2.2.1 2 r < 8 := Int32.not_lt.mpr e5
          simp only [x173_0, x173_1, x173_4, x173_5, x173_6, x173_8, x173_11, x173_13, x173_14, x173_15, x173_16, x173_19, x173_22, x173_23, x173_25, x173_28, x173_29, x173_32, x173_33, x173_36, x173_37, x173_38, x173_39, x173_41, x173_44, x173_46, x173_47, x173_48, x173_51, x173_52, x173_53, x173_55, x173_56, x173_57, x173_58, x173_59, x173_62, x173_64, x173_65, x173_66, x173_67, x173_68, x173_71, x173_74, x173_76, x173_77, x173_79, x173_81, x173_82, x173_83, x173_84, x173_86, x173_87, x173_89, x173_92, x173_93, x173_94, x173_97, x173_99, x173_100, x173_101, x173_104, x173_106, x173_107, x173_110, x173_111, x173_112, x173_113, x173_116, x173_118, x173_119, x173_120, x173_123, x173_126, x173_128, x173_129, x173_130, x173_131, x173_132, x173_135, x173_137, x173_138, x173_139, x173_142, x173_144, x173_145, x173_146, x173_149, x173_152, x173_153, mf_7, ml_7, mf_2, ml_2, a1, a2, b1, b2, e1', e3, c165 hs, e2, xb_t, ht, h10, e4, e5, e6, ne_eq, not_true_eq_false, not_false_eq_true, and_self, if_false, Option.bind_some, Option.toList_some, Option.toList_none, List.cons_append, List.nil_append, Option.isSome_some, if_true, eq_self, or_true, true_or, xb_01, mcl_cl]
          rfl
        · have e6 : S.2.2.1 2 r < 8 := Int32.not_le.mp e5
          by_cases e7 : mIn S r i = false
          · skip
            have e8 : mWithin i.toInt 0 (S.2.2.1 3 r - 1).toInt = false := e7
            simp only [x173_0, x173_1, x173_4, x173_5, x173_6, x173_8, x173_11, x173_13, x173_14, x173_15, x173_16, x173_19, x173_22, x173_23, x173_25, x173_28, x173_29, x173_32, x173_33, x173_36, x173_37, x173_38, x173_39, x173_41, x173_44, x173_46, x173_47, x173_48, x173_51, x173_52, x173_53, x173_55, x173_56, x173_57, x173_58, x173_59, x173_62, x173_64, x173_65, x173_66, x173_67, x173_68, x173_71, x173_74, x173_76, x173_77, x173_79, x173_81, x173_82, x173_83, x173_84, x173_86, x173_87, x173_89, x173_92, x173_93, x173_94, x173_97, x173_99, x173_100, x173_101, x173_104, x173_106, x173_107, x173_110, x173_111, x173_112, x173_113, x173_116, x173_118, x173_119, x173_120, x173_123, x173_126, x173_128, x173_129, x173_130, x173_131, x173_132, x173_135, x173_137, x173_138, x173_139, x173_142, x173_144, x173_145, x173_146, x173_149, x173_152, x173_153, mf_7, ml_7, mf_2, ml_2, mf_3, ml_3, a1, a2, b1, b2, e1', e3, c165 hs, c154, e2, xb_t, xb_f, i32_64, Int64.toInt_zero, ht, h10, e4, e5, e6, e7, e8, ne_eq, not_true_eq_false, not_false_eq_true, and_false, if_false, Option.bind_some, Option.toList_some, Option.toList_none, List.cons_append, List.nil_append, Option.isSome_some, if_true, eq_self, or_true, true_or, xb_01, mcl_cl]
            rfl
          · have e7 : mIn S r i = true := by simpa using e7
            have e8 : mWithin i.toInt 0 (S.2.2.1 3 r - 1).toInt = true := e7
            obtain ⟨z1, z2, _⟩ := mIn_eq hz hr e7
            have c1 : 32 * r + tn i < 320 := by omega
            rw [z1]
            have z9 := tn_nI (n := tn i) (by omega)
            rw [z9]
            rw [z1] at e7 e8
            have ho := row_okv hv hk hr z2 e6
            by_cases y1 : pMay (S.2.2.1 2 r) v = true
            · simp only [x173_0, x173_1, x173_4, x173_5, x173_6, x173_8, x173_11, x173_13, x173_14, x173_15, x173_16, x173_19, x173_22, x173_23, x173_25, x173_28, x173_29, x173_32, x173_33, x173_36, x173_37, x173_38, x173_39, x173_41, x173_44, x173_46, x173_47, x173_48, x173_51, x173_52, x173_53, x173_55, x173_56, x173_57, x173_58, x173_59, x173_62, x173_64, x173_65, x173_66, x173_67, x173_68, x173_71, x173_74, x173_76, x173_77, x173_79, x173_81, x173_82, x173_83, x173_84, x173_86, x173_87, x173_89, x173_92, x173_93, x173_94, x173_97, x173_99, x173_100, x173_101, x173_104, x173_106, x173_107, x173_110, x173_111, x173_112, x173_113, x173_116, x173_118, x173_119, x173_120, x173_123, x173_126, x173_128, x173_129, x173_130, x173_131, x173_132, x173_135, x173_137, x173_138, x173_139, x173_142, x173_144, x173_145, x173_146, x173_149, x173_152, x173_153, mf_7, ml_7, mf_2, ml_2, mf_3, ml_3, mf_5, ml_5, mf_6, ml_6, a1, a2, b1, b2, e1', e3, c165 hs, c154, c155', c158, d160 ho, e2, xb_t, xb_f, i32_64, Int64.toInt_zero, ht, h10, e4, e5, e6, e7, e8, y1, nI_cell, xin_nI c1 (by decide), nI_clamp (lt31 c1 (by decide)), ne_eq, not_true_eq_false, not_false_eq_true, and_false, if_false, Option.bind_some, Option.toList_some, Option.toList_none, List.cons_append, List.nil_append, Option.isSome_some, if_true, eq_self, or_true, true_or, xb_01, mcl_cl]
            · have y1 : pMay (S.2.2.1 2 r) v = false := by simpa using y1
              simp only [x173_0, x173_1, x173_4, x173_5, x173_6, x173_8, x173_11, x173_13, x173_14, x173_15, x173_16, x173_19, x173_22, x173_23, x173_25, x173_28, x173_29, x173_32, x173_33, x173_36, x173_37, x173_38, x173_39, x173_41, x173_44, x173_46, x173_47, x173_48, x173_51, x173_52, x173_53, x173_55, x173_56, x173_57, x173_58, x173_59, x173_62, x173_64, x173_65, x173_66, x173_67, x173_68, x173_71, x173_74, x173_76, x173_77, x173_79, x173_81, x173_82, x173_83, x173_84, x173_86, x173_87, x173_89, x173_92, x173_93, x173_94, x173_97, x173_99, x173_100, x173_101, x173_104, x173_106, x173_107, x173_110, x173_111, x173_112, x173_113, x173_116, x173_118, x173_119, x173_120, x173_123, x173_126, x173_128, x173_129, x173_130, x173_131, x173_132, x173_135, x173_137, x173_138, x173_139, x173_142, x173_144, x173_145, x173_146, x173_149, x173_152, x173_153, mf_7, ml_7, mf_2, ml_2, mf_3, ml_3, mf_5, ml_5, mf_6, ml_6, a1, a2, b1, b2, e1', e3, c165 hs, c154, c155', c158, e2, xb_t, xb_f, i32_64, Int64.toInt_zero, ht, h10, e4, e5, e6, e7, e8, y1, nI_cell, xin_nI c1 (by decide), nI_clamp (lt31 c1 (by decide)), ne_eq, not_true_eq_false, not_false_eq_true, and_false, if_false, Option.bind_some, Option.toList_some, Option.toList_none, List.cons_append, List.nil_append, Option.isSome_some, if_true, eq_self, or_true, true_or, xb_01, mcl_cl]
              rfl
end M5
