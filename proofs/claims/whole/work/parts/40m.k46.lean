/-! THE CLASS beside the reference, 33: spelled -/
section K46
variable {g : xG} {n kc ks a b c s t w q l x y jn d r p n' e kb n1 kc1 ks1 m N r0 pp : Nat} {G T U G1 G2 : GS} {h : xH} {i j k v i1 i2 x7 x8 kk : Int32} {u z : Int64} {S S1 S' V W : MS} {ρ κ ρ' : Nat → Nat} {L L' : List Nat} {o : Option Nat} {tx : List Int32}
/-- a paper that bears some letters -/
def spl (T G : GS) (pp : Nat) (tx : List Int32) : Prop := T.1 = G.1 ∧ T.2.1 = G.2.1 ∧ T.2.2.2.1 = G.2.2.2.1 ∧ T.2.2.2.2 = G.2.2.2.2 ∧ (∀ q, q ≠ pp → q ≠ pp + 1 → q ≠ pp + 2 → T.2.2.1 q = G.2.2.1 q) ∧ T.2.2.1 pp 2 = nI tx.length ∧ ∀ e, e < tx.length → T.2.2.1 (pp + 1) e = tx.getD e 0
/-- where a paper lies -/
def pL (G : GS) (pp : Nat) : Prop := G.1 pp = 26 ∧ (G.1 (pp + 1) = 27 ∧ G.2.1 (pp + 1) = 673) ∧ (G.1 (pp + 2) = 28 ∧ G.2.1 (pp + 2) = 19)
theorem spl_60 (hL : pL G pp) (hs : spl T G pp tx) (hl : tx.length < 673) (hx : k.toInt8.toInt32 = k) : ∃ T', X g 60 0 [.val (va_rf (some pp)), .val (.int k)] [] (gH n kc ks T) = some (none, gH n kc ks T') ∧ spl T' G pp (tx ++ [k]) ∧ T'.2.2.1 (pp + 2) = T.2.2.1 (pp + 2) := by
  obtain ⟨l1, ⟨l2, l3⟩, l4, l5⟩ := hL
  obtain ⟨s1, s2, s3, s4, s5, s6, s7⟩ := hs
  have r1 : T.1 pp = 26 := by rw [s1]; exact l1
  have r2 : T.1 (pp + 1) = 27 := by rw [s1]; exact l2
  have r3 : T.2.1 (pp + 1) = 673 := by rw [s2]; exact l3
  have c1 : ¬ nI tx.length < 0 := nI_pos (by omega)
  have c2 : ¬ nI 673 ≤ nI tx.length := nI_ge hl (by decide)
  have hxi : xin (nI tx.length) 673 = true := xin_nI hl (by decide)
  have hc : (nI tx.length).toNatClampNeg = tx.length := nI_clamp (by omega)
  have q1 : (gsI T (pp + 1) tx.length k).1 pp = 26 := r1
  have q2 : (gsI T (pp + 1) tx.length k).2.2.1 pp 2 = nI tx.length := by rw [gsI3, if_neg (by omega)]; exact s6
  refine ⟨gsI (gsI T (pp + 1) tx.length k) pp 2 (nI (tx.length + 1)), ?_, ⟨s1, s2, s3, s4, fun q h1 h2 h3 => ?_, ?_, fun e he => ?_⟩, ?_⟩
  · simp only [x60_0, x60_1, x60_4, x60_7, x60_8, x60_11, x60_12, x60_15, x60_16, x60_19, x60_20, x60_23, x60_24, x60_27, x60_28, x60_29, x60_30, x60_31, x60_32, x60_35, x60_36, x60_37, x60_40, gf_26_2 r1, s6, c1, gf_26_0 r1, gN_27 r2, r3, c2, gs_27 r2, hxi, hc, hx, gf_26_2 q1, q2, gp_26_2 q1, nI_1, Option.isSome_some, Option.bind_some, Option.toList_some, Option.toList_none, List.cons_append, List.nil_append, Option.isSome_some, if_true, eq_self, or_true, true_or, xb_01, mcl_cl, not_true_eq_false, not_false_eq_true, if_false]
  · funext t
    rw [gsI3, if_neg (fun z => h1 z.1), gsI3, if_neg (fun z => h2 z.1), s5 q h1 h2 h3]
  · rw [gsI3, if_pos ⟨rfl, rfl⟩, List.length_append]
    rfl
  · rw [List.length_append] at he
    rw [gsI3, if_neg (by omega), gsI3]
    by_cases c : e = tx.length
    · rw [if_pos ⟨rfl, c⟩, c]
      simp
    · have he' : e < tx.length := by
        have : [k].length = 1 := rfl
        omega
      rw [if_neg (fun z => c z.2), s7 e he']
      simp [List.getD_eq_getElem?_getD, List.getElem?_append_left he']
  · funext t
    rw [gsI3, if_neg (by omega), gsI3, if_neg (by omega)]
theorem i64_remv (x : Int64) : (x - x / 10 * 10).toInt = x.toInt.tmod 10 := by
  have h1 := Int64.toInt_lt x
  have h2 := Int64.le_toInt x
  have e : (10 : Int64).toInt = 10 := rfl
  have h3 := Int.tmod_add_mul_tdiv x.toInt 10
  have h4 : (x.toInt.tmod 10).natAbs = x.toInt.natAbs % 10 := Int.natAbs_tmod ..
  have h5 : x.toInt.natAbs % 10 < 10 := Nat.mod_lt _ (by decide)
  have h8 : (x.toInt.tdiv 10).natAbs = x.toInt.natAbs / 10 := Int.natAbs_tdiv ..
  have h6 : (x / 10 * 10).toInt = x.toInt.tdiv 10 * 10 := by
    rw [Int64.toInt_mul, i64_tdiv, e]
    generalize x.toInt.tdiv 10 = D at h8
    generalize x.toInt = Y at h1 h2 h8
    apply i64_bm <;> omega
  rw [Int64.toInt_sub, h6]
  have h9 : x.toInt - x.toInt.tdiv 10 * 10 = x.toInt.tmod 10 := by
    generalize x.toInt.tdiv 10 = D at h3
    generalize x.toInt.tmod 10 = M at h3
    omega
  rw [h9]
  generalize x.toInt.tmod 10 = M at h4
  apply i64_bm <;> omega
theorem fig_ok : ∀ d, d < 10 → ((48 : Int32) + nI d).toInt8.toInt32 = 48 + nI d ∧ (((48 : Int32) + nI d).toUInt32 % 65536).toInt32 = 48 + nI d ∧ ((48 : Int32) + nI d).toInt = 48 + d := by decide +kernel
theorem fig59 (hu : u.toInt ≤ 0) : ((48 : Int64) - (u - u / 10 * 10)).toInt32 = 48 + nI (u.toInt.natAbs % 10) := by
  have h1 := i64_remv u
  have h2 : (u.toInt.tmod 10).natAbs = u.toInt.natAbs % 10 := Int.natAbs_tmod ..
  have h3 : u.toInt.natAbs % 10 < 10 := Nat.mod_lt _ (by decide)
  have h4 : u.toInt.tmod 10 ≤ 0 := by
    have e2 : u.toInt = -(-u.toInt) := by omega
    rw [e2, Int.neg_tmod]
    have := Int.tmod_nonneg 10 (show 0 ≤ -u.toInt by omega)
    omega
  have h5 : ((48 : Int64) - (u - u / 10 * 10)).toInt = 48 + (u.toInt.natAbs % 10 : Nat) := by
    rw [Int64.toInt_sub, h1, show (48 : Int64).toInt = 48 from rfl]
    generalize u.toInt.tmod 10 = M at *
    rw [i64_bm (by omega) (by omega)]
    omega
  apply Int32.toInt_inj.mp
  rw [Int64.toInt_toInt32, h5, (fig_ok _ h3).2.2]
  generalize u.toInt.natAbs % 10 = D at *
  rw [Int.bmod_def]
  omega
theorem i64_0 (h : u.toInt.natAbs / 10 = 0) : u / 10 = 0 := by
  apply Int64.toInt_inj.mp
  have := i64_abs u
  rw [h] at this
  rw [Int.natAbs_eq_zero.mp this]
  rfl
theorem i64_np (h : u.toInt ≤ 0) : (u / 10).toInt ≤ 0 := by
  rw [i64_tdiv]
  have e2 : u.toInt = -(-u.toInt) := by omega
  rw [e2, Int.neg_tdiv]
  have := Int.tdiv_nonneg (show 0 ≤ -u.toInt by omega) (show (0 : Int) ≤ 10 by decide)
  omega
theorem gs28_spl (hL : pL G pp) (hs : spl T G pp tx) : spl (gsI T (pp + 2) q k) G pp tx := by
  obtain ⟨s1, s2, s3, s4, s5, s6, s7⟩ := hs
  refine ⟨s1, s2, s3, s4, fun q' h1 h2 h3 => ?_, ?_, fun e he => ?_⟩
  · funext t
    rw [gsI3, if_neg (fun z => h3 z.1), s5 q' h1 h2 h3]
  · rw [gsI3, if_neg (by omega)]
    exact s6
  · rw [gsI3, if_neg (by omega)]
    exact s7 e he
theorem l59a (hL : pL G pp) {z : Int64} : ∀ f c (u : Int64) (T : GS), f + 1 ≤ c → c ≤ 19 → u.toInt ≤ 0 → u.toInt.natAbs < 10 ^ (f + 1) → spl T G pp tx → ∃ T', X g 59 32 [.val (va_rf (some pp)), .val (.long z), .second, .val (.long u), .second, .val (.int (nI c)), .unset] [] (gH n kc ks T) = X g 59 70 [.val (va_rf (some pp)), .val (.long z), .second, .val (.long 0), .second, .val (.int (nI (c - (dgs (f + 1) u.toInt.natAbs).length))), .unset] [] (gH n kc ks T') ∧ spl T' G pp tx ∧ (∀ x, c ≤ x → T'.2.2.1 (pp + 2) x = T.2.2.1 (pp + 2) x) ∧ ∀ x, x < (dgs (f + 1) u.toInt.natAbs).length → T'.2.2.1 (pp + 2) (c - 1 - x) = (dgs (f + 1) u.toInt.natAbs).getD x 0 := by
  intro f
  induction f with
  | zero =>
    intro c u T hf hc hu hb hs
    have h0 : u.toInt.natAbs / 10 = 0 := by omega
    have hz := i64_0 h0
    have hd : u.toInt.natAbs % 10 < 10 := Nat.mod_lt _ (by decide)
    have e1 : dgs (0 + 1) u.toInt.natAbs = [48 + nI (u.toInt.natAbs % 10)] := by simp [dgs, h0]
    have r1 : T.1 pp = 26 := by rw [hs.1]; exact hL.1
    have r2 : T.1 (pp + 2) = 28 := by rw [hs.1]; exact hL.2.2.1
    have r3 : T.2.1 (pp + 2) = 19 := by rw [hs.2.1]; exact hL.2.2.2
    have hx : xin (nI (c - 1)) 19 = true := xin_nI (by omega) (by decide)
    have hcl : (nI (c - 1)).toNatClampNeg = c - 1 := nI_clamp (by omega)
    have hdec : nI c + -1 = nI (c - 1) := by
      have := nI_dec (c - 1)
      rw [show c - 1 + 1 = c by omega] at this
      exact this
    have ne : ¬ (10 : Int64) = 0 := by decide
    have hfig := fig59 hu
    obtain ⟨f1, f2, f3⟩ := fig_ok _ hd
    refine ⟨gsI T (pp + 2) (c - 1) (48 + nI (u.toInt.natAbs % 10)), ?_, gs28_spl hL hs, fun x hx => ?_, fun x hx => ?_⟩
    · rw [e1, show [(48 : Int32) + nI (u.toInt.natAbs % 10)].length = 1 from rfl]
      rw [hz] at hfig
      simp only [x59_32, x59_35, x59_36, x59_39, x59_41, x59_44, x59_45, x59_48, x59_49, x59_50, x59_51, x59_52, x59_53, x59_54, x59_57, x59_58, x59_59, x59_60, x59_61, x59_62, x59_65, hdec, gf_26_1 r1, x59_48 ne, x59_57 ne, hfig, f1, gs_28 r2, r3, hx, hcl, lcmp_eq0, hz, Option.bind_some, Option.toList_some, Option.toList_none, List.cons_append, List.nil_append, Option.isSome_some, if_true, eq_self, or_true, true_or, xb_01, mcl_cl, not_true_eq_false, not_false_eq_true, if_false]
    · rw [gsI3, if_neg (by omega)]
    · rw [e1] at hx ⊢
      have : x = 0 := by
        have : [(48 : Int32) + nI (u.toInt.natAbs % 10)].length = 1 := rfl
        omega
      subst this
      rw [gsI3, if_pos ⟨rfl, by omega⟩]
      rfl
  | succ f ih =>
    intro c u T hf hc hu hb hs
    have hd : u.toInt.natAbs % 10 < 10 := Nat.mod_lt _ (by decide)
    have r1 : T.1 pp = 26 := by rw [hs.1]; exact hL.1
    have r2 : T.1 (pp + 2) = 28 := by rw [hs.1]; exact hL.2.2.1
    have r3 : T.2.1 (pp + 2) = 19 := by rw [hs.2.1]; exact hL.2.2.2
    have hx : xin (nI (c - 1)) 19 = true := xin_nI (by omega) (by decide)
    have hcl : (nI (c - 1)).toNatClampNeg = c - 1 := nI_clamp (by omega)
    have hdec : nI c + -1 = nI (c - 1) := by
      have := nI_dec (c - 1)
      rw [show c - 1 + 1 = c by omega] at this
      exact this
    have ne : ¬ (10 : Int64) = 0 := by decide
    have hfig := fig59 hu
    obtain ⟨f1, f2, f3⟩ := fig_ok _ hd
    by_cases h0 : u.toInt.natAbs / 10 = 0
    · have hz := i64_0 h0
      have e1 : dgs (f + 1 + 1) u.toInt.natAbs = [48 + nI (u.toInt.natAbs % 10)] := by rw [dgs, if_pos h0]
      refine ⟨gsI T (pp + 2) (c - 1) (48 + nI (u.toInt.natAbs % 10)), ?_, gs28_spl hL hs, fun x hx => ?_, fun x hx => ?_⟩
      · rw [e1, show [(48 : Int32) + nI (u.toInt.natAbs % 10)].length = 1 from rfl]
        rw [hz] at hfig
        simp only [x59_32, x59_35, x59_36, x59_39, x59_41, x59_44, x59_45, x59_48, x59_49, x59_50, x59_51, x59_52, x59_53, x59_54, x59_57, x59_58, x59_59, x59_60, x59_61, x59_62, x59_65, hdec, gf_26_1 r1, x59_48 ne, x59_57 ne, hfig, f1, gs_28 r2, r3, hx, hcl, lcmp_eq0, hz, Option.bind_some, Option.toList_some, Option.toList_none, List.cons_append, List.nil_append, Option.isSome_some, if_true, eq_self, or_true, true_or, xb_01, mcl_cl, not_true_eq_false, not_false_eq_true, if_false]
      · rw [gsI3, if_neg (by omega)]
      · rw [e1] at hx ⊢
        have : x = 0 := by
          have : [(48 : Int32) + nI (u.toInt.natAbs % 10)].length = 1 := rfl
          omega
        subst this
        rw [gsI3, if_pos ⟨rfl, by omega⟩]
        rfl
    · have e1 : dgs (f + 1 + 1) u.toInt.natAbs = (48 + nI (u.toInt.natAbs % 10)) :: dgs (f + 1) (u / 10).toInt.natAbs := by rw [dgs, if_neg h0, i64_abs]
      have hz : ¬ u / 10 = 0 := by
        intro z
        have := i64_abs u
        rw [z] at this
        exact h0 (by rw [← this]; rfl)
      have hpos : (0 : Int32) < nI (c - 1) := Int32.not_le.mp (nI_ge (a := 0) (b := c - 1) (by omega) (by omega))
      have hb2 : (u / 10).toInt.natAbs < 10 ^ (f + 1) := by
        rw [i64_abs]
        have : 10 ^ (f + 1 + 1) = 10 ^ (f + 1) * 10 := Nat.pow_succ ..
        omega
      obtain ⟨T', g1, g2, g3, g4⟩ := ih (c - 1) (u / 10) (gsI T (pp + 2) (c - 1) (48 + nI (u.toInt.natAbs % 10))) (by omega) (by omega) (i64_np hu) hb2 (gs28_spl hL hs)
      refine ⟨T', ?_, g2, fun x hx => ?_, fun x hx => ?_⟩
      · rw [e1, List.length_cons, show c - ((dgs (f + 1) (u / 10).toInt.natAbs).length + 1) = c - 1 - (dgs (f + 1) (u / 10).toInt.natAbs).length by omega]
        have hR := g1
        generalize X g 59 70 [.val (va_rf (some pp)), .val (.long z), .second, .val (.long 0), .second, .val (.int (nI (c - 1 - (dgs (f + 1) (u / 10).toInt.natAbs).length))), .unset] [] (gH n kc ks T') = R at *
        simp only [x59_32, x59_35, x59_36, x59_39, x59_41, x59_44, x59_45, x59_48, x59_49, x59_50, x59_51, x59_52, x59_53, x59_54, x59_57, x59_58, x59_59, x59_60, x59_61, x59_62, x59_65, hdec, gf_26_1 r1, x59_48 ne, x59_57 ne, hfig, f1, gs_28 r2, r3, hx, hcl, lcmp_eq0, hz, Option.bind_some, Option.toList_some, Option.toList_none, List.cons_append, List.nil_append, Option.isSome_some, if_true, eq_self, or_true, true_or, xb_01, mcl_cl, not_true_eq_false, not_false_eq_true, if_false]
        simp only [x59_67, hpos, if_true]
        exact hR
      · rw [g3 x (by omega), gsI3, if_neg (by omega)]
      · rw [e1] at hx ⊢
        cases x with
        | zero =>
          rw [Nat.sub_zero, g3 (c - 1) (by omega), gsI3, if_pos ⟨rfl, rfl⟩]
          rfl
        | succ x =>
          rw [List.length_cons] at hx
          rw [show c - 1 - (x + 1) = c - 1 - 1 - x by omega, g4 x (by omega)]
          simp
/-- a stretch of letters -/
def dl (F : Nat → Int32) : Nat → Nat → List Int32
  | _, 0 => []
  | k, m + 1 => F k :: dl F (k + 1) m
theorem dl_len {F : Nat → Int32} : ∀ m k, (dl F k m).length = m := by
  intro m
  induction m with
  | zero => intro k; rfl
  | succ m ih => intro k; rw [dl, List.length_cons, ih]
theorem dl_get {F : Nat → Int32} : ∀ m k x, x < m → (dl F k m).getD x 0 = F (k + x) := by
  intro m
  induction m with
  | zero => intro k x hx; omega
  | succ m ih =>
    intro k x hx
    rw [dl]
    cases x with
    | zero => rfl
    | succ x =>
      rw [List.getD_cons_succ, ih (k + 1) x (by omega), show k + 1 + x = k + (x + 1) by omega]
theorem dl_rev {F : Nat → Int32} {l : List Int32} (hl : l.length ≤ 19) (hF : ∀ x, x < l.length → F (19 - 1 - x) = l.getD x 0) : dl F (19 - l.length) l.length = l.reverse := by
  apply List.ext_getElem
  · rw [dl_len, List.length_reverse]
  · intro x h1 h2
    rw [dl_len] at h1
    have e1 := dl_get (F := F) l.length (19 - l.length) x h1
    rw [List.getD_eq_getElem?_getD, List.getElem?_eq_getElem (by rw [dl_len]; exact h1), Option.getD_some] at e1
    rw [e1, List.getElem_reverse, show 19 - l.length + x = 19 - 1 - (l.length - 1 - x) by omega, hF _ (by omega), List.getD_eq_getElem?_getD, List.getElem?_eq_getElem (by omega), Option.getD_some]
theorem l59b (hL : pL G pp) {F : Nat → Int32} {z1 z2 : Int64} (hF : ∀ x, x < 19 → (F x).toInt8.toInt32 = F x ∨ True) : ∀ m k (T : GS) (tx : List Int32), k + m = 19 → tx.length + m ≤ 673 → (∀ x, k ≤ x → x < 19 → (F x).toInt8.toInt32 = F x ∧ ((F x).toUInt32 % 65536).toInt32 = F x) → (∀ x, k ≤ x → x < 19 → T.2.2.1 (pp + 2) x = F x) → spl T G pp tx → ∃ T', X g 59 74 [.val (va_rf (some pp)), .val (.long z1), .second, .val (.long z2), .second, .val (.int i1), .val (.int (nI k))] [] (gH n kc ks T) = some (none, gH n kc ks T') ∧ spl T' G pp (tx ++ dl F k m) := by
  intro m
  induction m with
  | zero =>
    intro k T tx hk hl hf hT hs
    have r1 : T.1 pp = 26 := by rw [hs.1]; exact hL.1
    have r2 : T.1 (pp + 2) = 28 := by rw [hs.1]; exact hL.2.2.1
    have r3 : T.2.1 (pp + 2) = 19 := by rw [hs.2.1]; exact hL.2.2.2
    have c1 : nI 19 ≤ nI k := nI_le (by omega) (by omega)
    refine ⟨T, ?_, by rw [dl, List.append_nil]; exact hs⟩
    simp only [x59_74, x59_76, x59_77, x59_80, x59_81, x59_102, gf_26_1 r1, gN_28 r2, r3, c1, Option.bind_some, Option.toList_some, Option.toList_none, List.cons_append, List.nil_append, Option.isSome_some, if_true, eq_self, or_true, true_or, xb_01, mcl_cl, not_true_eq_false, not_false_eq_true, if_false]
  | succ m ih =>
    intro k T tx hk hl hf hT hs
    have r1 : T.1 pp = 26 := by rw [hs.1]; exact hL.1
    have r2 : T.1 (pp + 2) = 28 := by rw [hs.1]; exact hL.2.2.1
    have r3 : T.2.1 (pp + 2) = 19 := by rw [hs.2.1]; exact hL.2.2.2
    have c1 : ¬ nI 19 ≤ nI k := nI_ge (by omega) (by omega)
    have hx : xin (nI k) 19 = true := xin_nI (by omega) (by decide)
    have hcl : (nI k).toNatClampNeg = k := nI_clamp (by omega)
    obtain ⟨f1, f2⟩ := hf k (Nat.le_refl k) (by omega)
    have t1 := hT k (Nat.le_refl k) (by omega)
    obtain ⟨T1, h1, h2, h3⟩ := spl_60 (g := g) (n := n) (kc := kc) (ks := ks) hL hs (by omega) f1
    obtain ⟨T', g1, g2⟩ := ih (k + 1) T1 (tx ++ [F k]) (by omega) (by rw [List.length_append]; simp; omega) (fun x a b => hf x (by omega) b) (fun x a b => by rw [h3]; exact hT x (by omega) b) h2
    refine ⟨T', ?_, by rw [dl]; simpa using g2⟩
    have r1' : T.1 pp = 26 := r1
    simp only [x59_74, x59_76, x59_77, x59_80, x59_81, x59_84, x59_85, x59_86, x59_89, x59_91, x59_92, x59_93, x59_96, gf_26_1 r1, gN_28 r2, r3, c1, gl_28 r2, hx, hcl, t1, f2, gc_26 r1, h1, Option.bind_some, Option.toList_some, Option.toList_none, List.cons_append, List.nil_append, Option.isSome_some, if_true, eq_self, or_true, true_or, xb_01, mcl_cl, not_true_eq_false, not_false_eq_true, if_false]
    simp only [x59_96, x59_99, nI_1]
    exact g1
theorem dgs_fig : ∀ f a x, x < (dgs f a).length → ∃ d, d < 10 ∧ (dgs f a).getD x 0 = 48 + nI d := by
  intro f
  induction f with
  | zero => intro a x hx; exact absurd hx (by simp [dgs])
  | succ f ih =>
    intro a x hx
    rw [dgs] at hx ⊢
    cases x with
    | zero => exact ⟨a % 10, Nat.mod_lt _ (by decide), rfl⟩
    | succ x =>
      rw [List.getD_cons_succ]
      rw [List.length_cons] at hx
      by_cases c : a / 10 = 0
      · rw [if_pos c] at hx
        exact absurd hx (by simp)
      · rw [if_neg c] at hx ⊢
        exact ih _ x (by omega)
theorem spl_59 (hL : pL G pp) (hs : spl T G pp tx) (hl : tx.length + (sNum u).length ≤ 673) : ∃ T', X g 59 0 [.val (va_rf (some pp)), .val (.long u), .second, .unset, .unset, .unset, .unset] [] (gH n kc ks T) = some (none, gH n kc ks T') ∧ spl T' G pp (tx ++ sNum u) := by
  have lo := Int64.le_toInt u
  have hi := Int64.toInt_lt u
  have dlen := dgs_len 19 u.toInt.natAbs
  -- the digits, whichever sign
  have key : ∀ (T : GS) (tx : List Int32) (v : Int64), v.toInt ≤ 0 → v.toInt.natAbs = u.toInt.natAbs → spl T G pp tx → tx.length + (dgs 19 u.toInt.natAbs).length ≤ 673 → ∃ T', X g 59 32 [.val (va_rf (some pp)), .val (.long u), .second, .val (.long v), .second, .val (.int (nI 19)), .unset] [] (gH n kc ks T) = some (none, gH n kc ks T') ∧ spl T' G pp (tx ++ (dgs 19 u.toInt.natAbs).reverse) := by
    intro T tx v hv hva hs hl
    obtain ⟨T1, h1, h2, _, h4⟩ := l59a (g := g) (n := n) (kc := kc) (ks := ks) (tx := tx) hL (z := u) 18 19 v T (by omega) (by omega) hv (by rw [hva]; omega) hs
    rw [hva] at h1 h4
    have hpos : 19 - (dgs 19 u.toInt.natAbs).length + (dgs 19 u.toInt.natAbs).length = 19 := by omega
    have hget : ∀ x, 19 - (dgs 19 u.toInt.natAbs).length ≤ x → x < 19 → ∃ d, d < 10 ∧ T1.2.2.1 (pp + 2) x = 48 + nI d := by
      intro x hx1 hx2
      obtain ⟨d, d1, d2⟩ := dgs_fig 19 u.toInt.natAbs (18 - x) (by omega)
      refine ⟨d, d1, ?_⟩
      have h5 := h4 (18 - x) (show 18 - x < (dgs (18 + 1) u.toInt.natAbs).length by show 18 - x < (dgs 19 u.toInt.natAbs).length; omega)
      rw [show 19 - 1 - (18 - x) = x by omega] at h5
      rw [h5, ← d2]
    obtain ⟨T', g1, g2⟩ := l59b (g := g) (n := n) (kc := kc) (ks := ks) hL (F := T1.2.2.1 (pp + 2)) (z1 := u) (z2 := 0) (i1 := nI (19 - (dgs 19 u.toInt.natAbs).length)) (fun _ _ => Or.inr trivial) (dgs 19 u.toInt.natAbs).length (19 - (dgs 19 u.toInt.natAbs).length) T1 tx hpos hl (by
      intro x hx1 hx2
      obtain ⟨d, d1, d2⟩ := hget x hx1 hx2
      rw [d2]
      exact ⟨(fig_ok d d1).1, (fig_ok d d1).2.1⟩) (fun _ _ _ => rfl) h2
    rw [dl_rev dlen h4] at g2
    refine ⟨T', ?_, g2⟩
    rw [h1]
    simp only [x59_70, x59_72, Option.bind_some, Option.toList_some, Option.toList_none, List.cons_append, List.nil_append, Option.isSome_some, if_true, eq_self, or_true, true_or, xb_01, mcl_cl, not_true_eq_false, not_false_eq_true, if_false]
    exact g1
  unfold sNum at hl ⊢
  have r1 : T.1 pp = 26 := by rw [hs.1]; exact hL.1
  have n19 : nI 19 = 19 := rfl
  by_cases hneg : u.toInt < 0
  · rw [if_pos hneg] at hl ⊢
    rw [List.length_append, List.length_reverse] at hl
    have l1 : ([45] : List Int32).length = 1 := rfl
    obtain ⟨T1, h1, h2, h3⟩ := spl_60 (g := g) (n := n) (kc := kc) (ks := ks) (k := 45) hL hs (by omega) (by decide)
    have q1 : T1.1 pp = 26 := by rw [h2.1]; exact hL.1
    have q2 : T1.1 (pp + 2) = 28 := by rw [h2.1]; exact hL.2.2.1
    have q3 : T1.2.1 (pp + 2) = 19 := by rw [h2.2.1]; exact hL.2.2.2
    obtain ⟨T', g1, g2⟩ := key T1 (tx ++ [45]) u (by omega) rfl h2 (by rw [List.length_append, l1]; omega)
    refine ⟨T', ?_, by rw [← List.append_assoc]; exact g2⟩
    simp only [x59_0, x59_1, x59_2, x59_3, x59_6, x59_7, x59_9, x59_12, x59_13, x59_14, x59_15, x59_18, x59_19, x59_22, x59_23, x59_24, x59_25, x59_26, x59_29, x59_30, lcmp_ge0, Int64.toInt_zero, hneg, gc_26 r1, h1, gf_26_1 q1, gN_28 q2, q3, g1, Option.bind_some, Option.toList_some, Option.toList_none, List.cons_append, List.nil_append, Option.isSome_some, if_true, eq_self, or_true, true_or, xb_01, mcl_cl, not_true_eq_false, not_false_eq_true, if_false]
  · rw [if_neg hneg] at hl ⊢
    rw [List.nil_append, List.length_reverse] at hl
    rw [List.nil_append]
    have q2 : T.1 (pp + 2) = 28 := by rw [hs.1]; exact hL.2.2.1
    have q3 : T.2.1 (pp + 2) = 19 := by rw [hs.2.1]; exact hL.2.2.2
    have en : (-u).toInt = -u.toInt := by
      rw [Int64.toInt_neg, i64_bm (by omega) (by omega)]
    obtain ⟨T', g1, g2⟩ := key T tx (-u) (by rw [en]; omega) (by rw [en]; omega) hs hl
    refine ⟨T', ?_, g2⟩
    simp only [x59_0, x59_1, x59_2, x59_3, x59_6, x59_7, x59_9, x59_12, x59_13, x59_14, x59_15, x59_18, x59_19, x59_22, x59_23, x59_24, x59_25, x59_26, x59_29, x59_30, lcmp_ge0, Int64.toInt_zero, hneg, gf_26_1 r1, gN_28 q2, q3, g1, Option.bind_some, Option.toList_some, Option.toList_none, List.cons_append, List.nil_append, Option.isSome_some, if_true, eq_self, or_true, true_or, xb_01, mcl_cl, not_true_eq_false, not_false_eq_true, if_false]
theorem spl_58 (hL : pL G pp) (hs : spl T G pp tx) (hl : tx.length + (sCl k u).length ≤ 673) (hk : k.toInt ≤ 10) : ∃ T', X g 58 0 [.val (va_rf (some pp)), .val (.int k), .val (.long u), .second] [] (gH n kc ks T) = some (none, gH n kc ks T') ∧ spl T' G pp (tx ++ sCl k u) := by
  have r1 : T.1 pp = 26 := by rw [hs.1]; exact hL.1
  unfold sCl at hl ⊢
  by_cases k8 : k = 8
  · rw [if_pos k8] at hl ⊢
    have l1 : ([45] : List Int32).length = 1 := rfl
    obtain ⟨T1, h1, h2, h3⟩ := spl_60 (g := g) (n := n) (kc := kc) (ks := ks) (k := 45) hL hs (by omega) (by decide)
    refine ⟨T1, ?_, h2⟩
    simp only [x58_0, x58_1, x58_3, x58_6, x58_7, x58_9, x58_12, x58_13, x58_14, x58_16, x58_19, x58_20, x58_22, x58_25, x58_28, x58_29, x58_31, x58_34, x58_35, x58_37, x58_40, x58_41, x58_42, x58_45, k8, gc_26 r1, h1, Option.bind_some, Option.toList_some, Option.toList_none, List.cons_append, List.nil_append, Option.isSome_some, if_true, eq_self, or_true, true_or, xb_01, mcl_cl, not_true_eq_false, not_false_eq_true, if_false]
  · rw [if_neg k8] at hl ⊢
    by_cases c8 : 8 < k
    · rw [if_pos c8] at hl ⊢
      have k910 : k = 9 ∨ k = 10 := by
        rw [i32_lt, show (8 : Int32).toInt = 8 from rfl] at c8
        have : k.toInt = 9 ∨ k.toInt = 10 := by omega
        rcases this with h | h
        · exact Or.inl (Int32.toInt_inj.mp h)
        · exact Or.inr (Int32.toInt_inj.mp h)
      rw [List.length_append] at hl
      have l1 : ∀ x : Int32, [x].length = 1 := fun _ => rfl
      rw [l1] at hl
      rcases k910 with h | h
      · subst h
        rw [if_pos rfl]
        obtain ⟨T1, h1, h2, h3⟩ := spl_60 (g := g) (n := n) (kc := kc) (ks := ks) (k := 108) hL hs (by omega) (by decide)
        have q1 : T1.1 pp = 26 := by rw [h2.1]; exact hL.1
        obtain ⟨T', g1, g2⟩ := spl_59 (g := g) (n := n) (kc := kc) (ks := ks) (u := u) hL h2 (by rw [List.length_append, l1]; omega)
        refine ⟨T', ?_, by rw [← List.append_assoc]; exact g2⟩
        simp only [x58_0, x58_1, x58_3, x58_6, x58_7, x58_9, x58_12, x58_13, x58_14, x58_16, x58_19, x58_20, x58_22, x58_25, x58_28, x58_29, x58_31, x58_34, x58_35, x58_37, x58_40, x58_41, x58_42, x58_45, k8, gc_26 r1, h1, gc_26 q1, g1, Option.bind_some, Option.toList_some, Option.toList_none, List.cons_append, List.nil_append, Option.isSome_some, if_true, eq_self, or_true, true_or, xb_01, mcl_cl, not_true_eq_false, not_false_eq_true, if_false]
      · subst h
        rw [if_neg (by decide)]
        have n9 : ¬ (10 : Int32) = 9 := by decide
        obtain ⟨T1, h1, h2, h3⟩ := spl_60 (g := g) (n := n) (kc := kc) (ks := ks) (k := 119) hL hs (by omega) (by decide)
        have q1 : T1.1 pp = 26 := by rw [h2.1]; exact hL.1
        obtain ⟨T', g1, g2⟩ := spl_59 (g := g) (n := n) (kc := kc) (ks := ks) (u := u) hL h2 (by rw [List.length_append, l1]; omega)
        refine ⟨T', ?_, by rw [← List.append_assoc]; exact g2⟩
        simp only [x58_0, x58_1, x58_3, x58_6, x58_7, x58_9, x58_12, x58_13, x58_14, x58_16, x58_19, x58_20, x58_22, x58_25, x58_28, x58_29, x58_31, x58_34, x58_35, x58_37, x58_40, x58_41, x58_42, x58_45, k8, n9, gc_26 r1, h1, gc_26 q1, g1, Option.bind_some, Option.toList_some, Option.toList_none, List.cons_append, List.nil_append, Option.isSome_some, if_true, eq_self, or_true, true_or, xb_01, mcl_cl, not_true_eq_false, not_false_eq_true, if_false]
    · rw [if_neg c8] at hl ⊢
      rw [List.nil_append] at hl ⊢
      have n9 : ¬ k = 9 := by rintro rfl; exact c8 (by decide)
      have n10 : ¬ k = 10 := by rintro rfl; exact c8 (by decide)
      obtain ⟨T', g1, g2⟩ := spl_59 (g := g) (n := n) (kc := kc) (ks := ks) (u := u) hL hs hl
      refine ⟨T', ?_, g2⟩
      simp only [x58_0, x58_1, x58_3, x58_6, x58_7, x58_9, x58_12, x58_13, x58_14, x58_16, x58_19, x58_20, x58_22, x58_25, x58_28, x58_29, x58_31, x58_34, x58_35, x58_37, x58_40, x58_41, x58_42, x58_45, k8, n9, n10, gc_26 r1, g1, Option.bind_some, Option.toList_some, Option.toList_none, List.cons_append, List.nil_append, Option.isSome_some, if_true, eq_self, or_true, true_or, xb_01, mcl_cl, not_true_eq_false, not_false_eq_true, if_false]
theorem l57 (hL : pL G pp) (hw : gW G) (ha : G.1 a = 1) (hd : G.2.1 (a + 2) = d) {f : Nat → Int32} {F : Nat → Int64} (hf : ∀ p, p < d → G.2.2.1 (a + 1) p = f p ∧ G.2.2.2.1 (a + 2) p = F p ∧ (f p).toInt ≤ 10) : ∀ e p (T : GS) (tx : List Int32), p + e = d → tx.length + (sCls f F p e).length ≤ 673 → spl T G pp tx → ∃ T', X g 57 39 [.val (va_rf (some pp)), .val (va_rf (some a)), .val (.int (nI p))] [] (gH n kc ks T) = some (none, gH n kc ks T') ∧ spl T' G pp (tx ++ sCls f F p e) := by
  obtain ⟨w1, w2, w3, w4, w5, w6⟩ := hw.1 a ha
  have hd32 : d ≤ 32 := by rw [← hd]; exact w6
  have hpa : ∀ (T : GS) (tx : List Int32), spl T G pp tx → gW T ∧ T.1 a = 1 ∧ T.2.1 (a + 2) = d ∧ T.2.2.1 (a + 1) = G.2.2.1 (a + 1) ∧ T.2.2.2.1 = G.2.2.2.1 ∧ T.1 pp = 26 := by
    intro T tx hs
    refine ⟨gW_c hw hs.1 hs.2.1, by rw [hs.1]; exact ha, by rw [hs.2.1]; exact hd, hs.2.2.2.2.1 _ ?_ ?_ ?_, hs.2.2.1, by rw [hs.1]; exact hL.1⟩
    · intro z
      rw [z, hL.1] at w1
      exact absurd w1 (by decide)
    · intro z
      rw [z, hL.2.1.1] at w1
      exact absurd w1 (by decide)
    · intro z
      rw [z, hL.2.2.1] at w1
      exact absurd w1 (by decide)
  intro e
  induction e with
  | zero =>
    intro p T tx hp hl hs
    obtain ⟨t1, t2, t3, t4, t5, t6⟩ := hpa T tx hs
    have k65 := c65 (g := g) (n := n) (kc := kc) (ks := ks) t1 t2
    rw [t3] at k65
    have c1 : nI d ≤ nI p := nI_le (by omega) (by omega)
    refine ⟨T, ?_, by rw [sCls, List.append_nil]; exact hs⟩
    simp only [x57_39, x57_40, x57_41, x57_44, x57_73, gc_1 t2, k65, c1, Option.bind_some, Option.toList_some, Option.toList_none, List.cons_append, List.nil_append, Option.isSome_some, if_true, eq_self, or_true, true_or, xb_01, mcl_cl, not_true_eq_false, not_false_eq_true, if_false]
  | succ e ih =>
    intro p T tx hp hl hs
    obtain ⟨t1, t2, t3, t4, t5, t6⟩ := hpa T tx hs
    have k65 := c65 (g := g) (n := n) (kc := kc) (ks := ks) t1 t2
    rw [t3] at k65
    have c1 : ¬ nI d ≤ nI p := nI_ge (by omega) (by omega)
    obtain ⟨f1, f2, f3⟩ := hf p (by omega)
    rw [sCls, List.length_cons, List.length_append] at hl
    have l1 : ([32] : List Int32).length = 1 := rfl
    obtain ⟨T1, h1, h2, h3⟩ := spl_60 (g := g) (n := n) (kc := kc) (ks := ks) (k := 32) hL hs (by omega) (by decide)
    obtain ⟨u1, u2, u3, u4, u5, u6⟩ := hpa T1 _ h2
    have hx : xin (nI p) d = true := xin_nI (by omega) (by omega)
    have tp : tn (nI p) = p := tn_nI (by omega)
    have k67 := c67 (g := g) (n := n) (kc := kc) (ks := ks) (i := nI p) u1 u2
    have k68 := c68 (g := g) (n := n) (kc := kc) (ks := ks) (i := nI p) u1 u2
    rw [u3, if_pos hx, tp, u4, f1] at k67
    rw [u3, if_pos hx, tp, u5, f2] at k68
    obtain ⟨T2, g1, g2⟩ := spl_58 (g := g) (n := n) (kc := kc) (ks := ks) (k := f p) (u := F p) hL h2 (by rw [List.length_append, l1]; omega) f3
    obtain ⟨T', i1, i2⟩ := ih (p + 1) T2 (tx ++ [32] ++ sCl (f p) (F p)) (by omega) (by rw [List.length_append, List.length_append, l1]; omega) g2
    refine ⟨T', ?_, by rw [sCls]; simpa using i2⟩
    simp only [x57_39, x57_40, x57_41, x57_44, x57_47, x57_48, x57_50, x57_53, x57_54, x57_55, x57_56, x57_59, x57_60, x57_61, x57_64, x57_67, gc_1 t2, k65, c1, gc_26 t6, h1, gc_1 u2, k67, k68, gc_26 u6, g1, Option.bind_some, Option.toList_some, Option.toList_none, List.cons_append, List.nil_append, Option.isSome_some, if_true, eq_self, or_true, true_or, xb_01, mcl_cl, not_true_eq_false, not_false_eq_true, if_false]
    simp only [x57_67, x57_70, nI_1]
    exact i1
theorem dgs_le : ∀ m a, a < 10 ^ (m + 1) → ∀ f, (dgs f a).length ≤ m + 1 := by
  intro m
  induction m with
  | zero =>
    intro a ha f
    cases f with
    | zero => simp [dgs]
    | succ f =>
      rw [dgs, if_pos (by omega)]
      simp
  | succ m ih =>
    intro a ha f
    cases f with
    | zero => simp [dgs]
    | succ f =>
      rw [dgs]
      split
      · simp
      · have hp : 10 ^ (m + 1 + 1) = 10 ^ (m + 1) * 10 := Nat.pow_succ ..
        have := ih (a / 10) (by omega) f
        rw [List.length_cons]
        omega
theorem sCl_20 (h : okl k u) (hk : k.toInt ≤ 10) : (sCl k u).length ≤ 20 := by
  obtain ⟨h0, h9, h10, _⟩ := h
  have hs := sNum_len u
  unfold sCl
  by_cases k8 : k = 8
  · rw [if_pos k8]
    simp
  · rw [if_neg k8]
    by_cases c8 : 8 < k
    · rw [if_pos c8, List.length_append]
      have l1 : ∀ x : Int32, [x].length = 1 := fun _ => rfl
      rw [l1]
      have small : u.toInt.natAbs < 10 ^ (9 + 1) := by
        rw [i32_lt, show (8 : Int32).toInt = 8 from rfl] at c8
        have : k.toInt = 9 ∨ k.toInt = 10 := by omega
        rcases this with h | h
        · have e := h9 (Int32.toInt_inj.mp h)
          rw [e, Int32.toInt_toInt64]
          have b1 := Int32.le_toInt u.toInt32
          have b2 := Int32.toInt_lt u.toInt32
          omega
        · have e := h10 (Int32.toInt_inj.mp h)
          omega
      have h3 := dgs_le 9 _ small 19
      unfold sNum
      rw [List.length_append, List.length_reverse]
      split
      · rw [l1]; omega
      · simp; omega
    · rw [if_neg c8, List.nil_append]
      exact hs
theorem sCls_21 {f : Nat → Int32} {F : Nat → Int64} : ∀ d p, (∀ x, p ≤ x → x < p + d → okl (f x) (F x) ∧ (f x).toInt ≤ 10) → (sCls f F p d).length ≤ 21 * d := by
  intro d
  induction d with
  | zero => intro p _; exact Nat.le_refl _
  | succ d ih =>
    intro p hx
    rw [sCls, List.length_cons, List.length_append]
    have h1 := ih (p + 1) (fun x a b => hx x (by omega) (by omega))
    have h2 := sCl_20 (hx p (by omega) (by omega)).1 (hx p (by omega) (by omega)).2
    omega
end K46
