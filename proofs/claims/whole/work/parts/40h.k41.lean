/-! THE CLASS beside the reference, 28: a row made; acts forgotten -/
section K41
variable {g : xG} {n kc ks a b c s t w q l x y jn d r p n' e kb n1 kc1 ks1 m N : Nat} {G T U G1 : GS} {h : xH} {i j k v i1 i2 : Int32} {u z : Int64} {S S1 S' V : MS} {ρ κ : Nat → Nat} {L L' : List Nat}
/-- a row as it comes, some cells' kinds laid -/
def rRaw (G : GS) (n : Nat) (k kk : Int32) (l m : Nat) : GS := (fun q => if q = n then 37 else if q = n + 1 then 2 else if q = n + 2 then 3 else if q = n + 3 then 4 else G.1 q, fun q => if q = n then 0 else if q = n + 1 ∨ q = n + 2 ∨ q = n + 3 then l else G.2.1 q, fun q e => if q = n then (if e = 0 then k else 0) else if q = n + 1 then (if e < m then kk else 0) else if q = n + 2 ∨ q = n + 3 then 0 else G.2.2.1 q e, fun q e => if n ≤ q ∧ q ≤ n + 3 then 0 else G.2.2.2.1 q e, fun q e => if q = n then (if e = 1 ∨ e = 2 ∨ e = 3 then some (n + e) else none) else if n ≤ q ∧ q ≤ n + 3 then none else G.2.2.2.2 q e)
def rMk (G : GS) (n : Nat) (k kk : Int32) (l : Nat) : GS := grol (rRaw G n k kk l l) n 1
theorem rRaw_0 {kk : Int32} : gsR (gnew (gsR (gnew (gsR (gnew (gsI (gnew G n 37 0) n 0 k) (n + 1) 2 l) n 1 (some (n + 1))) (n + 2) 3 l) n 2 (some (n + 2))) (n + 3) 4 l) n 3 (some (n + 3)) = rRaw G n k kk l 0 := by
  refine Prod.ext ?_ (Prod.ext ?_ (Prod.ext ?_ (Prod.ext ?_ ?_)))
  · funext q
    show (if q = n + 3 then 4 else if q = n + 2 then 3 else if q = n + 1 then 2 else if q = n then 37 else G.1 q) = if q = n then 37 else if q = n + 1 then 2 else if q = n + 2 then 3 else if q = n + 3 then 4 else G.1 q
    by_cases c0 : q = n
    · subst c0; simp
    · by_cases c1 : q = n + 1
      · subst c1; simp
      · by_cases c2 : q = n + 2
        · subst c2; simp
        · by_cases c3 : q = n + 3
          · subst c3; simp
          · simp [c0, c1, c2, c3]
  · funext q
    show (if q = n + 3 then l else if q = n + 2 then l else if q = n + 1 then l else if q = n then 0 else G.2.1 q) = if q = n then 0 else if q = n + 1 ∨ q = n + 2 ∨ q = n + 3 then l else G.2.1 q
    by_cases c0 : q = n
    · subst c0; simp
    · by_cases c1 : q = n + 1
      · subst c1; simp
      · by_cases c2 : q = n + 2
        · subst c2; simp
        · by_cases c3 : q = n + 3
          · subst c3; simp
          · simp [c0, c1, c2, c3]
  · funext q e
    show (if q = n + 3 then 0 else if q = n + 2 then 0 else if q = n + 1 then 0 else if q = n ∧ e = 0 then k else if q = n then 0 else G.2.2.1 q e) = if q = n then (if e = 0 then k else 0) else if q = n + 1 then (if e < 0 then kk else 0) else if q = n + 2 ∨ q = n + 3 then 0 else G.2.2.1 q e
    by_cases c0 : q = n
    · subst c0; simp
    · by_cases c1 : q = n + 1
      · subst c1; simp
      · by_cases c2 : q = n + 2
        · subst c2; simp
        · by_cases c3 : q = n + 3
          · subst c3; simp
          · simp [c0, c1, c2, c3]
  · funext q e
    show (if q = n + 3 then 0 else if q = n + 2 then 0 else if q = n + 1 then 0 else if q = n then 0 else G.2.2.2.1 q e) = if n ≤ q ∧ q ≤ n + 3 then 0 else G.2.2.2.1 q e
    by_cases cc : n ≤ q ∧ q ≤ n + 3
    · rw [if_pos cc]
      have : q = n + 3 ∨ q = n + 2 ∨ q = n + 1 ∨ q = n := by omega
      rcases this with h | h | h | h <;> subst h <;> simp
    · rw [if_neg cc, if_neg (by omega), if_neg (by omega), if_neg (by omega), if_neg (by omega)]
  · funext q e
    show (if q = n ∧ e = 3 then some (n + 3) else if q = n + 3 then none else if q = n ∧ e = 2 then some (n + 2) else if q = n + 2 then none else if q = n ∧ e = 1 then some (n + 1) else if q = n + 1 then none else if q = n then none else G.2.2.2.2 q e) = if q = n then (if e = 1 ∨ e = 2 ∨ e = 3 then some (n + e) else none) else if n ≤ q ∧ q ≤ n + 3 then none else G.2.2.2.2 q e
    by_cases c0 : q = n
    · subst c0
      by_cases e3 : e = 3
      · subst e3; simp
      · by_cases e2 : e = 2
        · subst e2; simp
        · by_cases e1 : e = 1
          · subst e1; simp
          · simp [e1, e2, e3]
    · rw [if_neg (fun z => c0 z.1), if_neg c0]
      by_cases cc : n ≤ q ∧ q ≤ n + 3
      · rw [if_pos cc]
        have : q = n + 3 ∨ q = n + 2 ∨ q = n + 1 := by omega
        rcases this with h | h | h <;> subst h <;> simp
      · rw [if_neg cc, if_neg (by omega), if_neg (by omega), if_neg (by omega), if_neg (by omega), if_neg (by omega), if_neg (by omega)]
theorem rRaw_s {kk : Int32} : gsI (rRaw G n k kk l m) (n + 1) m kk = rRaw G n k kk l (m + 1) := by
  refine Prod.ext rfl (Prod.ext rfl (Prod.ext ?_ (Prod.ext rfl rfl)))
  funext q e
  show (if q = n + 1 ∧ e = m then kk else if q = n then (if e = 0 then k else 0) else if q = n + 1 then (if e < m then kk else 0) else if q = n + 2 ∨ q = n + 3 then 0 else G.2.2.1 q e) = if q = n then (if e = 0 then k else 0) else if q = n + 1 then (if e < m + 1 then kk else 0) else if q = n + 2 ∨ q = n + 3 then 0 else G.2.2.1 q e
  by_cases c1 : q = n + 1
  · subst c1
    by_cases c2 : e = m
    · subst c2
      simp
    · have n1 : ¬ n + 1 = n := by omega
      have h1 : (e < m + 1) = (e < m) := by
        apply propext
        omega
      simp [c2, n1, h1]
  · rw [if_neg (fun z => c1 z.1), if_neg c1, if_neg c1]
theorem rMk_eq {kk : Int32} : gH N kc ks (rRaw G n k kk l l) = gH N kc ks (rMk G n k kk l) := by
  refine gr_gen ?_
  have r1 : (rRaw G n k kk l l).1 n = 37 := if_pos rfl
  have r2 : (grol (rRaw G n k kk l l) n 1).1 n = 1 := if_pos rfl
  have r3 : ∀ e, (rRaw G n k kk l l).2.2.2.2 n e = if e = 1 ∨ e = 2 ∨ e = 3 then some (n + e) else none := fun e => if_pos rfl
  unfold gcl gfs
  rw [r1, r2]
  show some (Sum.inr (7, (List.range 4).map _)) = some (Sum.inr (7, (List.range 4).map _))
  simp [List.range_succ, gval, fd, r3, grol]
theorem gn_37' : xnew (gH n kc ks G) (.inr (7, [.int 0, va_rf none, va_rf none, va_rf none])) 4 = gH (n + 1) (kc + 1) (ks + 4) (gnew G n 37 0) := gn_37
theorem l64 {kk : Int32} (hl : l ≤ 32) : ∀ d m, m + d = l → X g 64 53 [.val (va_rf (some n)), .val (.int i1), .val (.int i2), .val (.int (nI l)), .val (.int kk), .val (.int (nI m))] [] (gH N kc ks (rRaw G n k kk l m)) = some (none, gH N kc ks (rRaw G n k kk l l)) := by
  intro d
  induction d with
  | zero =>
    intro m hm
    have e : m = l := by omega
    subst e
    have h1 : nI m ≤ nI m := Int32.le_refl _
    simp only [x64_53, x64_55, x64_56, x64_59, x64_60, x64_63, x64_65, x64_67, x64_68, x64_74, h1, Option.bind_some, Option.toList_some, Option.toList_none, List.cons_append, List.nil_append, Option.isSome_some, if_true, eq_self, or_true, true_or, xb_01, mcl_cl, not_true_eq_false, not_false_eq_true, if_false]
  | succ d ih =>
    intro m hm
    have h1 : ¬ nI l ≤ nI m := nI_ge (by omega) (by omega)
    have h2 := ih (m + 1) (by omega)
    have r1 : (rRaw G n k kk l m).1 n = 37 := if_pos rfl
    have r2 : (rRaw G n k kk l m).1 (n + 1) = 2 := by
      show (if n + 1 = n then 37 else if n + 1 = n + 1 then 2 else _) = 2
      rw [if_neg (by omega), if_pos rfl]
    have r3 : (rRaw G n k kk l m).2.1 (n + 1) = l := by
      show (if n + 1 = n then 0 else if n + 1 = n + 1 ∨ _ then l else _) = l
      rw [if_neg (by omega), if_pos (Or.inl rfl)]
    have r4 : (rRaw G n k kk l m).2.2.2.2 n 1 = some (n + 1) := by
      show (if n = n then (if 1 = 1 ∨ _ then some (n + 1) else none) else _) = _
      rw [if_pos rfl, if_pos (Or.inl rfl)]
    have hx : xin (nI m) l = true := xin_nI (by omega) (by omega)
    have hc : (nI m).toNatClampNeg = m := nI_clamp (by omega)
    simp only [x64_53, x64_55, x64_56, x64_59, x64_60, x64_63, x64_65, x64_67, x64_68, h1, gf_37_1 r1, r4, gs_2 r2, r3, hx, hc, rRaw_s, Option.bind_some, Option.toList_some, Option.toList_none, List.cons_append, List.nil_append, Option.isSome_some, if_true, eq_self, or_true, true_or, xb_01, mcl_cl, not_true_eq_false, not_false_eq_true, if_false]
    simp only [x64_71, x64_68, nI_1]
    exact h2
theorem c64 (hl : l ≤ 32) : X g 64 0 [.val (va_rf (some n)), .val (.int k), .val (.int (nI l)), .unset, .unset, .unset] [] (gH (n + 1) kc ks (gnew G n 37 0)) = some (none, gH (n + 4) (kc + 3) (ks + l + l + l) (rMk G n k (if k < 8 then k else 8) l)) := by
  have h3 : (if (0 : Int32) < nI l then nI l else 0) = nI l := by
    by_cases e : l = 0
    · subst e
      rfl
    · have hz : (0 : Int32) < nI l := Int32.not_le.mp (nI_ge (a := 0) (b := l) (by omega) (by omega))
      rw [if_pos hz]
  have h4 : ¬ nI l < 0 := nI_pos (by omega)
  have h5 : (nI l).toNatClampNeg = l := nI_clamp (by omega)
  have h6 : ¬ 65536 < (nI l).toNatClampNeg := by rw [h5]; omega
  have r1 : (gnew G n 37 0).1 n = 37 := if_pos rfl
  have r2 : (gnew (gsI (gnew G n 37 0) n 0 k) (n + 1) 2 l).1 n = 37 := by rw [gnew1, if_neg (by omega)]; exact r1
  have r3 : (gnew (gsR (gnew (gsI (gnew G n 37 0) n 0 k) (n + 1) 2 l) n 1 (some (n + 1))) (n + 2) 3 l).1 n = 37 := by rw [gnew1, if_neg (by omega)]; exact r2
  have r4 : (gnew (gsR (gnew (gsR (gnew (gsI (gnew G n 37 0) n 0 k) (n + 1) 2 l) n 1 (some (n + 1))) (n + 2) 3 l) n 2 (some (n + 2))) (n + 3) 4 l).1 n = 37 := by rw [gnew1, if_neg (by omega)]; exact r3
  by_cases c8 : k < 8
  · have c8' : ¬ (8 : Int32) ≤ k := Int32.not_le.mpr c8
    rw [if_pos c8]
    have h7 := l64 (g := g) (n := n) (N := n + 4) (kc := kc + 3) (ks := ks + l + l + l) (G := G) (k := k) (kk := k) (i1 := k) (i2 := nI l) hl l 0 (by omega)
    rw [rMk_eq, ← rRaw_0] at h7
    have h7' : X g 64 53 [.val (va_rf (some n)), .val (.int k), .val (.int (nI l)), .val (.int (nI l)), .val (.int k), .val (.int 0)] [] (gH (n + 1 + 1 + 1 + 1) (kc + 1 + 1 + 1) (ks + l + l + l) _) = _ := h7
    simp only [x64_0, x64_1, x64_4, x64_5, x64_6, x64_9, x64_10, x64_11, x64_12, x64_15, x64_16, x64_17, x64_19, x64_22, x64_23, x64_24, x64_26, x64_29, x64_30, x64_31, x64_33, x64_36, x64_37, x64_39, x64_42, x64_43, x64_46, x64_48, x64_50, x64_51, h3, gf_37_0 r1, gp_37_0 r1, x64_17 h4 h6, x64_24 h4 h6, x64_31 h4 h6, h5, gn_2, gH1, gf_37_1 r2, gp_37_1 r2, gn_3, gf_37_2 r3, gp_37_2 r3, gn_4, gf_37_3 r4, gp_37_3 r4, c8', h7', Option.isSome_some, Option.bind_some, Option.toList_some, Option.toList_none, List.cons_append, List.nil_append, Option.isSome_some, if_true, eq_self, or_true, true_or, xb_01, mcl_cl, not_true_eq_false, not_false_eq_true, if_false]
  · have c8' : (8 : Int32) ≤ k := Int32.not_lt.mp c8
    rw [if_neg c8]
    have h7 := l64 (g := g) (n := n) (N := n + 4) (kc := kc + 3) (ks := ks + l + l + l) (G := G) (k := k) (kk := 8) (i1 := k) (i2 := nI l) hl l 0 (by omega)
    rw [rMk_eq, ← rRaw_0] at h7
    have h7' : X g 64 53 [.val (va_rf (some n)), .val (.int k), .val (.int (nI l)), .val (.int (nI l)), .val (.int 8), .val (.int 0)] [] (gH (n + 1 + 1 + 1 + 1) (kc + 1 + 1 + 1) (ks + l + l + l) _) = _ := h7
    simp only [x64_0, x64_1, x64_4, x64_5, x64_6, x64_9, x64_10, x64_11, x64_12, x64_15, x64_16, x64_17, x64_19, x64_22, x64_23, x64_24, x64_26, x64_29, x64_30, x64_31, x64_33, x64_36, x64_37, x64_39, x64_42, x64_43, x64_46, x64_48, x64_50, x64_51, h3, gf_37_0 r1, gp_37_0 r1, x64_17 h4 h6, x64_24 h4 h6, x64_31 h4 h6, h5, gn_2, gH1, gf_37_1 r2, gp_37_1 r2, gn_3, gf_37_2 r3, gp_37_2 r3, gn_4, gf_37_3 r4, gp_37_3 r4, c8', h7', Option.isSome_some, Option.bind_some, Option.toList_some, Option.toList_none, List.cons_append, List.nil_append, Option.isSome_some, if_true, eq_self, or_true, true_or, xb_01, mcl_cl, not_true_eq_false, not_false_eq_true, if_false]
theorem fSel_cg {f f' : Nat → Bool} {dn : Nat} : ∀ d y l e (o : Nat → Nat), (∀ x, y ≤ x → x < y + d → f x = f' x) → fSel f dn y d l e o = fSel f' dn y d l e o := by
  intro d
  induction d with
  | zero => intro y l e o _; rfl
  | succ d ih =>
    intro y l e o hx
    rw [fSel, fSel, hx y (by omega) (by omega), ih _ _ _ _ (fun x a b => hx x (by omega) (by omega)), ih _ _ _ _ (fun x a b => hx x (by omega) (by omega))]
theorem fSel_sp {f : Nat → Bool} {dn : Nat} : ∀ d y l e (o : Nat → Nat), l ≤ y → e ≤ l → (∀ x, x < l → f (o x) = false ∧ o x < y) → (fSel f dn y d l e o).2.1 ≤ (fSel f dn y d l e o).1 ∧ (fSel f dn y d l e o).1 ≤ y + d ∧ ∀ x, x < (fSel f dn y d l e o).1 → f ((fSel f dn y d l e o).2.2 x) = false ∧ (fSel f dn y d l e o).2.2 x < y + d := by
  intro d
  induction d with
  | zero => intro y l e o h1 h2 h3; exact ⟨h2, h1, h3⟩
  | succ d ih =>
    intro y l e o h1 h2 h3
    rw [fSel]
    by_cases c : f y = true
    · rw [if_pos c]
      have := ih (y + 1) l e o (by omega) h2 (fun x hx => ⟨(h3 x hx).1, by have := (h3 x hx).2; omega⟩)
      rw [show y + 1 + d = y + (d + 1) by omega] at this
      exact this
    · rw [if_neg c]
      have c' : f y = false := by simpa using c
      have := ih (y + 1) (l + 1) (if y < dn then e + 1 else e) (fun x => if x = l then y else o x) (by omega) (by split <;> omega) (by
        intro x hx
        by_cases z : x = l
        · simp only [if_pos z]
          exact ⟨c', by omega⟩
        · simp only [if_neg z]
          have := h3 x (by omega)
          exact ⟨this.1, by omega⟩)
      rw [show y + 1 + d = y + (d + 1) by omega] at this
      exact this
/-- nobody lets a row go -/
theorem c138_n {o : Option Nat} (hk : G.1 c = 15) (hb9 : G.2.2.2.2 c 9 = some b) (hw : gW G) (hb : G.1 b = 9) (ho : o = none ∨ ¬ mCnt (fun q => decide (G.2.2.2.2 (b + 1) q = o)) 0 10 = 0) : X g 138 0 [.val (va_rf (some c)), .val (va_rf o)] [] (gH n kc ks G) = some (none, gH n kc ks G) := by
  by_cases c1 : o = none
  · subst c1
    simp only [x138_0, x138_1, x138_4, x138_5, x138_8, x138_9, x138_12, x138_15, x138_16, x138_19, x138_20, x138_23, Option.bind_some, Option.toList_some, Option.toList_none, List.cons_append, List.nil_append, Option.isSome_some, if_true, eq_self, or_true, true_or, xb_01, mcl_cl, not_true_eq_false, not_false_eq_true, if_false]
  · have c2 := ho.resolve_left c1
    have k17 := c17 (g := g) (n := n) (kc := kc) (ks := ks) (o := o) hw hb
    have c3 : ¬ nI (mCnt (fun q => decide (G.2.2.2.2 (b + 1) q = o)) 0 10) = 0 := by
      intro z
      have h0 := (nI_eq (b := 0) (by have := mCnt_le (f := fun q => decide (G.2.2.2.2 (b + 1) q = o)) 10 0; omega) (by omega)).mp z
      exact c2 h0
    simp only [x138_0, x138_1, x138_4, x138_5, x138_8, x138_9, x138_12, x138_15, x138_16, x138_19, x138_20, x138_23, c1, gf_15_9 hk, hb9, gc_9 hb, k17, c3, Option.bind_some, Option.toList_some, Option.toList_none, List.cons_append, List.nil_append, Option.isSome_some, if_true, eq_self, or_true, true_or, xb_01, mcl_cl, not_true_eq_false, not_false_eq_true, if_false]
/-- a row let go, its acts forgotten -/
theorem c138_y (hk : G.1 c = 15) (hb9 : G.2.2.2.2 c 9 = some b) (hw : gW G) (hb : G.1 b = 9) (ho : mCnt (fun q => decide (G.2.2.2.2 (b + 1) q = some a)) 0 10 = 0) (hj : jL G (c + 7)) (hd : G.2.2.1 (c + 7) 3 = nI d) (hd24 : d ≤ 24) (hc : G.2.2.1 (c + 7) 4 = nI e) (h24 : e ≤ 24) (ha : jA G (c + 7) e) (hr : ∀ q z, q < 24 → G.2.2.2.2 (c + 7 + 2) q = some z → G.1 z = 6) : ∃ T, X g 138 0 [.val (va_rf (some c)), .val (va_rf (some a))] [] (gH n kc ks G) = some (none, gH n kc ks T) ∧ T.1 = G.1 ∧ T.2.1 = G.2.1 ∧ T.2.2.2.1 = G.2.2.2.1 ∧ (∀ q s, T.2.2.1 q s = if q = c + 7 ∧ s = 4 then nI (jSel G (c + 7) a d e).1 else if q = c + 7 ∧ s = 3 then nI (jSel G (c + 7) a d e).2.1 else G.2.2.1 q s) ∧ (∀ q s, q ≠ c + 9 → T.2.2.2.2 q s = G.2.2.2.2 q s) ∧ (∀ q, q < (jSel G (c + 7) a d e).1 → T.2.2.2.2 (c + 9) q = G.2.2.2.2 (c + 9) ((jSel G (c + 7) a d e).2.2 q)) ∧ (∀ q z, q < 24 → T.2.2.2.2 (c + 9) q = some z → G.1 z = 6) := by
  obtain ⟨T', h1, t1, t2, t3, t4, t5, t6, t7⟩ := c35 (g := g) (n := n) (kc := kc) (ks := ks) (a := a) hw hj hd hd24 hc h24 ha hr
  have k17 := c17 (g := g) (n := n) (kc := kc) (ks := ks) (o := some a) hw hb
  rw [ho] at k17
  have hne : ¬ (some a : Option Nat) = none := by simp
  have n0 : nI 0 = 0 := rfl
  have k7 : G.1 (c + 7) = 20 := hj.1
  refine ⟨gsI (gsI T' (c + 7) 3 (nI (jSel G (c + 7) a d e).2.1)) (c + 7) 4 (nI (jSel G (c + 7) a d e).1), ?_, t1, t2, t4, ?_, t5, t6, t7⟩
  · simp only [x138_0, x138_1, x138_4, x138_5, x138_8, x138_9, x138_12, x138_15, x138_16, x138_19, x138_20, x138_23, hne, gf_15_9 hk, hb9, gc_9 hb, k17, n0, gf_15_6 hk, gc_20 k7, h1, Option.bind_some, Option.toList_some, Option.toList_none, List.cons_append, List.nil_append, Option.isSome_some, if_true, eq_self, or_true, true_or, xb_01, mcl_cl, not_true_eq_false, not_false_eq_true, if_false]
  · intro q s
    show (if q = c + 7 ∧ s = 4 then _ else if q = c + 7 ∧ s = 3 then _ else T'.2.2.1 q s) = _
    rw [t3]
end K41
