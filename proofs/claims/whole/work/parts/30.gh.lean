/-! THE CLASS's heap: what lies at an address is told by its role; all contents are functions keyed by address -/
abbrev GS : Type := (Nat → Nat) × (Nat → Nat) × (Nat → Nat → Int32) × (Nat → Nat → Int64) × (Nat → Nat → Option Nat)
/-- of a role: 0 nothing, 1 an array, 2 an object; and its kind -/
def rt (r : Nat) : Nat × Nat := ([(0, 0), (2, 7), (1, 0), (1, 1), (1, 3), (2, 6), (2, 0), (1, 16), (2, 4), (2, 1), (1, 17), (1, 0), (1, 0), (1, 19), (2, 9), (2, 10), (2, 2), (1, 1), (1, 0), (1, 0), (2, 3), (1, 16), (1, 10), (2, 8), (1, 2), (1, 14), (2, 5), (1, 2), (1, 2), (0, 0), (2, 0), (2, 1), (2, 2), (2, 3), (2, 4), (2, 5), (2, 6), (2, 7), (2, 8), (2, 9), (2, 10), (0, 0), (0, 0), (0, 0), (0, 0), (0, 0), (0, 0), (0, 0), (0, 0), (0, 0), (1, 19)] : List (Nat × Nat)).getD r (0, 0)
/-- of a role: its fields, 0 an int, 1 a long, 2 a reference, 3 + d the address d behind -/
def fd (r : Nat) : List Nat := ([[], [0, 4, 5, 6], [], [], [], [2, 0, 0, 1, 0, 1], [4], [], [0, 0, 0, 0, 0, 0, 0, 0], [4, 5, 6, 7], [], [], [], [], [0, 0, 0, 0, 0], [4, 5, 6, 7, 8, 9, 10, 13, 16, 2, 2, 0, 0, 0, 0], [0, 1], [], [], [], [4, 0, 5, 0, 0], [], [], [4, 5, 0, 0, 0], [], [], [4, 5, 0], [], [], [], [2], [2, 2, 2, 2], [0, 1], [2, 0, 2, 0, 0], [0, 0, 0, 0, 0, 0, 0, 0], [2, 2, 0], [2, 0, 0, 1, 0, 1], [0, 2, 2, 2], [2, 2, 0, 0, 0], [0, 0, 0, 0, 0], [2, 2, 2, 2, 2, 2, 2, 2, 2, 2, 2, 0, 0, 0, 0], [], [], [], [], [], [], [], [], [], []] : List (List Nat)).getD r []
def gval (G : GS) (a k d : Nat) : Value := match d with
  | 0 => .int (G.2.2.1 a k)
  | 1 => .long (G.2.2.2.1 a k)
  | 2 => va_rf (G.2.2.2.2 a k)
  | e + 3 => va_rf (some (a + e))
def gel (G : GS) (a i : Nat) : Value := if (rt (G.1 a)).2 = 1 then .long (G.2.2.2.1 a i) else if G.1 a = 13 then va_rf (if i < G.2.1 a then some (a + 1 + i) else none) else if 10 ≤ (rt (G.1 a)).2 then va_rf (G.2.2.2.2 a i) else .int (G.2.2.1 a i)
def gfs (G : GS) (a : Nat) : List Value := (List.range (fd (G.1 a)).length).map fun k => gval G a k ((fd (G.1 a)).getD k 0)
def gcl (G : GS) (a : Nat) : Option xE := match (rt (G.1 a)).1 with
  | 0 => none
  | 1 => some (.inl ((rt (G.1 a)).2, G.2.1 a, gel G a))
  | _ => some (.inr ((rt (G.1 a)).2, gfs G a))
/-- the heap -/
def gH (n kc ks : Nat) (G : GS) : xH := (n, kc, ks, gcl G)
def gsI (G : GS) (a k : Nat) (v : Int32) : GS := (G.1, G.2.1, fun b q => if b = a ∧ q = k then v else G.2.2.1 b q, G.2.2.2.1, G.2.2.2.2)
def gsJ (G : GS) (a k : Nat) (v : Int64) : GS := (G.1, G.2.1, G.2.2.1, fun b q => if b = a ∧ q = k then v else G.2.2.2.1 b q, G.2.2.2.2)
def gsR (G : GS) (a k : Nat) (v : Option Nat) : GS := (G.1, G.2.1, G.2.2.1, G.2.2.2.1, fun b q => if b = a ∧ q = k then v else G.2.2.2.2 b q)
/-- a new thing of a role and a length, all empty -/
def gnew (G : GS) (a r l : Nat) : GS := (fun b => if b = a then r else G.1 b, fun b => if b = a then l else G.2.1 b, fun b q => if b = a then 0 else G.2.2.1 b q, fun b q => if b = a then 0 else G.2.2.2.1 b q, fun b q => if b = a then none else G.2.2.2.2 b q)
/-- a thing gets another role -/
def grol (G : GS) (a r : Nat) : GS := (fun b => if b = a then r else G.1 b, G.2.1, G.2.2.1, G.2.2.2.1, G.2.2.2.2)
section GHL
variable {n kc ks a b k j l r t ci d q : Nat} {G : GS} {v : Int32} {w : Int64} {u : Option Nat} {x : Int32} {g : xG}
theorem gsI1 : (gsI G a k v).1 = G.1 := rfl
theorem gsI2 : (gsI G a k v).2.1 = G.2.1 := rfl
theorem gsI3 : (gsI G a k v).2.2.1 b q = if b = a ∧ q = k then v else G.2.2.1 b q := rfl
theorem gsI4 : (gsI G a k v).2.2.2.1 = G.2.2.2.1 := rfl
theorem gsI5 : (gsI G a k v).2.2.2.2 = G.2.2.2.2 := rfl
theorem gsJ1 : (gsJ G a k w).1 = G.1 := rfl
theorem gsJ2 : (gsJ G a k w).2.1 = G.2.1 := rfl
theorem gsJ3 : (gsJ G a k w).2.2.1 = G.2.2.1 := rfl
theorem gsJ4 : (gsJ G a k w).2.2.2.1 b q = if b = a ∧ q = k then w else G.2.2.2.1 b q := rfl
theorem gsJ5 : (gsJ G a k w).2.2.2.2 = G.2.2.2.2 := rfl
theorem gsR1 : (gsR G a k u).1 = G.1 := rfl
theorem gsR2 : (gsR G a k u).2.1 = G.2.1 := rfl
theorem gsR3 : (gsR G a k u).2.2.1 = G.2.2.1 := rfl
theorem gsR4 : (gsR G a k u).2.2.2.1 = G.2.2.2.1 := rfl
theorem gsR5 : (gsR G a k u).2.2.2.2 b q = if b = a ∧ q = k then u else G.2.2.2.2 b q := rfl
theorem gnew1 : (gnew G a r l).1 b = if b = a then r else G.1 b := rfl
theorem gnew2 : (gnew G a r l).2.1 b = if b = a then l else G.2.1 b := rfl
theorem gnew3 : (gnew G a r l).2.2.1 b q = if b = a then 0 else G.2.2.1 b q := rfl
theorem gnew4 : (gnew G a r l).2.2.2.1 b q = if b = a then 0 else G.2.2.2.1 b q := rfl
theorem gnew5 : (gnew G a r l).2.2.2.2 b q = if b = a then none else G.2.2.2.2 b q := rfl
theorem gH1 : (gH n kc ks G).1 = n := rfl
theorem gobj (hr : rt (G.1 a) = (2, ci)) : (gH n kc ks G).2.2.2 a = some (.inr (ci, gfs G a)) := by
  show gcl G a = _
  unfold gcl
  rw [hr]
  rfl
theorem garr (hr : rt (G.1 a) = (1, t)) : (gH n kc ks G).2.2.2 a = some (.inl (t, G.2.1 a, gel G a)) := by
  show gcl G a = _
  unfold gcl
  rw [hr]
  rfl
theorem gf_gen (hl : G.1 a = r) (hr : rt r = (2, ci)) (hk : (fd r)[k]? = some d) : xf (gH n kc ks G) a ci k = some (gval G a k d) := by
  subst hl
  unfold xf
  rw [gobj hr]
  dsimp only
  rw [if_pos rfl]
  unfold gfs
  have h1 : k < (fd (G.1 a)).length := (List.getElem?_eq_some_iff.mp hk).1
  rw [List.getElem?_map, List.getElem?_range h1]
  show some (gval G a k _) = _
  rw [List.getD_eq_getElem?_getD, hk]
  rfl
theorem gc_gen (hl : G.1 a = r) (hr : rt r = (2, ci)) : xcl (gH n kc ks G) a = some ci := by
  subst hl
  unfold xcl
  rw [gobj hr]
theorem ga_gen (hl : G.1 a = r) (hr : rt r = (1, t)) : xa (gH n kc ks G) a t = some (G.2.1 a, gel G a) := by
  subst hl
  exact xa_of (garr hr)
/-- the cell elsewhere stays -/
theorem gcl_ne {G' : GS} (h1 : G'.1 b = G.1 b) (h2 : G'.2.1 b = G.2.1 b) (h3 : ∀ i, G'.2.2.1 b i = G.2.2.1 b i) (h4 : ∀ i, G'.2.2.2.1 b i = G.2.2.2.1 b i) (h5 : ∀ i, G'.2.2.2.2 b i = G.2.2.2.2 b i) : gcl G' b = gcl G b := by
  have hv : ∀ k d, gval G' b k d = gval G b k d := by
    intro k d
    unfold gval
    split
    · rw [h3]
    · rw [h4]
    · rw [h5]
    · rfl
  have he : gel G' b = gel G b := by
    funext i
    unfold gel
    rw [h1, h2, h3, h4, h5]
  have hf : gfs G' b = gfs G b := by
    unfold gfs
    rw [h1]
    apply List.map_congr_left
    intro k _
    exact hv _ _
  unfold gcl
  rw [h1, h2, he, hf]
theorem gp_gen {G' : GS} {z : Value} (hl : G.1 a = r) (hr : rt r = (2, ci)) (hk : (fd r)[k]? = some d) (e1 : G'.1 = G.1) (e2 : G'.2.1 = G.2.1) (hz : gval G' a k d = z) (ho : ∀ q e, q ≠ k → gval G' a q e = gval G a q e) (hb : ∀ b, b ≠ a → gcl G' b = gcl G b) : xpf (gH n kc ks G) a ci k z = gH n kc ks G' := by
  subst hl
  refine xH_ext rfl rfl rfl fun q => ?_
  rw [xpf_at (gobj hr)]
  by_cases hq : q = a
  · subst hq
    rw [if_pos rfl, gobj (by rw [e1]; exact hr)]
    congr 3
    unfold gfs
    rw [e1]
    have h1 : k < (fd (G.1 q)).length := (List.getElem?_eq_some_iff.mp hk).1
    apply List.ext_getElem?
    intro i
    rw [List.getElem?_set, List.getElem?_map, List.getElem?_map, List.length_map, List.length_range]
    by_cases hi : k = i
    · subst hi
      rw [if_pos rfl, if_pos h1, List.getElem?_range h1]
      show _ = some (gval G' q k _)
      rw [List.getD_eq_getElem?_getD, hk]
      show _ = some (gval G' q k d)
      rw [hz]
    · rw [if_neg hi]
      cases hr2 : (List.range (fd (G.1 q)).length)[i]? with
      | none => rfl
      | some y =>
        have hx : i = y := by
          have := List.getElem?_eq_some_iff.mp hr2
          obtain ⟨_, h2⟩ := this
          simpa using h2
        subst hx
        simp [ho i _ (fun e => hi e.symm)]
  · rw [if_neg hq]
    exact (hb q hq).symm
theorem gsI_ne (hb : b ≠ a) : gcl (gsI G a k v) b = gcl G b := gcl_ne rfl rfl (fun i => if_neg fun e => hb e.1) (fun _ => rfl) (fun _ => rfl)
theorem gsJ_ne (hb : b ≠ a) : gcl (gsJ G a k w) b = gcl G b := gcl_ne rfl rfl (fun _ => rfl) (fun i => if_neg fun e => hb e.1) (fun _ => rfl)
theorem gsR_ne (hb : b ≠ a) : gcl (gsR G a k u) b = gcl G b := gcl_ne rfl rfl (fun _ => rfl) (fun _ => rfl) (fun i => if_neg fun e => hb e.1)
theorem gpI (hl : G.1 a = r) (hr : rt r = (2, ci)) (hk : (fd r)[k]? = some 0) : xpf (gH n kc ks G) a ci k (.int v) = gH n kc ks (gsI G a k v) := by
  refine gp_gen hl hr hk rfl rfl ?_ ?_ fun b hb => gsI_ne hb
  · show Value.int (if a = a ∧ k = k then v else _) = _
    rw [if_pos ⟨rfl, rfl⟩]
  · intro q e hq
    unfold gval
    split <;> simp [gsI, hq]
theorem gpJ (hl : G.1 a = r) (hr : rt r = (2, ci)) (hk : (fd r)[k]? = some 1) : xpf (gH n kc ks G) a ci k (.long w) = gH n kc ks (gsJ G a k w) := by
  refine gp_gen hl hr hk rfl rfl ?_ ?_ fun b hb => gsJ_ne hb
  · show Value.long (if a = a ∧ k = k then w else _) = _
    rw [if_pos ⟨rfl, rfl⟩]
  · intro q e hq
    unfold gval
    split <;> simp [gsJ, hq]
theorem gpR (hl : G.1 a = r) (hr : rt r = (2, ci)) (hk : (fd r)[k]? = some 2) : xpf (gH n kc ks G) a ci k (va_rf u) = gH n kc ks (gsR G a k u) := by
  refine gp_gen hl hr hk rfl rfl ?_ ?_ fun b hb => gsR_ne hb
  · show va_rf (if a = a ∧ k = k then u else _) = _
    rw [if_pos ⟨rfl, rfl⟩]
  · intro q e hq
    unfold gval
    split <;> simp [gsR, hq]
theorem gs_gen {G' : GS} {z : Value} (hl : G.1 a = r) (hr : rt r = (1, t)) (e1 : G'.1 = G.1) (e2 : G'.2.1 = G.2.1) (he : gel G' a = updV (gel G a) j z) (hb : ∀ b, b ≠ a → gcl G' b = gcl G b) : xpa (gH n kc ks G) a t j z = gH n kc ks G' := by
  subst hl
  refine xH_ext rfl rfl rfl fun q => ?_
  rw [xpa_at (garr hr)]
  by_cases hq : q = a
  · subst hq
    rw [if_pos rfl, garr (by rw [e1]; exact hr), he, e2]
  · rw [if_neg hq]
    exact (hb q hq).symm
theorem gsI_st (hl : G.1 a = r) (hr : rt r = (1, t)) (ht : t ≠ 1) (h13 : r ≠ 13) (h10 : ¬ 10 ≤ t) : xpa (gH n kc ks G) a t j (.int v) = gH n kc ks (gsI G a j v) := by
  refine gs_gen hl hr rfl rfl ?_ fun b hb => gsI_ne hb
  funext i
  unfold gel updV
  rw [gsI1, hl, hr]
  dsimp only
  rw [if_neg ht, if_neg h13, if_neg h10, if_neg ht, if_neg h13, if_neg h10, gsI3]
  by_cases hi : i = j <;> simp [hi]
theorem gsJ_st (hl : G.1 a = r) (hr : rt r = (1, 1)) : xpa (gH n kc ks G) a 1 j (.long w) = gH n kc ks (gsJ G a j w) := by
  refine gs_gen hl hr rfl rfl ?_ fun b hb => gsJ_ne hb
  funext i
  unfold gel updV
  rw [gsJ1, hl, hr]
  dsimp only
  rw [if_pos rfl, if_pos rfl, gsJ4]
  by_cases hi : i = j <;> simp [hi]
theorem gsR_st (hl : G.1 a = r) (hr : rt r = (1, t)) (ht : t ≠ 1) (h13 : r ≠ 13) (h10 : 10 ≤ t) : xpa (gH n kc ks G) a t j (va_rf u) = gH n kc ks (gsR G a j u) := by
  refine gs_gen hl hr rfl rfl ?_ fun b hb => gsR_ne hb
  funext i
  unfold gel updV
  rw [gsR1, hl, hr]
  dsimp only
  rw [if_neg ht, if_neg h13, if_pos h10, if_neg ht, if_neg h13, if_pos h10, gsR5]
  by_cases hi : i = j <;> simp [hi]
/-- making -/
theorem gn_gen {e : xE} (he : gcl (gnew G n r l) n = some e) : xnew (gH n kc ks G) e k = gH (n + 1) (kc + 1) (ks + k) (gnew G n r l) := by
  refine xH_ext rfl rfl rfl fun q => ?_
  show (if q = n then some e else gcl G q) = gcl (gnew G n r l) q
  by_cases hq : q = n
  · subst hq
    rw [if_pos rfl, he]
  · rw [if_neg hq]
    exact (gcl_ne (G := G) (G' := gnew G n r l) (if_neg hq) (if_neg hq) (fun _ => if_neg hq) (fun _ => if_neg hq) (fun _ => if_neg hq)).symm
/-- a role changes, the cell stays -/
theorem gr_gen (he : gcl (grol G a r) a = gcl G a) : gH n kc ks G = gH n kc ks (grol G a r) := by
  refine xH_ext rfl rfl rfl fun q => ?_
  show gcl G q = gcl (grol G a r) q
  by_cases hq : q = a
  · subst hq
    exact he.symm
  · exact (gcl_ne (G := G) (G' := grol G a r) (if_neg hq) rfl (fun _ => rfl) (fun _ => rfl) (fun _ => rfl)).symm
theorem gel_I (hl : G.1 a = r) (h1 : (rt r).2 ≠ 1) (h13 : r ≠ 13) (h10 : ¬ 10 ≤ (rt r).2) : gel G a j = .int (G.2.2.1 a j) := by
  unfold gel
  rw [hl, if_neg h1, if_neg h13, if_neg h10]
theorem gel_J (hl : G.1 a = r) (h1 : (rt r).2 = 1) : gel G a j = .long (G.2.2.2.1 a j) := by
  unfold gel
  rw [hl, if_pos h1]
theorem gel_R (hl : G.1 a = r) (h1 : (rt r).2 ≠ 1) (h13 : r ≠ 13) (h10 : 10 ≤ (rt r).2) : gel G a j = va_rf (G.2.2.2.2 a j) := by
  unfold gel
  rw [hl, if_neg h1, if_neg h13, if_pos h10]
theorem gel_13 (hl : G.1 a = 13) : gel G a j = va_rf (if j < G.2.1 a then some (a + 1 + j) else none) := by
  unfold gel
  rw [hl]
  rfl
theorem gtag (hl : G.1 a = r) (hr : rt r = (1, t)) : xtag (gH n kc ks G) a = t := xtag_of (ga_gen hl hr)
theorem xin_cl {x : Int32} {d : Nat} (h : xin x d = true) : x.toNatClampNeg < d := by
  unfold xin at h
  simp only [Bool.not_eq_true', Bool.or_eq_false_iff, decide_eq_false_iff_not] at h
  omega
theorem gc_1 (hl : G.1 a = 1) : xcl (gH n kc ks G) a = some 7 := gc_gen hl rfl
theorem gf_1_0 (hl : G.1 a = 1) : xf (gH n kc ks G) a 7 0 = some (.int (G.2.2.1 a 0)) := gf_gen (k := 0) (d := 0) hl rfl rfl
theorem gp_1_0 (hl : G.1 a = 1) : xpf (gH n kc ks G) a 7 0 (.int v) = gH n kc ks (gsI G a 0 v) := gpI hl rfl rfl
theorem gf_1_1 (hl : G.1 a = 1) : xf (gH n kc ks G) a 7 1 = some (va_rf (some (a + 1))) := gf_gen (k := 1) (d := 4) hl rfl rfl
theorem gf_1_2 (hl : G.1 a = 1) : xf (gH n kc ks G) a 7 2 = some (va_rf (some (a + 2))) := gf_gen (k := 2) (d := 5) hl rfl rfl
theorem gf_1_3 (hl : G.1 a = 1) : xf (gH n kc ks G) a 7 3 = some (va_rf (some (a + 3))) := gf_gen (k := 3) (d := 6) hl rfl rfl
theorem gq_2 (hl : G.1 a = 2) : xa (gH n kc ks G) a 0 = some (G.2.1 a, gel G a) := ga_gen hl rfl
theorem gN_2 (hl : G.1 a = 2) : xlen g (gH n kc ks G) a = some (G.2.1 a) := xlen_of (gq_2 hl)
theorem gl_2 (hl : G.1 a = 2) : xaldi g (gH n kc ks G) a x = if xin x (G.2.1 a) = true then some (.int (G.2.2.1 a x.toNatClampNeg)) else none := by
  unfold xaldi
  rw [gq_2 hl]
  dsimp only
  rw [gel_I hl (by decide) (by decide) (by decide)]
theorem gs_2 (hl : G.1 a = 2) : xast (gH n kc ks G) a 0 x (.int v) = if xin x (G.2.1 a) = true then some (gH n kc ks (gsI G a x.toNatClampNeg v)) else none := by
  unfold xast
  rw [gq_2 hl]
  dsimp only
  rw [gsI_st hl rfl (by decide) (by decide) (by decide)]
theorem gn_2 : xnew (gH n kc ks G) (.inl (0, l, fun _ => .int 0)) k = gH (n + 1) (kc + 1) (ks + k) (gnew G n 2 l) := by
  refine gn_gen ?_
  have e : (gnew G n 2 l).1 n = 2 := if_pos rfl
  unfold gcl
  rw [e]
  show some (Sum.inl (0, (gnew G n 2 l).2.1 n, gel _ n)) = _
  rw [gnew2, if_pos rfl]
  congr 4
  funext i
  rw [gel_I e (by decide) (by decide) (by decide), gnew3, if_pos rfl]
theorem gq_3 (hl : G.1 a = 3) : xa (gH n kc ks G) a 1 = some (G.2.1 a, gel G a) := ga_gen hl rfl
theorem gN_3 (hl : G.1 a = 3) : xlen g (gH n kc ks G) a = some (G.2.1 a) := xlen_of (gq_3 hl)
theorem gl_3 (hl : G.1 a = 3) : xald (gH n kc ks G) a 1 x = if xin x (G.2.1 a) = true then some (.long (G.2.2.2.1 a x.toNatClampNeg)) else none := by
  unfold xald
  rw [gq_3 hl]
  dsimp only
  rw [gel_J hl (by decide)]
theorem gs_3 (hl : G.1 a = 3) : xast (gH n kc ks G) a 1 x (.long w) = if xin x (G.2.1 a) = true then some (gH n kc ks (gsJ G a x.toNatClampNeg w)) else none := by
  unfold xast
  rw [gq_3 hl]
  dsimp only
  rw [gsJ_st hl rfl]
theorem gn_3 : xnew (gH n kc ks G) (.inl (1, l, fun _ => .long 0)) k = gH (n + 1) (kc + 1) (ks + k) (gnew G n 3 l) := by
  refine gn_gen ?_
  have e : (gnew G n 3 l).1 n = 3 := if_pos rfl
  unfold gcl
  rw [e]
  show some (Sum.inl (1, (gnew G n 3 l).2.1 n, gel _ n)) = _
  rw [gnew2, if_pos rfl]
  congr 4
  funext i
  rw [gel_J e (by decide), gnew4, if_pos rfl]
theorem gq_4 (hl : G.1 a = 4) : xa (gH n kc ks G) a 3 = some (G.2.1 a, gel G a) := ga_gen hl rfl
theorem gN_4 (hl : G.1 a = 4) : xlen g (gH n kc ks G) a = some (G.2.1 a) := xlen_of (gq_4 hl)
theorem gl_4 (hl : G.1 a = 4) : xaldb (gH n kc ks G) a x = if xin x (G.2.1 a) = true then some (.int (G.2.2.1 a x.toNatClampNeg)) else none := by
  unfold xaldb
  rw [gtag hl rfl]
  show xald _ a 3 x = _
  unfold xald
  rw [gq_4 hl]
  dsimp only
  rw [gel_I hl (by decide) (by decide) (by decide)]
theorem gs_4 (hl : G.1 a = 4) : xastb (gH n kc ks G) a x v = if xin x (G.2.1 a) = true then some (gH n kc ks (gsI G a x.toNatClampNeg (v &&& 1))) else none := by
  unfold xastb
  rw [gtag hl rfl]
  show xast _ a 3 x (.int (v &&& 1)) = _
  unfold xast
  rw [gq_4 hl]
  dsimp only
  rw [gsI_st hl rfl (by decide) (by decide) (by decide)]
theorem gn_4 : xnew (gH n kc ks G) (.inl (3, l, fun _ => .int 0)) k = gH (n + 1) (kc + 1) (ks + k) (gnew G n 4 l) := by
  refine gn_gen ?_
  have e : (gnew G n 4 l).1 n = 4 := if_pos rfl
  unfold gcl
  rw [e]
  show some (Sum.inl (3, (gnew G n 4 l).2.1 n, gel _ n)) = _
  rw [gnew2, if_pos rfl]
  congr 4
  funext i
  rw [gel_I e (by decide) (by decide) (by decide), gnew3, if_pos rfl]
theorem gc_5 (hl : G.1 a = 5) : xcl (gH n kc ks G) a = some 6 := gc_gen hl rfl
theorem gf_5_0 (hl : G.1 a = 5) : xf (gH n kc ks G) a 6 0 = some (va_rf (G.2.2.2.2 a 0)) := gf_gen (k := 0) (d := 2) hl rfl rfl
theorem gp_5_0 (hl : G.1 a = 5) : xpf (gH n kc ks G) a 6 0 (va_rf u) = gH n kc ks (gsR G a 0 u) := gpR hl rfl rfl
theorem gf_5_1 (hl : G.1 a = 5) : xf (gH n kc ks G) a 6 1 = some (.int (G.2.2.1 a 1)) := gf_gen (k := 1) (d := 0) hl rfl rfl
theorem gp_5_1 (hl : G.1 a = 5) : xpf (gH n kc ks G) a 6 1 (.int v) = gH n kc ks (gsI G a 1 v) := gpI hl rfl rfl
theorem gf_5_2 (hl : G.1 a = 5) : xf (gH n kc ks G) a 6 2 = some (.int (G.2.2.1 a 2)) := gf_gen (k := 2) (d := 0) hl rfl rfl
theorem gp_5_2 (hl : G.1 a = 5) : xpf (gH n kc ks G) a 6 2 (.int v) = gH n kc ks (gsI G a 2 v) := gpI hl rfl rfl
theorem gf_5_3 (hl : G.1 a = 5) : xf (gH n kc ks G) a 6 3 = some (.long (G.2.2.2.1 a 3)) := gf_gen (k := 3) (d := 1) hl rfl rfl
theorem gp_5_3 (hl : G.1 a = 5) : xpf (gH n kc ks G) a 6 3 (.long w) = gH n kc ks (gsJ G a 3 w) := gpJ hl rfl rfl
theorem gf_5_4 (hl : G.1 a = 5) : xf (gH n kc ks G) a 6 4 = some (.int (G.2.2.1 a 4)) := gf_gen (k := 4) (d := 0) hl rfl rfl
theorem gp_5_4 (hl : G.1 a = 5) : xpf (gH n kc ks G) a 6 4 (.int v) = gH n kc ks (gsI G a 4 v) := gpI hl rfl rfl
theorem gf_5_5 (hl : G.1 a = 5) : xf (gH n kc ks G) a 6 5 = some (.long (G.2.2.2.1 a 5)) := gf_gen (k := 5) (d := 1) hl rfl rfl
theorem gp_5_5 (hl : G.1 a = 5) : xpf (gH n kc ks G) a 6 5 (.long w) = gH n kc ks (gsJ G a 5 w) := gpJ hl rfl rfl
theorem gc_6 (hl : G.1 a = 6) : xcl (gH n kc ks G) a = some 0 := gc_gen hl rfl
theorem gf_6_0 (hl : G.1 a = 6) : xf (gH n kc ks G) a 0 0 = some (va_rf (some (a + 1))) := gf_gen (k := 0) (d := 4) hl rfl rfl
theorem gq_7 (hl : G.1 a = 7) : xa (gH n kc ks G) a 16 = some (G.2.1 a, gel G a) := ga_gen hl rfl
theorem gN_7 (hl : G.1 a = 7) : xlen g (gH n kc ks G) a = some (G.2.1 a) := xlen_of (gq_7 hl)
theorem gl_7 (hl : G.1 a = 7) : xalda (gH n kc ks G) a x = if xin x (G.2.1 a) = true then some (va_rf (G.2.2.2.2 a x.toNatClampNeg)) else none := by
  unfold xalda
  rw [gtag hl rfl]
  show xald _ a 16 x = _
  unfold xald
  rw [gq_7 hl]
  dsimp only
  rw [gel_R hl (by decide) (by decide) (by decide)]
theorem gs_7 (hl : G.1 a = 7) (hu : ∀ b, u = some b → xcl (gH n kc ks G) b = some 6) : xasta (gH n kc ks G) a x u = if xin x (G.2.1 a) = true then some (gH n kc ks (gsR G a x.toNatClampNeg u)) else none := by
  cases u with
  | none =>
    show (if xtr (xtag (gH n kc ks G) a) = true then xast _ a (xtag (gH n kc ks G) a) x (va_rf none) else none) = _
    rw [gtag hl rfl]
    show xast _ a 16 x (va_rf none) = _
    unfold xast
    rw [gq_7 hl]
    dsimp only
    rw [gsR_st hl rfl (by decide) (by decide) (by decide)]
  | some b =>
    show (if (xtr (xtag (gH n kc ks G) a) && xcl (gH n kc ks G) b == some (xtag (gH n kc ks G) a - 10)) = true then xast _ a (xtag (gH n kc ks G) a) x (va_rf (some b)) else none) = _
    rw [gtag hl rfl, hu b rfl]
    show xast _ a 16 x (va_rf (some b)) = _
    unfold xast
    rw [gq_7 hl]
    dsimp only
    rw [gsR_st hl rfl (by decide) (by decide) (by decide)]
theorem gn_7 : xnew (gH n kc ks G) (.inl (16, l, fun _ => va_rf none)) k = gH (n + 1) (kc + 1) (ks + k) (gnew G n 7 l) := by
  refine gn_gen ?_
  have e : (gnew G n 7 l).1 n = 7 := if_pos rfl
  unfold gcl
  rw [e]
  show some (Sum.inl (16, (gnew G n 7 l).2.1 n, gel _ n)) = _
  rw [gnew2, if_pos rfl]
  congr 4
  funext i
  rw [gel_R e (by decide) (by decide) (by decide), gnew5, if_pos rfl]
theorem gc_8 (hl : G.1 a = 8) : xcl (gH n kc ks G) a = some 4 := gc_gen hl rfl
theorem gf_8_0 (hl : G.1 a = 8) : xf (gH n kc ks G) a 4 0 = some (.int (G.2.2.1 a 0)) := gf_gen (k := 0) (d := 0) hl rfl rfl
theorem gp_8_0 (hl : G.1 a = 8) : xpf (gH n kc ks G) a 4 0 (.int v) = gH n kc ks (gsI G a 0 v) := gpI hl rfl rfl
theorem gf_8_1 (hl : G.1 a = 8) : xf (gH n kc ks G) a 4 1 = some (.int (G.2.2.1 a 1)) := gf_gen (k := 1) (d := 0) hl rfl rfl
theorem gp_8_1 (hl : G.1 a = 8) : xpf (gH n kc ks G) a 4 1 (.int v) = gH n kc ks (gsI G a 1 v) := gpI hl rfl rfl
theorem gf_8_2 (hl : G.1 a = 8) : xf (gH n kc ks G) a 4 2 = some (.int (G.2.2.1 a 2)) := gf_gen (k := 2) (d := 0) hl rfl rfl
theorem gp_8_2 (hl : G.1 a = 8) : xpf (gH n kc ks G) a 4 2 (.int v) = gH n kc ks (gsI G a 2 v) := gpI hl rfl rfl
theorem gf_8_3 (hl : G.1 a = 8) : xf (gH n kc ks G) a 4 3 = some (.int (G.2.2.1 a 3)) := gf_gen (k := 3) (d := 0) hl rfl rfl
theorem gp_8_3 (hl : G.1 a = 8) : xpf (gH n kc ks G) a 4 3 (.int v) = gH n kc ks (gsI G a 3 v) := gpI hl rfl rfl
theorem gf_8_4 (hl : G.1 a = 8) : xf (gH n kc ks G) a 4 4 = some (.int (G.2.2.1 a 4)) := gf_gen (k := 4) (d := 0) hl rfl rfl
theorem gp_8_4 (hl : G.1 a = 8) : xpf (gH n kc ks G) a 4 4 (.int v) = gH n kc ks (gsI G a 4 v) := gpI hl rfl rfl
theorem gf_8_5 (hl : G.1 a = 8) : xf (gH n kc ks G) a 4 5 = some (.int (G.2.2.1 a 5)) := gf_gen (k := 5) (d := 0) hl rfl rfl
theorem gp_8_5 (hl : G.1 a = 8) : xpf (gH n kc ks G) a 4 5 (.int v) = gH n kc ks (gsI G a 5 v) := gpI hl rfl rfl
theorem gf_8_6 (hl : G.1 a = 8) : xf (gH n kc ks G) a 4 6 = some (.int (G.2.2.1 a 6)) := gf_gen (k := 6) (d := 0) hl rfl rfl
theorem gp_8_6 (hl : G.1 a = 8) : xpf (gH n kc ks G) a 4 6 (.int v) = gH n kc ks (gsI G a 6 v) := gpI hl rfl rfl
theorem gf_8_7 (hl : G.1 a = 8) : xf (gH n kc ks G) a 4 7 = some (.int (G.2.2.1 a 7)) := gf_gen (k := 7) (d := 0) hl rfl rfl
theorem gp_8_7 (hl : G.1 a = 8) : xpf (gH n kc ks G) a 4 7 (.int v) = gH n kc ks (gsI G a 7 v) := gpI hl rfl rfl
theorem gc_9 (hl : G.1 a = 9) : xcl (gH n kc ks G) a = some 1 := gc_gen hl rfl
theorem gf_9_0 (hl : G.1 a = 9) : xf (gH n kc ks G) a 1 0 = some (va_rf (some (a + 1))) := gf_gen (k := 0) (d := 4) hl rfl rfl
theorem gf_9_1 (hl : G.1 a = 9) : xf (gH n kc ks G) a 1 1 = some (va_rf (some (a + 2))) := gf_gen (k := 1) (d := 5) hl rfl rfl
theorem gf_9_2 (hl : G.1 a = 9) : xf (gH n kc ks G) a 1 2 = some (va_rf (some (a + 3))) := gf_gen (k := 2) (d := 6) hl rfl rfl
theorem gf_9_3 (hl : G.1 a = 9) : xf (gH n kc ks G) a 1 3 = some (va_rf (some (a + 4))) := gf_gen (k := 3) (d := 7) hl rfl rfl
theorem gq_10 (hl : G.1 a = 10) : xa (gH n kc ks G) a 17 = some (G.2.1 a, gel G a) := ga_gen hl rfl
theorem gN_10 (hl : G.1 a = 10) : xlen g (gH n kc ks G) a = some (G.2.1 a) := xlen_of (gq_10 hl)
theorem gl_10 (hl : G.1 a = 10) : xalda (gH n kc ks G) a x = if xin x (G.2.1 a) = true then some (va_rf (G.2.2.2.2 a x.toNatClampNeg)) else none := by
  unfold xalda
  rw [gtag hl rfl]
  show xald _ a 17 x = _
  unfold xald
  rw [gq_10 hl]
  dsimp only
  rw [gel_R hl (by decide) (by decide) (by decide)]
theorem gs_10 (hl : G.1 a = 10) (hu : ∀ b, u = some b → xcl (gH n kc ks G) b = some 7) : xasta (gH n kc ks G) a x u = if xin x (G.2.1 a) = true then some (gH n kc ks (gsR G a x.toNatClampNeg u)) else none := by
  cases u with
  | none =>
    show (if xtr (xtag (gH n kc ks G) a) = true then xast _ a (xtag (gH n kc ks G) a) x (va_rf none) else none) = _
    rw [gtag hl rfl]
    show xast _ a 17 x (va_rf none) = _
    unfold xast
    rw [gq_10 hl]
    dsimp only
    rw [gsR_st hl rfl (by decide) (by decide) (by decide)]
  | some b =>
    show (if (xtr (xtag (gH n kc ks G) a) && xcl (gH n kc ks G) b == some (xtag (gH n kc ks G) a - 10)) = true then xast _ a (xtag (gH n kc ks G) a) x (va_rf (some b)) else none) = _
    rw [gtag hl rfl, hu b rfl]
    show xast _ a 17 x (va_rf (some b)) = _
    unfold xast
    rw [gq_10 hl]
    dsimp only
    rw [gsR_st hl rfl (by decide) (by decide) (by decide)]
theorem gn_10 : xnew (gH n kc ks G) (.inl (17, l, fun _ => va_rf none)) k = gH (n + 1) (kc + 1) (ks + k) (gnew G n 10 l) := by
  refine gn_gen ?_
  have e : (gnew G n 10 l).1 n = 10 := if_pos rfl
  unfold gcl
  rw [e]
  show some (Sum.inl (17, (gnew G n 10 l).2.1 n, gel _ n)) = _
  rw [gnew2, if_pos rfl]
  congr 4
  funext i
  rw [gel_R e (by decide) (by decide) (by decide), gnew5, if_pos rfl]
theorem gq_11 (hl : G.1 a = 11) : xa (gH n kc ks G) a 0 = some (G.2.1 a, gel G a) := ga_gen hl rfl
theorem gN_11 (hl : G.1 a = 11) : xlen g (gH n kc ks G) a = some (G.2.1 a) := xlen_of (gq_11 hl)
theorem gl_11 (hl : G.1 a = 11) : xaldi g (gH n kc ks G) a x = if xin x (G.2.1 a) = true then some (.int (G.2.2.1 a x.toNatClampNeg)) else none := by
  unfold xaldi
  rw [gq_11 hl]
  dsimp only
  rw [gel_I hl (by decide) (by decide) (by decide)]
theorem gs_11 (hl : G.1 a = 11) : xast (gH n kc ks G) a 0 x (.int v) = if xin x (G.2.1 a) = true then some (gH n kc ks (gsI G a x.toNatClampNeg v)) else none := by
  unfold xast
  rw [gq_11 hl]
  dsimp only
  rw [gsI_st hl rfl (by decide) (by decide) (by decide)]
theorem gn_11 : xnew (gH n kc ks G) (.inl (0, l, fun _ => .int 0)) k = gH (n + 1) (kc + 1) (ks + k) (gnew G n 11 l) := by
  refine gn_gen ?_
  have e : (gnew G n 11 l).1 n = 11 := if_pos rfl
  unfold gcl
  rw [e]
  show some (Sum.inl (0, (gnew G n 11 l).2.1 n, gel _ n)) = _
  rw [gnew2, if_pos rfl]
  congr 4
  funext i
  rw [gel_I e (by decide) (by decide) (by decide), gnew3, if_pos rfl]
theorem gq_12 (hl : G.1 a = 12) : xa (gH n kc ks G) a 0 = some (G.2.1 a, gel G a) := ga_gen hl rfl
theorem gN_12 (hl : G.1 a = 12) : xlen g (gH n kc ks G) a = some (G.2.1 a) := xlen_of (gq_12 hl)
theorem gl_12 (hl : G.1 a = 12) : xaldi g (gH n kc ks G) a x = if xin x (G.2.1 a) = true then some (.int (G.2.2.1 a x.toNatClampNeg)) else none := by
  unfold xaldi
  rw [gq_12 hl]
  dsimp only
  rw [gel_I hl (by decide) (by decide) (by decide)]
theorem gs_12 (hl : G.1 a = 12) : xast (gH n kc ks G) a 0 x (.int v) = if xin x (G.2.1 a) = true then some (gH n kc ks (gsI G a x.toNatClampNeg v)) else none := by
  unfold xast
  rw [gq_12 hl]
  dsimp only
  rw [gsI_st hl rfl (by decide) (by decide) (by decide)]
theorem gn_12 : xnew (gH n kc ks G) (.inl (0, l, fun _ => .int 0)) k = gH (n + 1) (kc + 1) (ks + k) (gnew G n 12 l) := by
  refine gn_gen ?_
  have e : (gnew G n 12 l).1 n = 12 := if_pos rfl
  unfold gcl
  rw [e]
  show some (Sum.inl (0, (gnew G n 12 l).2.1 n, gel _ n)) = _
  rw [gnew2, if_pos rfl]
  congr 4
  funext i
  rw [gel_I e (by decide) (by decide) (by decide), gnew3, if_pos rfl]
theorem gq_13 (hl : G.1 a = 13) : xa (gH n kc ks G) a 19 = some (G.2.1 a, gel G a) := ga_gen hl rfl
theorem gl_13 (hl : G.1 a = 13) : xalda (gH n kc ks G) a x = if xin x (G.2.1 a) = true then some (va_rf (some (a + 1 + x.toNatClampNeg))) else none := by
  unfold xalda
  rw [gtag hl rfl]
  show xald _ a 19 x = _
  unfold xald
  rw [gq_13 hl]
  dsimp only
  rw [gel_13 hl]
  by_cases c : xin x (G.2.1 a) = true
  · rw [if_pos c, if_pos c, if_pos (xin_cl c)]
  · rw [if_neg c, if_neg c]
theorem gN_13 (hl : G.1 a = 13) : xlen g (gH n kc ks G) a = some (G.2.1 a) := xlen_of (gq_13 hl)
theorem gc_14 (hl : G.1 a = 14) : xcl (gH n kc ks G) a = some 9 := gc_gen hl rfl
theorem gf_14_0 (hl : G.1 a = 14) : xf (gH n kc ks G) a 9 0 = some (.int (G.2.2.1 a 0)) := gf_gen (k := 0) (d := 0) hl rfl rfl
theorem gp_14_0 (hl : G.1 a = 14) : xpf (gH n kc ks G) a 9 0 (.int v) = gH n kc ks (gsI G a 0 v) := gpI hl rfl rfl
theorem gf_14_1 (hl : G.1 a = 14) : xf (gH n kc ks G) a 9 1 = some (.int (G.2.2.1 a 1)) := gf_gen (k := 1) (d := 0) hl rfl rfl
theorem gp_14_1 (hl : G.1 a = 14) : xpf (gH n kc ks G) a 9 1 (.int v) = gH n kc ks (gsI G a 1 v) := gpI hl rfl rfl
theorem gf_14_2 (hl : G.1 a = 14) : xf (gH n kc ks G) a 9 2 = some (.int (G.2.2.1 a 2)) := gf_gen (k := 2) (d := 0) hl rfl rfl
theorem gp_14_2 (hl : G.1 a = 14) : xpf (gH n kc ks G) a 9 2 (.int v) = gH n kc ks (gsI G a 2 v) := gpI hl rfl rfl
theorem gf_14_3 (hl : G.1 a = 14) : xf (gH n kc ks G) a 9 3 = some (.int (G.2.2.1 a 3)) := gf_gen (k := 3) (d := 0) hl rfl rfl
theorem gp_14_3 (hl : G.1 a = 14) : xpf (gH n kc ks G) a 9 3 (.int v) = gH n kc ks (gsI G a 3 v) := gpI hl rfl rfl
theorem gf_14_4 (hl : G.1 a = 14) : xf (gH n kc ks G) a 9 4 = some (.int (G.2.2.1 a 4)) := gf_gen (k := 4) (d := 0) hl rfl rfl
theorem gp_14_4 (hl : G.1 a = 14) : xpf (gH n kc ks G) a 9 4 (.int v) = gH n kc ks (gsI G a 4 v) := gpI hl rfl rfl
theorem gc_15 (hl : G.1 a = 15) : xcl (gH n kc ks G) a = some 10 := gc_gen hl rfl
theorem gf_15_0 (hl : G.1 a = 15) : xf (gH n kc ks G) a 10 0 = some (va_rf (some (a + 1))) := gf_gen (k := 0) (d := 4) hl rfl rfl
theorem gf_15_1 (hl : G.1 a = 15) : xf (gH n kc ks G) a 10 1 = some (va_rf (some (a + 2))) := gf_gen (k := 1) (d := 5) hl rfl rfl
theorem gf_15_2 (hl : G.1 a = 15) : xf (gH n kc ks G) a 10 2 = some (va_rf (some (a + 3))) := gf_gen (k := 2) (d := 6) hl rfl rfl
theorem gf_15_3 (hl : G.1 a = 15) : xf (gH n kc ks G) a 10 3 = some (va_rf (some (a + 4))) := gf_gen (k := 3) (d := 7) hl rfl rfl
theorem gf_15_4 (hl : G.1 a = 15) : xf (gH n kc ks G) a 10 4 = some (va_rf (some (a + 5))) := gf_gen (k := 4) (d := 8) hl rfl rfl
theorem gf_15_5 (hl : G.1 a = 15) : xf (gH n kc ks G) a 10 5 = some (va_rf (some (a + 6))) := gf_gen (k := 5) (d := 9) hl rfl rfl
theorem gf_15_6 (hl : G.1 a = 15) : xf (gH n kc ks G) a 10 6 = some (va_rf (some (a + 7))) := gf_gen (k := 6) (d := 10) hl rfl rfl
theorem gf_15_7 (hl : G.1 a = 15) : xf (gH n kc ks G) a 10 7 = some (va_rf (some (a + 10))) := gf_gen (k := 7) (d := 13) hl rfl rfl
theorem gf_15_8 (hl : G.1 a = 15) : xf (gH n kc ks G) a 10 8 = some (va_rf (some (a + 13))) := gf_gen (k := 8) (d := 16) hl rfl rfl
theorem gf_15_9 (hl : G.1 a = 15) : xf (gH n kc ks G) a 10 9 = some (va_rf (G.2.2.2.2 a 9)) := gf_gen (k := 9) (d := 2) hl rfl rfl
theorem gp_15_9 (hl : G.1 a = 15) : xpf (gH n kc ks G) a 10 9 (va_rf u) = gH n kc ks (gsR G a 9 u) := gpR hl rfl rfl
theorem gf_15_10 (hl : G.1 a = 15) : xf (gH n kc ks G) a 10 10 = some (va_rf (G.2.2.2.2 a 10)) := gf_gen (k := 10) (d := 2) hl rfl rfl
theorem gp_15_10 (hl : G.1 a = 15) : xpf (gH n kc ks G) a 10 10 (va_rf u) = gH n kc ks (gsR G a 10 u) := gpR hl rfl rfl
theorem gf_15_11 (hl : G.1 a = 15) : xf (gH n kc ks G) a 10 11 = some (.int (G.2.2.1 a 11)) := gf_gen (k := 11) (d := 0) hl rfl rfl
theorem gp_15_11 (hl : G.1 a = 15) : xpf (gH n kc ks G) a 10 11 (.int v) = gH n kc ks (gsI G a 11 v) := gpI hl rfl rfl
theorem gf_15_12 (hl : G.1 a = 15) : xf (gH n kc ks G) a 10 12 = some (.int (G.2.2.1 a 12)) := gf_gen (k := 12) (d := 0) hl rfl rfl
theorem gp_15_12 (hl : G.1 a = 15) : xpf (gH n kc ks G) a 10 12 (.int v) = gH n kc ks (gsI G a 12 v) := gpI hl rfl rfl
theorem gf_15_13 (hl : G.1 a = 15) : xf (gH n kc ks G) a 10 13 = some (.int (G.2.2.1 a 13)) := gf_gen (k := 13) (d := 0) hl rfl rfl
theorem gp_15_13 (hl : G.1 a = 15) : xpf (gH n kc ks G) a 10 13 (.int v) = gH n kc ks (gsI G a 13 v) := gpI hl rfl rfl
theorem gf_15_14 (hl : G.1 a = 15) : xf (gH n kc ks G) a 10 14 = some (.int (G.2.2.1 a 14)) := gf_gen (k := 14) (d := 0) hl rfl rfl
theorem gp_15_14 (hl : G.1 a = 15) : xpf (gH n kc ks G) a 10 14 (.int v) = gH n kc ks (gsI G a 14 v) := gpI hl rfl rfl
theorem gc_16 (hl : G.1 a = 16) : xcl (gH n kc ks G) a = some 2 := gc_gen hl rfl
theorem gf_16_0 (hl : G.1 a = 16) : xf (gH n kc ks G) a 2 0 = some (.int (G.2.2.1 a 0)) := gf_gen (k := 0) (d := 0) hl rfl rfl
theorem gp_16_0 (hl : G.1 a = 16) : xpf (gH n kc ks G) a 2 0 (.int v) = gH n kc ks (gsI G a 0 v) := gpI hl rfl rfl
theorem gf_16_1 (hl : G.1 a = 16) : xf (gH n kc ks G) a 2 1 = some (.long (G.2.2.2.1 a 1)) := gf_gen (k := 1) (d := 1) hl rfl rfl
theorem gp_16_1 (hl : G.1 a = 16) : xpf (gH n kc ks G) a 2 1 (.long w) = gH n kc ks (gsJ G a 1 w) := gpJ hl rfl rfl
theorem gq_17 (hl : G.1 a = 17) : xa (gH n kc ks G) a 1 = some (G.2.1 a, gel G a) := ga_gen hl rfl
theorem gN_17 (hl : G.1 a = 17) : xlen g (gH n kc ks G) a = some (G.2.1 a) := xlen_of (gq_17 hl)
theorem gl_17 (hl : G.1 a = 17) : xald (gH n kc ks G) a 1 x = if xin x (G.2.1 a) = true then some (.long (G.2.2.2.1 a x.toNatClampNeg)) else none := by
  unfold xald
  rw [gq_17 hl]
  dsimp only
  rw [gel_J hl (by decide)]
theorem gs_17 (hl : G.1 a = 17) : xast (gH n kc ks G) a 1 x (.long w) = if xin x (G.2.1 a) = true then some (gH n kc ks (gsJ G a x.toNatClampNeg w)) else none := by
  unfold xast
  rw [gq_17 hl]
  dsimp only
  rw [gsJ_st hl rfl]
theorem gn_17 : xnew (gH n kc ks G) (.inl (1, l, fun _ => .long 0)) k = gH (n + 1) (kc + 1) (ks + k) (gnew G n 17 l) := by
  refine gn_gen ?_
  have e : (gnew G n 17 l).1 n = 17 := if_pos rfl
  unfold gcl
  rw [e]
  show some (Sum.inl (1, (gnew G n 17 l).2.1 n, gel _ n)) = _
  rw [gnew2, if_pos rfl]
  congr 4
  funext i
  rw [gel_J e (by decide), gnew4, if_pos rfl]
theorem gq_18 (hl : G.1 a = 18) : xa (gH n kc ks G) a 0 = some (G.2.1 a, gel G a) := ga_gen hl rfl
theorem gN_18 (hl : G.1 a = 18) : xlen g (gH n kc ks G) a = some (G.2.1 a) := xlen_of (gq_18 hl)
theorem gl_18 (hl : G.1 a = 18) : xaldi g (gH n kc ks G) a x = if xin x (G.2.1 a) = true then some (.int (G.2.2.1 a x.toNatClampNeg)) else none := by
  unfold xaldi
  rw [gq_18 hl]
  dsimp only
  rw [gel_I hl (by decide) (by decide) (by decide)]
theorem gs_18 (hl : G.1 a = 18) : xast (gH n kc ks G) a 0 x (.int v) = if xin x (G.2.1 a) = true then some (gH n kc ks (gsI G a x.toNatClampNeg v)) else none := by
  unfold xast
  rw [gq_18 hl]
  dsimp only
  rw [gsI_st hl rfl (by decide) (by decide) (by decide)]
theorem gn_18 : xnew (gH n kc ks G) (.inl (0, l, fun _ => .int 0)) k = gH (n + 1) (kc + 1) (ks + k) (gnew G n 18 l) := by
  refine gn_gen ?_
  have e : (gnew G n 18 l).1 n = 18 := if_pos rfl
  unfold gcl
  rw [e]
  show some (Sum.inl (0, (gnew G n 18 l).2.1 n, gel _ n)) = _
  rw [gnew2, if_pos rfl]
  congr 4
  funext i
  rw [gel_I e (by decide) (by decide) (by decide), gnew3, if_pos rfl]
theorem gq_19 (hl : G.1 a = 19) : xa (gH n kc ks G) a 0 = some (G.2.1 a, gel G a) := ga_gen hl rfl
theorem gN_19 (hl : G.1 a = 19) : xlen g (gH n kc ks G) a = some (G.2.1 a) := xlen_of (gq_19 hl)
theorem gl_19 (hl : G.1 a = 19) : xaldi g (gH n kc ks G) a x = if xin x (G.2.1 a) = true then some (.int (G.2.2.1 a x.toNatClampNeg)) else none := by
  unfold xaldi
  rw [gq_19 hl]
  dsimp only
  rw [gel_I hl (by decide) (by decide) (by decide)]
theorem gs_19 (hl : G.1 a = 19) : xast (gH n kc ks G) a 0 x (.int v) = if xin x (G.2.1 a) = true then some (gH n kc ks (gsI G a x.toNatClampNeg v)) else none := by
  unfold xast
  rw [gq_19 hl]
  dsimp only
  rw [gsI_st hl rfl (by decide) (by decide) (by decide)]
theorem gn_19 : xnew (gH n kc ks G) (.inl (0, l, fun _ => .int 0)) k = gH (n + 1) (kc + 1) (ks + k) (gnew G n 19 l) := by
  refine gn_gen ?_
  have e : (gnew G n 19 l).1 n = 19 := if_pos rfl
  unfold gcl
  rw [e]
  show some (Sum.inl (0, (gnew G n 19 l).2.1 n, gel _ n)) = _
  rw [gnew2, if_pos rfl]
  congr 4
  funext i
  rw [gel_I e (by decide) (by decide) (by decide), gnew3, if_pos rfl]
theorem gc_20 (hl : G.1 a = 20) : xcl (gH n kc ks G) a = some 3 := gc_gen hl rfl
theorem gf_20_0 (hl : G.1 a = 20) : xf (gH n kc ks G) a 3 0 = some (va_rf (some (a + 1))) := gf_gen (k := 0) (d := 4) hl rfl rfl
theorem gf_20_1 (hl : G.1 a = 20) : xf (gH n kc ks G) a 3 1 = some (.int (G.2.2.1 a 1)) := gf_gen (k := 1) (d := 0) hl rfl rfl
theorem gp_20_1 (hl : G.1 a = 20) : xpf (gH n kc ks G) a 3 1 (.int v) = gH n kc ks (gsI G a 1 v) := gpI hl rfl rfl
theorem gf_20_2 (hl : G.1 a = 20) : xf (gH n kc ks G) a 3 2 = some (va_rf (some (a + 2))) := gf_gen (k := 2) (d := 5) hl rfl rfl
theorem gf_20_3 (hl : G.1 a = 20) : xf (gH n kc ks G) a 3 3 = some (.int (G.2.2.1 a 3)) := gf_gen (k := 3) (d := 0) hl rfl rfl
theorem gp_20_3 (hl : G.1 a = 20) : xpf (gH n kc ks G) a 3 3 (.int v) = gH n kc ks (gsI G a 3 v) := gpI hl rfl rfl
theorem gf_20_4 (hl : G.1 a = 20) : xf (gH n kc ks G) a 3 4 = some (.int (G.2.2.1 a 4)) := gf_gen (k := 4) (d := 0) hl rfl rfl
theorem gp_20_4 (hl : G.1 a = 20) : xpf (gH n kc ks G) a 3 4 (.int v) = gH n kc ks (gsI G a 4 v) := gpI hl rfl rfl
theorem gq_21 (hl : G.1 a = 21) : xa (gH n kc ks G) a 16 = some (G.2.1 a, gel G a) := ga_gen hl rfl
theorem gN_21 (hl : G.1 a = 21) : xlen g (gH n kc ks G) a = some (G.2.1 a) := xlen_of (gq_21 hl)
theorem gl_21 (hl : G.1 a = 21) : xalda (gH n kc ks G) a x = if xin x (G.2.1 a) = true then some (va_rf (G.2.2.2.2 a x.toNatClampNeg)) else none := by
  unfold xalda
  rw [gtag hl rfl]
  show xald _ a 16 x = _
  unfold xald
  rw [gq_21 hl]
  dsimp only
  rw [gel_R hl (by decide) (by decide) (by decide)]
theorem gs_21 (hl : G.1 a = 21) (hu : ∀ b, u = some b → xcl (gH n kc ks G) b = some 6) : xasta (gH n kc ks G) a x u = if xin x (G.2.1 a) = true then some (gH n kc ks (gsR G a x.toNatClampNeg u)) else none := by
  cases u with
  | none =>
    show (if xtr (xtag (gH n kc ks G) a) = true then xast _ a (xtag (gH n kc ks G) a) x (va_rf none) else none) = _
    rw [gtag hl rfl]
    show xast _ a 16 x (va_rf none) = _
    unfold xast
    rw [gq_21 hl]
    dsimp only
    rw [gsR_st hl rfl (by decide) (by decide) (by decide)]
  | some b =>
    show (if (xtr (xtag (gH n kc ks G) a) && xcl (gH n kc ks G) b == some (xtag (gH n kc ks G) a - 10)) = true then xast _ a (xtag (gH n kc ks G) a) x (va_rf (some b)) else none) = _
    rw [gtag hl rfl, hu b rfl]
    show xast _ a 16 x (va_rf (some b)) = _
    unfold xast
    rw [gq_21 hl]
    dsimp only
    rw [gsR_st hl rfl (by decide) (by decide) (by decide)]
theorem gn_21 : xnew (gH n kc ks G) (.inl (16, l, fun _ => va_rf none)) k = gH (n + 1) (kc + 1) (ks + k) (gnew G n 21 l) := by
  refine gn_gen ?_
  have e : (gnew G n 21 l).1 n = 21 := if_pos rfl
  unfold gcl
  rw [e]
  show some (Sum.inl (16, (gnew G n 21 l).2.1 n, gel _ n)) = _
  rw [gnew2, if_pos rfl]
  congr 4
  funext i
  rw [gel_R e (by decide) (by decide) (by decide), gnew5, if_pos rfl]
theorem gq_22 (hl : G.1 a = 22) : xa (gH n kc ks G) a 10 = some (G.2.1 a, gel G a) := ga_gen hl rfl
theorem gN_22 (hl : G.1 a = 22) : xlen g (gH n kc ks G) a = some (G.2.1 a) := xlen_of (gq_22 hl)
theorem gl_22 (hl : G.1 a = 22) : xalda (gH n kc ks G) a x = if xin x (G.2.1 a) = true then some (va_rf (G.2.2.2.2 a x.toNatClampNeg)) else none := by
  unfold xalda
  rw [gtag hl rfl]
  show xald _ a 10 x = _
  unfold xald
  rw [gq_22 hl]
  dsimp only
  rw [gel_R hl (by decide) (by decide) (by decide)]
theorem gs_22 (hl : G.1 a = 22) (hu : ∀ b, u = some b → xcl (gH n kc ks G) b = some 0) : xasta (gH n kc ks G) a x u = if xin x (G.2.1 a) = true then some (gH n kc ks (gsR G a x.toNatClampNeg u)) else none := by
  cases u with
  | none =>
    show (if xtr (xtag (gH n kc ks G) a) = true then xast _ a (xtag (gH n kc ks G) a) x (va_rf none) else none) = _
    rw [gtag hl rfl]
    show xast _ a 10 x (va_rf none) = _
    unfold xast
    rw [gq_22 hl]
    dsimp only
    rw [gsR_st hl rfl (by decide) (by decide) (by decide)]
  | some b =>
    show (if (xtr (xtag (gH n kc ks G) a) && xcl (gH n kc ks G) b == some (xtag (gH n kc ks G) a - 10)) = true then xast _ a (xtag (gH n kc ks G) a) x (va_rf (some b)) else none) = _
    rw [gtag hl rfl, hu b rfl]
    show xast _ a 10 x (va_rf (some b)) = _
    unfold xast
    rw [gq_22 hl]
    dsimp only
    rw [gsR_st hl rfl (by decide) (by decide) (by decide)]
theorem gn_22 : xnew (gH n kc ks G) (.inl (10, l, fun _ => va_rf none)) k = gH (n + 1) (kc + 1) (ks + k) (gnew G n 22 l) := by
  refine gn_gen ?_
  have e : (gnew G n 22 l).1 n = 22 := if_pos rfl
  unfold gcl
  rw [e]
  show some (Sum.inl (10, (gnew G n 22 l).2.1 n, gel _ n)) = _
  rw [gnew2, if_pos rfl]
  congr 4
  funext i
  rw [gel_R e (by decide) (by decide) (by decide), gnew5, if_pos rfl]
theorem gc_23 (hl : G.1 a = 23) : xcl (gH n kc ks G) a = some 8 := gc_gen hl rfl
theorem gf_23_0 (hl : G.1 a = 23) : xf (gH n kc ks G) a 8 0 = some (va_rf (some (a + 1))) := gf_gen (k := 0) (d := 4) hl rfl rfl
theorem gf_23_1 (hl : G.1 a = 23) : xf (gH n kc ks G) a 8 1 = some (va_rf (some (a + 2))) := gf_gen (k := 1) (d := 5) hl rfl rfl
theorem gf_23_2 (hl : G.1 a = 23) : xf (gH n kc ks G) a 8 2 = some (.int (G.2.2.1 a 2)) := gf_gen (k := 2) (d := 0) hl rfl rfl
theorem gp_23_2 (hl : G.1 a = 23) : xpf (gH n kc ks G) a 8 2 (.int v) = gH n kc ks (gsI G a 2 v) := gpI hl rfl rfl
theorem gf_23_3 (hl : G.1 a = 23) : xf (gH n kc ks G) a 8 3 = some (.int (G.2.2.1 a 3)) := gf_gen (k := 3) (d := 0) hl rfl rfl
theorem gp_23_3 (hl : G.1 a = 23) : xpf (gH n kc ks G) a 8 3 (.int v) = gH n kc ks (gsI G a 3 v) := gpI hl rfl rfl
theorem gf_23_4 (hl : G.1 a = 23) : xf (gH n kc ks G) a 8 4 = some (.int (G.2.2.1 a 4)) := gf_gen (k := 4) (d := 0) hl rfl rfl
theorem gp_23_4 (hl : G.1 a = 23) : xpf (gH n kc ks G) a 8 4 (.int v) = gH n kc ks (gsI G a 4 v) := gpI hl rfl rfl
theorem gq_24 (hl : G.1 a = 24) : xa (gH n kc ks G) a 2 = some (G.2.1 a, gel G a) := ga_gen hl rfl
theorem gN_24 (hl : G.1 a = 24) : xlen g (gH n kc ks G) a = some (G.2.1 a) := xlen_of (gq_24 hl)
theorem gl_24 (hl : G.1 a = 24) : xaldb (gH n kc ks G) a x = if xin x (G.2.1 a) = true then some (.int (G.2.2.1 a x.toNatClampNeg)) else none := by
  unfold xaldb
  rw [gtag hl rfl]
  show xald _ a 2 x = _
  unfold xald
  rw [gq_24 hl]
  dsimp only
  rw [gel_I hl (by decide) (by decide) (by decide)]
theorem gs_24 (hl : G.1 a = 24) : xastb (gH n kc ks G) a x v = if xin x (G.2.1 a) = true then some (gH n kc ks (gsI G a x.toNatClampNeg v.toInt8.toInt32)) else none := by
  unfold xastb
  rw [gtag hl rfl]
  show xast _ a 2 x (.int v.toInt8.toInt32) = _
  unfold xast
  rw [gq_24 hl]
  dsimp only
  rw [gsI_st hl rfl (by decide) (by decide) (by decide)]
theorem gn_24 : xnew (gH n kc ks G) (.inl (2, l, fun _ => .int 0)) k = gH (n + 1) (kc + 1) (ks + k) (gnew G n 24 l) := by
  refine gn_gen ?_
  have e : (gnew G n 24 l).1 n = 24 := if_pos rfl
  unfold gcl
  rw [e]
  show some (Sum.inl (2, (gnew G n 24 l).2.1 n, gel _ n)) = _
  rw [gnew2, if_pos rfl]
  congr 4
  funext i
  rw [gel_I e (by decide) (by decide) (by decide), gnew3, if_pos rfl]
theorem gq_25 (hl : G.1 a = 25) : xa (gH n kc ks G) a 14 = some (G.2.1 a, gel G a) := ga_gen hl rfl
theorem gN_25 (hl : G.1 a = 25) : xlen g (gH n kc ks G) a = some (G.2.1 a) := xlen_of (gq_25 hl)
theorem gl_25 (hl : G.1 a = 25) : xalda (gH n kc ks G) a x = if xin x (G.2.1 a) = true then some (va_rf (G.2.2.2.2 a x.toNatClampNeg)) else none := by
  unfold xalda
  rw [gtag hl rfl]
  show xald _ a 14 x = _
  unfold xald
  rw [gq_25 hl]
  dsimp only
  rw [gel_R hl (by decide) (by decide) (by decide)]
theorem gs_25 (hl : G.1 a = 25) (hu : ∀ b, u = some b → xcl (gH n kc ks G) b = some 4) : xasta (gH n kc ks G) a x u = if xin x (G.2.1 a) = true then some (gH n kc ks (gsR G a x.toNatClampNeg u)) else none := by
  cases u with
  | none =>
    show (if xtr (xtag (gH n kc ks G) a) = true then xast _ a (xtag (gH n kc ks G) a) x (va_rf none) else none) = _
    rw [gtag hl rfl]
    show xast _ a 14 x (va_rf none) = _
    unfold xast
    rw [gq_25 hl]
    dsimp only
    rw [gsR_st hl rfl (by decide) (by decide) (by decide)]
  | some b =>
    show (if (xtr (xtag (gH n kc ks G) a) && xcl (gH n kc ks G) b == some (xtag (gH n kc ks G) a - 10)) = true then xast _ a (xtag (gH n kc ks G) a) x (va_rf (some b)) else none) = _
    rw [gtag hl rfl, hu b rfl]
    show xast _ a 14 x (va_rf (some b)) = _
    unfold xast
    rw [gq_25 hl]
    dsimp only
    rw [gsR_st hl rfl (by decide) (by decide) (by decide)]
theorem gn_25 : xnew (gH n kc ks G) (.inl (14, l, fun _ => va_rf none)) k = gH (n + 1) (kc + 1) (ks + k) (gnew G n 25 l) := by
  refine gn_gen ?_
  have e : (gnew G n 25 l).1 n = 25 := if_pos rfl
  unfold gcl
  rw [e]
  show some (Sum.inl (14, (gnew G n 25 l).2.1 n, gel _ n)) = _
  rw [gnew2, if_pos rfl]
  congr 4
  funext i
  rw [gel_R e (by decide) (by decide) (by decide), gnew5, if_pos rfl]
theorem gc_26 (hl : G.1 a = 26) : xcl (gH n kc ks G) a = some 5 := gc_gen hl rfl
theorem gf_26_0 (hl : G.1 a = 26) : xf (gH n kc ks G) a 5 0 = some (va_rf (some (a + 1))) := gf_gen (k := 0) (d := 4) hl rfl rfl
theorem gf_26_1 (hl : G.1 a = 26) : xf (gH n kc ks G) a 5 1 = some (va_rf (some (a + 2))) := gf_gen (k := 1) (d := 5) hl rfl rfl
theorem gf_26_2 (hl : G.1 a = 26) : xf (gH n kc ks G) a 5 2 = some (.int (G.2.2.1 a 2)) := gf_gen (k := 2) (d := 0) hl rfl rfl
theorem gp_26_2 (hl : G.1 a = 26) : xpf (gH n kc ks G) a 5 2 (.int v) = gH n kc ks (gsI G a 2 v) := gpI hl rfl rfl
theorem gq_27 (hl : G.1 a = 27) : xa (gH n kc ks G) a 2 = some (G.2.1 a, gel G a) := ga_gen hl rfl
theorem gN_27 (hl : G.1 a = 27) : xlen g (gH n kc ks G) a = some (G.2.1 a) := xlen_of (gq_27 hl)
theorem gl_27 (hl : G.1 a = 27) : xaldb (gH n kc ks G) a x = if xin x (G.2.1 a) = true then some (.int (G.2.2.1 a x.toNatClampNeg)) else none := by
  unfold xaldb
  rw [gtag hl rfl]
  show xald _ a 2 x = _
  unfold xald
  rw [gq_27 hl]
  dsimp only
  rw [gel_I hl (by decide) (by decide) (by decide)]
theorem gs_27 (hl : G.1 a = 27) : xastb (gH n kc ks G) a x v = if xin x (G.2.1 a) = true then some (gH n kc ks (gsI G a x.toNatClampNeg v.toInt8.toInt32)) else none := by
  unfold xastb
  rw [gtag hl rfl]
  show xast _ a 2 x (.int v.toInt8.toInt32) = _
  unfold xast
  rw [gq_27 hl]
  dsimp only
  rw [gsI_st hl rfl (by decide) (by decide) (by decide)]
theorem gn_27 : xnew (gH n kc ks G) (.inl (2, l, fun _ => .int 0)) k = gH (n + 1) (kc + 1) (ks + k) (gnew G n 27 l) := by
  refine gn_gen ?_
  have e : (gnew G n 27 l).1 n = 27 := if_pos rfl
  unfold gcl
  rw [e]
  show some (Sum.inl (2, (gnew G n 27 l).2.1 n, gel _ n)) = _
  rw [gnew2, if_pos rfl]
  congr 4
  funext i
  rw [gel_I e (by decide) (by decide) (by decide), gnew3, if_pos rfl]
theorem gq_28 (hl : G.1 a = 28) : xa (gH n kc ks G) a 2 = some (G.2.1 a, gel G a) := ga_gen hl rfl
theorem gN_28 (hl : G.1 a = 28) : xlen g (gH n kc ks G) a = some (G.2.1 a) := xlen_of (gq_28 hl)
theorem gl_28 (hl : G.1 a = 28) : xaldb (gH n kc ks G) a x = if xin x (G.2.1 a) = true then some (.int (G.2.2.1 a x.toNatClampNeg)) else none := by
  unfold xaldb
  rw [gtag hl rfl]
  show xald _ a 2 x = _
  unfold xald
  rw [gq_28 hl]
  dsimp only
  rw [gel_I hl (by decide) (by decide) (by decide)]
theorem gs_28 (hl : G.1 a = 28) : xastb (gH n kc ks G) a x v = if xin x (G.2.1 a) = true then some (gH n kc ks (gsI G a x.toNatClampNeg v.toInt8.toInt32)) else none := by
  unfold xastb
  rw [gtag hl rfl]
  show xast _ a 2 x (.int v.toInt8.toInt32) = _
  unfold xast
  rw [gq_28 hl]
  dsimp only
  rw [gsI_st hl rfl (by decide) (by decide) (by decide)]
theorem gn_28 : xnew (gH n kc ks G) (.inl (2, l, fun _ => .int 0)) k = gH (n + 1) (kc + 1) (ks + k) (gnew G n 28 l) := by
  refine gn_gen ?_
  have e : (gnew G n 28 l).1 n = 28 := if_pos rfl
  unfold gcl
  rw [e]
  show some (Sum.inl (2, (gnew G n 28 l).2.1 n, gel _ n)) = _
  rw [gnew2, if_pos rfl]
  congr 4
  funext i
  rw [gel_I e (by decide) (by decide) (by decide), gnew3, if_pos rfl]
theorem gc_30 (hl : G.1 a = 30) : xcl (gH n kc ks G) a = some 0 := gc_gen hl rfl
theorem gf_30_0 (hl : G.1 a = 30) : xf (gH n kc ks G) a 0 0 = some (va_rf (G.2.2.2.2 a 0)) := gf_gen (k := 0) (d := 2) hl rfl rfl
theorem gp_30_0 (hl : G.1 a = 30) : xpf (gH n kc ks G) a 0 0 (va_rf u) = gH n kc ks (gsR G a 0 u) := gpR hl rfl rfl
theorem gn_30 : xnew (gH n kc ks G) (.inr (0, xdef 0)) (xdef 0).length = gH (n + 1) (kc + 1) (ks + 1) (gnew G n 30 0) := by
  refine gn_gen ?_
  unfold gcl
  rw [show (gnew G n 30 0).1 n = 30 from if_pos rfl]
  show some (Sum.inr (0, gfs _ n)) = _
  unfold gfs
  rw [show (gnew G n 30 0).1 n = 30 from if_pos rfl]
  show some (Sum.inr (0, (List.range 1).map _)) = _
  simp [List.range_succ, gval, gnew, xdef, fd]
theorem gc_31 (hl : G.1 a = 31) : xcl (gH n kc ks G) a = some 1 := gc_gen hl rfl
theorem gf_31_0 (hl : G.1 a = 31) : xf (gH n kc ks G) a 1 0 = some (va_rf (G.2.2.2.2 a 0)) := gf_gen (k := 0) (d := 2) hl rfl rfl
theorem gp_31_0 (hl : G.1 a = 31) : xpf (gH n kc ks G) a 1 0 (va_rf u) = gH n kc ks (gsR G a 0 u) := gpR hl rfl rfl
theorem gf_31_1 (hl : G.1 a = 31) : xf (gH n kc ks G) a 1 1 = some (va_rf (G.2.2.2.2 a 1)) := gf_gen (k := 1) (d := 2) hl rfl rfl
theorem gp_31_1 (hl : G.1 a = 31) : xpf (gH n kc ks G) a 1 1 (va_rf u) = gH n kc ks (gsR G a 1 u) := gpR hl rfl rfl
theorem gf_31_2 (hl : G.1 a = 31) : xf (gH n kc ks G) a 1 2 = some (va_rf (G.2.2.2.2 a 2)) := gf_gen (k := 2) (d := 2) hl rfl rfl
theorem gp_31_2 (hl : G.1 a = 31) : xpf (gH n kc ks G) a 1 2 (va_rf u) = gH n kc ks (gsR G a 2 u) := gpR hl rfl rfl
theorem gf_31_3 (hl : G.1 a = 31) : xf (gH n kc ks G) a 1 3 = some (va_rf (G.2.2.2.2 a 3)) := gf_gen (k := 3) (d := 2) hl rfl rfl
theorem gp_31_3 (hl : G.1 a = 31) : xpf (gH n kc ks G) a 1 3 (va_rf u) = gH n kc ks (gsR G a 3 u) := gpR hl rfl rfl
theorem gn_31 : xnew (gH n kc ks G) (.inr (1, xdef 1)) (xdef 1).length = gH (n + 1) (kc + 1) (ks + 4) (gnew G n 31 0) := by
  refine gn_gen ?_
  unfold gcl
  rw [show (gnew G n 31 0).1 n = 31 from if_pos rfl]
  show some (Sum.inr (1, gfs _ n)) = _
  unfold gfs
  rw [show (gnew G n 31 0).1 n = 31 from if_pos rfl]
  show some (Sum.inr (1, (List.range 4).map _)) = _
  simp [List.range_succ, gval, gnew, xdef, fd]
theorem gc_32 (hl : G.1 a = 32) : xcl (gH n kc ks G) a = some 2 := gc_gen hl rfl
theorem gf_32_0 (hl : G.1 a = 32) : xf (gH n kc ks G) a 2 0 = some (.int (G.2.2.1 a 0)) := gf_gen (k := 0) (d := 0) hl rfl rfl
theorem gp_32_0 (hl : G.1 a = 32) : xpf (gH n kc ks G) a 2 0 (.int v) = gH n kc ks (gsI G a 0 v) := gpI hl rfl rfl
theorem gf_32_1 (hl : G.1 a = 32) : xf (gH n kc ks G) a 2 1 = some (.long (G.2.2.2.1 a 1)) := gf_gen (k := 1) (d := 1) hl rfl rfl
theorem gp_32_1 (hl : G.1 a = 32) : xpf (gH n kc ks G) a 2 1 (.long w) = gH n kc ks (gsJ G a 1 w) := gpJ hl rfl rfl
theorem gn_32 : xnew (gH n kc ks G) (.inr (2, xdef 2)) (xdef 2).length = gH (n + 1) (kc + 1) (ks + 2) (gnew G n 32 0) := by
  refine gn_gen ?_
  unfold gcl
  rw [show (gnew G n 32 0).1 n = 32 from if_pos rfl]
  show some (Sum.inr (2, gfs _ n)) = _
  unfold gfs
  rw [show (gnew G n 32 0).1 n = 32 from if_pos rfl]
  show some (Sum.inr (2, (List.range 2).map _)) = _
  simp [List.range_succ, gval, gnew, xdef, fd]
theorem gc_33 (hl : G.1 a = 33) : xcl (gH n kc ks G) a = some 3 := gc_gen hl rfl
theorem gf_33_0 (hl : G.1 a = 33) : xf (gH n kc ks G) a 3 0 = some (va_rf (G.2.2.2.2 a 0)) := gf_gen (k := 0) (d := 2) hl rfl rfl
theorem gp_33_0 (hl : G.1 a = 33) : xpf (gH n kc ks G) a 3 0 (va_rf u) = gH n kc ks (gsR G a 0 u) := gpR hl rfl rfl
theorem gf_33_1 (hl : G.1 a = 33) : xf (gH n kc ks G) a 3 1 = some (.int (G.2.2.1 a 1)) := gf_gen (k := 1) (d := 0) hl rfl rfl
theorem gp_33_1 (hl : G.1 a = 33) : xpf (gH n kc ks G) a 3 1 (.int v) = gH n kc ks (gsI G a 1 v) := gpI hl rfl rfl
theorem gf_33_2 (hl : G.1 a = 33) : xf (gH n kc ks G) a 3 2 = some (va_rf (G.2.2.2.2 a 2)) := gf_gen (k := 2) (d := 2) hl rfl rfl
theorem gp_33_2 (hl : G.1 a = 33) : xpf (gH n kc ks G) a 3 2 (va_rf u) = gH n kc ks (gsR G a 2 u) := gpR hl rfl rfl
theorem gf_33_3 (hl : G.1 a = 33) : xf (gH n kc ks G) a 3 3 = some (.int (G.2.2.1 a 3)) := gf_gen (k := 3) (d := 0) hl rfl rfl
theorem gp_33_3 (hl : G.1 a = 33) : xpf (gH n kc ks G) a 3 3 (.int v) = gH n kc ks (gsI G a 3 v) := gpI hl rfl rfl
theorem gf_33_4 (hl : G.1 a = 33) : xf (gH n kc ks G) a 3 4 = some (.int (G.2.2.1 a 4)) := gf_gen (k := 4) (d := 0) hl rfl rfl
theorem gp_33_4 (hl : G.1 a = 33) : xpf (gH n kc ks G) a 3 4 (.int v) = gH n kc ks (gsI G a 4 v) := gpI hl rfl rfl
theorem gn_33 : xnew (gH n kc ks G) (.inr (3, xdef 3)) (xdef 3).length = gH (n + 1) (kc + 1) (ks + 5) (gnew G n 33 0) := by
  refine gn_gen ?_
  unfold gcl
  rw [show (gnew G n 33 0).1 n = 33 from if_pos rfl]
  show some (Sum.inr (3, gfs _ n)) = _
  unfold gfs
  rw [show (gnew G n 33 0).1 n = 33 from if_pos rfl]
  show some (Sum.inr (3, (List.range 5).map _)) = _
  simp [List.range_succ, gval, gnew, xdef, fd]
theorem gc_34 (hl : G.1 a = 34) : xcl (gH n kc ks G) a = some 4 := gc_gen hl rfl
theorem gf_34_0 (hl : G.1 a = 34) : xf (gH n kc ks G) a 4 0 = some (.int (G.2.2.1 a 0)) := gf_gen (k := 0) (d := 0) hl rfl rfl
theorem gp_34_0 (hl : G.1 a = 34) : xpf (gH n kc ks G) a 4 0 (.int v) = gH n kc ks (gsI G a 0 v) := gpI hl rfl rfl
theorem gf_34_1 (hl : G.1 a = 34) : xf (gH n kc ks G) a 4 1 = some (.int (G.2.2.1 a 1)) := gf_gen (k := 1) (d := 0) hl rfl rfl
theorem gp_34_1 (hl : G.1 a = 34) : xpf (gH n kc ks G) a 4 1 (.int v) = gH n kc ks (gsI G a 1 v) := gpI hl rfl rfl
theorem gf_34_2 (hl : G.1 a = 34) : xf (gH n kc ks G) a 4 2 = some (.int (G.2.2.1 a 2)) := gf_gen (k := 2) (d := 0) hl rfl rfl
theorem gp_34_2 (hl : G.1 a = 34) : xpf (gH n kc ks G) a 4 2 (.int v) = gH n kc ks (gsI G a 2 v) := gpI hl rfl rfl
theorem gf_34_3 (hl : G.1 a = 34) : xf (gH n kc ks G) a 4 3 = some (.int (G.2.2.1 a 3)) := gf_gen (k := 3) (d := 0) hl rfl rfl
theorem gp_34_3 (hl : G.1 a = 34) : xpf (gH n kc ks G) a 4 3 (.int v) = gH n kc ks (gsI G a 3 v) := gpI hl rfl rfl
theorem gf_34_4 (hl : G.1 a = 34) : xf (gH n kc ks G) a 4 4 = some (.int (G.2.2.1 a 4)) := gf_gen (k := 4) (d := 0) hl rfl rfl
theorem gp_34_4 (hl : G.1 a = 34) : xpf (gH n kc ks G) a 4 4 (.int v) = gH n kc ks (gsI G a 4 v) := gpI hl rfl rfl
theorem gf_34_5 (hl : G.1 a = 34) : xf (gH n kc ks G) a 4 5 = some (.int (G.2.2.1 a 5)) := gf_gen (k := 5) (d := 0) hl rfl rfl
theorem gp_34_5 (hl : G.1 a = 34) : xpf (gH n kc ks G) a 4 5 (.int v) = gH n kc ks (gsI G a 5 v) := gpI hl rfl rfl
theorem gf_34_6 (hl : G.1 a = 34) : xf (gH n kc ks G) a 4 6 = some (.int (G.2.2.1 a 6)) := gf_gen (k := 6) (d := 0) hl rfl rfl
theorem gp_34_6 (hl : G.1 a = 34) : xpf (gH n kc ks G) a 4 6 (.int v) = gH n kc ks (gsI G a 6 v) := gpI hl rfl rfl
theorem gf_34_7 (hl : G.1 a = 34) : xf (gH n kc ks G) a 4 7 = some (.int (G.2.2.1 a 7)) := gf_gen (k := 7) (d := 0) hl rfl rfl
theorem gp_34_7 (hl : G.1 a = 34) : xpf (gH n kc ks G) a 4 7 (.int v) = gH n kc ks (gsI G a 7 v) := gpI hl rfl rfl
theorem gn_34 : xnew (gH n kc ks G) (.inr (4, xdef 4)) (xdef 4).length = gH (n + 1) (kc + 1) (ks + 8) (gnew G n 34 0) := by
  refine gn_gen ?_
  unfold gcl
  rw [show (gnew G n 34 0).1 n = 34 from if_pos rfl]
  show some (Sum.inr (4, gfs _ n)) = _
  unfold gfs
  rw [show (gnew G n 34 0).1 n = 34 from if_pos rfl]
  show some (Sum.inr (4, (List.range 8).map _)) = _
  simp [List.range_succ, gval, gnew, xdef, fd]
theorem gc_35 (hl : G.1 a = 35) : xcl (gH n kc ks G) a = some 5 := gc_gen hl rfl
theorem gf_35_0 (hl : G.1 a = 35) : xf (gH n kc ks G) a 5 0 = some (va_rf (G.2.2.2.2 a 0)) := gf_gen (k := 0) (d := 2) hl rfl rfl
theorem gp_35_0 (hl : G.1 a = 35) : xpf (gH n kc ks G) a 5 0 (va_rf u) = gH n kc ks (gsR G a 0 u) := gpR hl rfl rfl
theorem gf_35_1 (hl : G.1 a = 35) : xf (gH n kc ks G) a 5 1 = some (va_rf (G.2.2.2.2 a 1)) := gf_gen (k := 1) (d := 2) hl rfl rfl
theorem gp_35_1 (hl : G.1 a = 35) : xpf (gH n kc ks G) a 5 1 (va_rf u) = gH n kc ks (gsR G a 1 u) := gpR hl rfl rfl
theorem gf_35_2 (hl : G.1 a = 35) : xf (gH n kc ks G) a 5 2 = some (.int (G.2.2.1 a 2)) := gf_gen (k := 2) (d := 0) hl rfl rfl
theorem gp_35_2 (hl : G.1 a = 35) : xpf (gH n kc ks G) a 5 2 (.int v) = gH n kc ks (gsI G a 2 v) := gpI hl rfl rfl
theorem gn_35 : xnew (gH n kc ks G) (.inr (5, xdef 5)) (xdef 5).length = gH (n + 1) (kc + 1) (ks + 3) (gnew G n 35 0) := by
  refine gn_gen ?_
  unfold gcl
  rw [show (gnew G n 35 0).1 n = 35 from if_pos rfl]
  show some (Sum.inr (5, gfs _ n)) = _
  unfold gfs
  rw [show (gnew G n 35 0).1 n = 35 from if_pos rfl]
  show some (Sum.inr (5, (List.range 3).map _)) = _
  simp [List.range_succ, gval, gnew, xdef, fd]
theorem gc_36 (hl : G.1 a = 36) : xcl (gH n kc ks G) a = some 6 := gc_gen hl rfl
theorem gf_36_0 (hl : G.1 a = 36) : xf (gH n kc ks G) a 6 0 = some (va_rf (G.2.2.2.2 a 0)) := gf_gen (k := 0) (d := 2) hl rfl rfl
theorem gp_36_0 (hl : G.1 a = 36) : xpf (gH n kc ks G) a 6 0 (va_rf u) = gH n kc ks (gsR G a 0 u) := gpR hl rfl rfl
theorem gf_36_1 (hl : G.1 a = 36) : xf (gH n kc ks G) a 6 1 = some (.int (G.2.2.1 a 1)) := gf_gen (k := 1) (d := 0) hl rfl rfl
theorem gp_36_1 (hl : G.1 a = 36) : xpf (gH n kc ks G) a 6 1 (.int v) = gH n kc ks (gsI G a 1 v) := gpI hl rfl rfl
theorem gf_36_2 (hl : G.1 a = 36) : xf (gH n kc ks G) a 6 2 = some (.int (G.2.2.1 a 2)) := gf_gen (k := 2) (d := 0) hl rfl rfl
theorem gp_36_2 (hl : G.1 a = 36) : xpf (gH n kc ks G) a 6 2 (.int v) = gH n kc ks (gsI G a 2 v) := gpI hl rfl rfl
theorem gf_36_3 (hl : G.1 a = 36) : xf (gH n kc ks G) a 6 3 = some (.long (G.2.2.2.1 a 3)) := gf_gen (k := 3) (d := 1) hl rfl rfl
theorem gp_36_3 (hl : G.1 a = 36) : xpf (gH n kc ks G) a 6 3 (.long w) = gH n kc ks (gsJ G a 3 w) := gpJ hl rfl rfl
theorem gf_36_4 (hl : G.1 a = 36) : xf (gH n kc ks G) a 6 4 = some (.int (G.2.2.1 a 4)) := gf_gen (k := 4) (d := 0) hl rfl rfl
theorem gp_36_4 (hl : G.1 a = 36) : xpf (gH n kc ks G) a 6 4 (.int v) = gH n kc ks (gsI G a 4 v) := gpI hl rfl rfl
theorem gf_36_5 (hl : G.1 a = 36) : xf (gH n kc ks G) a 6 5 = some (.long (G.2.2.2.1 a 5)) := gf_gen (k := 5) (d := 1) hl rfl rfl
theorem gp_36_5 (hl : G.1 a = 36) : xpf (gH n kc ks G) a 6 5 (.long w) = gH n kc ks (gsJ G a 5 w) := gpJ hl rfl rfl
theorem gn_36 : xnew (gH n kc ks G) (.inr (6, xdef 6)) (xdef 6).length = gH (n + 1) (kc + 1) (ks + 6) (gnew G n 36 0) := by
  refine gn_gen ?_
  unfold gcl
  rw [show (gnew G n 36 0).1 n = 36 from if_pos rfl]
  show some (Sum.inr (6, gfs _ n)) = _
  unfold gfs
  rw [show (gnew G n 36 0).1 n = 36 from if_pos rfl]
  show some (Sum.inr (6, (List.range 6).map _)) = _
  simp [List.range_succ, gval, gnew, xdef, fd]
theorem gc_37 (hl : G.1 a = 37) : xcl (gH n kc ks G) a = some 7 := gc_gen hl rfl
theorem gf_37_0 (hl : G.1 a = 37) : xf (gH n kc ks G) a 7 0 = some (.int (G.2.2.1 a 0)) := gf_gen (k := 0) (d := 0) hl rfl rfl
theorem gp_37_0 (hl : G.1 a = 37) : xpf (gH n kc ks G) a 7 0 (.int v) = gH n kc ks (gsI G a 0 v) := gpI hl rfl rfl
theorem gf_37_1 (hl : G.1 a = 37) : xf (gH n kc ks G) a 7 1 = some (va_rf (G.2.2.2.2 a 1)) := gf_gen (k := 1) (d := 2) hl rfl rfl
theorem gp_37_1 (hl : G.1 a = 37) : xpf (gH n kc ks G) a 7 1 (va_rf u) = gH n kc ks (gsR G a 1 u) := gpR hl rfl rfl
theorem gf_37_2 (hl : G.1 a = 37) : xf (gH n kc ks G) a 7 2 = some (va_rf (G.2.2.2.2 a 2)) := gf_gen (k := 2) (d := 2) hl rfl rfl
theorem gp_37_2 (hl : G.1 a = 37) : xpf (gH n kc ks G) a 7 2 (va_rf u) = gH n kc ks (gsR G a 2 u) := gpR hl rfl rfl
theorem gf_37_3 (hl : G.1 a = 37) : xf (gH n kc ks G) a 7 3 = some (va_rf (G.2.2.2.2 a 3)) := gf_gen (k := 3) (d := 2) hl rfl rfl
theorem gp_37_3 (hl : G.1 a = 37) : xpf (gH n kc ks G) a 7 3 (va_rf u) = gH n kc ks (gsR G a 3 u) := gpR hl rfl rfl
theorem gn_37 : xnew (gH n kc ks G) (.inr (7, xdef 7)) (xdef 7).length = gH (n + 1) (kc + 1) (ks + 4) (gnew G n 37 0) := by
  refine gn_gen ?_
  unfold gcl
  rw [show (gnew G n 37 0).1 n = 37 from if_pos rfl]
  show some (Sum.inr (7, gfs _ n)) = _
  unfold gfs
  rw [show (gnew G n 37 0).1 n = 37 from if_pos rfl]
  show some (Sum.inr (7, (List.range 4).map _)) = _
  simp [List.range_succ, gval, gnew, xdef, fd]
theorem gc_38 (hl : G.1 a = 38) : xcl (gH n kc ks G) a = some 8 := gc_gen hl rfl
theorem gf_38_0 (hl : G.1 a = 38) : xf (gH n kc ks G) a 8 0 = some (va_rf (G.2.2.2.2 a 0)) := gf_gen (k := 0) (d := 2) hl rfl rfl
theorem gp_38_0 (hl : G.1 a = 38) : xpf (gH n kc ks G) a 8 0 (va_rf u) = gH n kc ks (gsR G a 0 u) := gpR hl rfl rfl
theorem gf_38_1 (hl : G.1 a = 38) : xf (gH n kc ks G) a 8 1 = some (va_rf (G.2.2.2.2 a 1)) := gf_gen (k := 1) (d := 2) hl rfl rfl
theorem gp_38_1 (hl : G.1 a = 38) : xpf (gH n kc ks G) a 8 1 (va_rf u) = gH n kc ks (gsR G a 1 u) := gpR hl rfl rfl
theorem gf_38_2 (hl : G.1 a = 38) : xf (gH n kc ks G) a 8 2 = some (.int (G.2.2.1 a 2)) := gf_gen (k := 2) (d := 0) hl rfl rfl
theorem gp_38_2 (hl : G.1 a = 38) : xpf (gH n kc ks G) a 8 2 (.int v) = gH n kc ks (gsI G a 2 v) := gpI hl rfl rfl
theorem gf_38_3 (hl : G.1 a = 38) : xf (gH n kc ks G) a 8 3 = some (.int (G.2.2.1 a 3)) := gf_gen (k := 3) (d := 0) hl rfl rfl
theorem gp_38_3 (hl : G.1 a = 38) : xpf (gH n kc ks G) a 8 3 (.int v) = gH n kc ks (gsI G a 3 v) := gpI hl rfl rfl
theorem gf_38_4 (hl : G.1 a = 38) : xf (gH n kc ks G) a 8 4 = some (.int (G.2.2.1 a 4)) := gf_gen (k := 4) (d := 0) hl rfl rfl
theorem gp_38_4 (hl : G.1 a = 38) : xpf (gH n kc ks G) a 8 4 (.int v) = gH n kc ks (gsI G a 4 v) := gpI hl rfl rfl
theorem gn_38 : xnew (gH n kc ks G) (.inr (8, xdef 8)) (xdef 8).length = gH (n + 1) (kc + 1) (ks + 5) (gnew G n 38 0) := by
  refine gn_gen ?_
  unfold gcl
  rw [show (gnew G n 38 0).1 n = 38 from if_pos rfl]
  show some (Sum.inr (8, gfs _ n)) = _
  unfold gfs
  rw [show (gnew G n 38 0).1 n = 38 from if_pos rfl]
  show some (Sum.inr (8, (List.range 5).map _)) = _
  simp [List.range_succ, gval, gnew, xdef, fd]
theorem gc_39 (hl : G.1 a = 39) : xcl (gH n kc ks G) a = some 9 := gc_gen hl rfl
theorem gf_39_0 (hl : G.1 a = 39) : xf (gH n kc ks G) a 9 0 = some (.int (G.2.2.1 a 0)) := gf_gen (k := 0) (d := 0) hl rfl rfl
theorem gp_39_0 (hl : G.1 a = 39) : xpf (gH n kc ks G) a 9 0 (.int v) = gH n kc ks (gsI G a 0 v) := gpI hl rfl rfl
theorem gf_39_1 (hl : G.1 a = 39) : xf (gH n kc ks G) a 9 1 = some (.int (G.2.2.1 a 1)) := gf_gen (k := 1) (d := 0) hl rfl rfl
theorem gp_39_1 (hl : G.1 a = 39) : xpf (gH n kc ks G) a 9 1 (.int v) = gH n kc ks (gsI G a 1 v) := gpI hl rfl rfl
theorem gf_39_2 (hl : G.1 a = 39) : xf (gH n kc ks G) a 9 2 = some (.int (G.2.2.1 a 2)) := gf_gen (k := 2) (d := 0) hl rfl rfl
theorem gp_39_2 (hl : G.1 a = 39) : xpf (gH n kc ks G) a 9 2 (.int v) = gH n kc ks (gsI G a 2 v) := gpI hl rfl rfl
theorem gf_39_3 (hl : G.1 a = 39) : xf (gH n kc ks G) a 9 3 = some (.int (G.2.2.1 a 3)) := gf_gen (k := 3) (d := 0) hl rfl rfl
theorem gp_39_3 (hl : G.1 a = 39) : xpf (gH n kc ks G) a 9 3 (.int v) = gH n kc ks (gsI G a 3 v) := gpI hl rfl rfl
theorem gf_39_4 (hl : G.1 a = 39) : xf (gH n kc ks G) a 9 4 = some (.int (G.2.2.1 a 4)) := gf_gen (k := 4) (d := 0) hl rfl rfl
theorem gp_39_4 (hl : G.1 a = 39) : xpf (gH n kc ks G) a 9 4 (.int v) = gH n kc ks (gsI G a 4 v) := gpI hl rfl rfl
theorem gn_39 : xnew (gH n kc ks G) (.inr (9, xdef 9)) (xdef 9).length = gH (n + 1) (kc + 1) (ks + 5) (gnew G n 39 0) := by
  refine gn_gen ?_
  unfold gcl
  rw [show (gnew G n 39 0).1 n = 39 from if_pos rfl]
  show some (Sum.inr (9, gfs _ n)) = _
  unfold gfs
  rw [show (gnew G n 39 0).1 n = 39 from if_pos rfl]
  show some (Sum.inr (9, (List.range 5).map _)) = _
  simp [List.range_succ, gval, gnew, xdef, fd]
theorem gc_40 (hl : G.1 a = 40) : xcl (gH n kc ks G) a = some 10 := gc_gen hl rfl
theorem gf_40_0 (hl : G.1 a = 40) : xf (gH n kc ks G) a 10 0 = some (va_rf (G.2.2.2.2 a 0)) := gf_gen (k := 0) (d := 2) hl rfl rfl
theorem gp_40_0 (hl : G.1 a = 40) : xpf (gH n kc ks G) a 10 0 (va_rf u) = gH n kc ks (gsR G a 0 u) := gpR hl rfl rfl
theorem gf_40_1 (hl : G.1 a = 40) : xf (gH n kc ks G) a 10 1 = some (va_rf (G.2.2.2.2 a 1)) := gf_gen (k := 1) (d := 2) hl rfl rfl
theorem gp_40_1 (hl : G.1 a = 40) : xpf (gH n kc ks G) a 10 1 (va_rf u) = gH n kc ks (gsR G a 1 u) := gpR hl rfl rfl
theorem gf_40_2 (hl : G.1 a = 40) : xf (gH n kc ks G) a 10 2 = some (va_rf (G.2.2.2.2 a 2)) := gf_gen (k := 2) (d := 2) hl rfl rfl
theorem gp_40_2 (hl : G.1 a = 40) : xpf (gH n kc ks G) a 10 2 (va_rf u) = gH n kc ks (gsR G a 2 u) := gpR hl rfl rfl
theorem gf_40_3 (hl : G.1 a = 40) : xf (gH n kc ks G) a 10 3 = some (va_rf (G.2.2.2.2 a 3)) := gf_gen (k := 3) (d := 2) hl rfl rfl
theorem gp_40_3 (hl : G.1 a = 40) : xpf (gH n kc ks G) a 10 3 (va_rf u) = gH n kc ks (gsR G a 3 u) := gpR hl rfl rfl
theorem gf_40_4 (hl : G.1 a = 40) : xf (gH n kc ks G) a 10 4 = some (va_rf (G.2.2.2.2 a 4)) := gf_gen (k := 4) (d := 2) hl rfl rfl
theorem gp_40_4 (hl : G.1 a = 40) : xpf (gH n kc ks G) a 10 4 (va_rf u) = gH n kc ks (gsR G a 4 u) := gpR hl rfl rfl
theorem gf_40_5 (hl : G.1 a = 40) : xf (gH n kc ks G) a 10 5 = some (va_rf (G.2.2.2.2 a 5)) := gf_gen (k := 5) (d := 2) hl rfl rfl
theorem gp_40_5 (hl : G.1 a = 40) : xpf (gH n kc ks G) a 10 5 (va_rf u) = gH n kc ks (gsR G a 5 u) := gpR hl rfl rfl
theorem gf_40_6 (hl : G.1 a = 40) : xf (gH n kc ks G) a 10 6 = some (va_rf (G.2.2.2.2 a 6)) := gf_gen (k := 6) (d := 2) hl rfl rfl
theorem gp_40_6 (hl : G.1 a = 40) : xpf (gH n kc ks G) a 10 6 (va_rf u) = gH n kc ks (gsR G a 6 u) := gpR hl rfl rfl
theorem gf_40_7 (hl : G.1 a = 40) : xf (gH n kc ks G) a 10 7 = some (va_rf (G.2.2.2.2 a 7)) := gf_gen (k := 7) (d := 2) hl rfl rfl
theorem gp_40_7 (hl : G.1 a = 40) : xpf (gH n kc ks G) a 10 7 (va_rf u) = gH n kc ks (gsR G a 7 u) := gpR hl rfl rfl
theorem gf_40_8 (hl : G.1 a = 40) : xf (gH n kc ks G) a 10 8 = some (va_rf (G.2.2.2.2 a 8)) := gf_gen (k := 8) (d := 2) hl rfl rfl
theorem gp_40_8 (hl : G.1 a = 40) : xpf (gH n kc ks G) a 10 8 (va_rf u) = gH n kc ks (gsR G a 8 u) := gpR hl rfl rfl
theorem gf_40_9 (hl : G.1 a = 40) : xf (gH n kc ks G) a 10 9 = some (va_rf (G.2.2.2.2 a 9)) := gf_gen (k := 9) (d := 2) hl rfl rfl
theorem gp_40_9 (hl : G.1 a = 40) : xpf (gH n kc ks G) a 10 9 (va_rf u) = gH n kc ks (gsR G a 9 u) := gpR hl rfl rfl
theorem gf_40_10 (hl : G.1 a = 40) : xf (gH n kc ks G) a 10 10 = some (va_rf (G.2.2.2.2 a 10)) := gf_gen (k := 10) (d := 2) hl rfl rfl
theorem gp_40_10 (hl : G.1 a = 40) : xpf (gH n kc ks G) a 10 10 (va_rf u) = gH n kc ks (gsR G a 10 u) := gpR hl rfl rfl
theorem gf_40_11 (hl : G.1 a = 40) : xf (gH n kc ks G) a 10 11 = some (.int (G.2.2.1 a 11)) := gf_gen (k := 11) (d := 0) hl rfl rfl
theorem gp_40_11 (hl : G.1 a = 40) : xpf (gH n kc ks G) a 10 11 (.int v) = gH n kc ks (gsI G a 11 v) := gpI hl rfl rfl
theorem gf_40_12 (hl : G.1 a = 40) : xf (gH n kc ks G) a 10 12 = some (.int (G.2.2.1 a 12)) := gf_gen (k := 12) (d := 0) hl rfl rfl
theorem gp_40_12 (hl : G.1 a = 40) : xpf (gH n kc ks G) a 10 12 (.int v) = gH n kc ks (gsI G a 12 v) := gpI hl rfl rfl
theorem gf_40_13 (hl : G.1 a = 40) : xf (gH n kc ks G) a 10 13 = some (.int (G.2.2.1 a 13)) := gf_gen (k := 13) (d := 0) hl rfl rfl
theorem gp_40_13 (hl : G.1 a = 40) : xpf (gH n kc ks G) a 10 13 (.int v) = gH n kc ks (gsI G a 13 v) := gpI hl rfl rfl
theorem gf_40_14 (hl : G.1 a = 40) : xf (gH n kc ks G) a 10 14 = some (.int (G.2.2.1 a 14)) := gf_gen (k := 14) (d := 0) hl rfl rfl
theorem gp_40_14 (hl : G.1 a = 40) : xpf (gH n kc ks G) a 10 14 (.int v) = gH n kc ks (gsI G a 14 v) := gpI hl rfl rfl
theorem gn_40 : xnew (gH n kc ks G) (.inr (10, xdef 10)) (xdef 10).length = gH (n + 1) (kc + 1) (ks + 15) (gnew G n 40 0) := by
  refine gn_gen ?_
  unfold gcl
  rw [show (gnew G n 40 0).1 n = 40 from if_pos rfl]
  show some (Sum.inr (10, gfs _ n)) = _
  unfold gfs
  rw [show (gnew G n 40 0).1 n = 40 from if_pos rfl]
  show some (Sum.inr (10, (List.range 15).map _)) = _
  simp [List.range_succ, gval, gnew, xdef, fd]
theorem gq_50 (hl : G.1 a = 50) : xa (gH n kc ks G) a 19 = some (G.2.1 a, gel G a) := ga_gen hl rfl
theorem gN_50 (hl : G.1 a = 50) : xlen g (gH n kc ks G) a = some (G.2.1 a) := xlen_of (gq_50 hl)
theorem gl_50 (hl : G.1 a = 50) : xalda (gH n kc ks G) a x = if xin x (G.2.1 a) = true then some (va_rf (G.2.2.2.2 a x.toNatClampNeg)) else none := by
  unfold xalda
  rw [gtag hl rfl]
  show xald _ a 19 x = _
  unfold xald
  rw [gq_50 hl]
  dsimp only
  rw [gel_R hl (by decide) (by decide) (by decide)]
theorem gs_50 (hl : G.1 a = 50) (hu : ∀ b, u = some b → xcl (gH n kc ks G) b = some 9) : xasta (gH n kc ks G) a x u = if xin x (G.2.1 a) = true then some (gH n kc ks (gsR G a x.toNatClampNeg u)) else none := by
  cases u with
  | none =>
    show (if xtr (xtag (gH n kc ks G) a) = true then xast _ a (xtag (gH n kc ks G) a) x (va_rf none) else none) = _
    rw [gtag hl rfl]
    show xast _ a 19 x (va_rf none) = _
    unfold xast
    rw [gq_50 hl]
    dsimp only
    rw [gsR_st hl rfl (by decide) (by decide) (by decide)]
  | some b =>
    show (if (xtr (xtag (gH n kc ks G) a) && xcl (gH n kc ks G) b == some (xtag (gH n kc ks G) a - 10)) = true then xast _ a (xtag (gH n kc ks G) a) x (va_rf (some b)) else none) = _
    rw [gtag hl rfl, hu b rfl]
    show xast _ a 19 x (va_rf (some b)) = _
    unfold xast
    rw [gq_50 hl]
    dsimp only
    rw [gsR_st hl rfl (by decide) (by decide) (by decide)]
theorem gn_50 : xnew (gH n kc ks G) (.inl (19, l, fun _ => va_rf none)) k = gH (n + 1) (kc + 1) (ks + k) (gnew G n 50 l) := by
  refine gn_gen ?_
  have e : (gnew G n 50 l).1 n = 50 := if_pos rfl
  unfold gcl
  rw [e]
  show some (Sum.inl (19, (gnew G n 50 l).2.1 n, gel _ n)) = _
  rw [gnew2, if_pos rfl]
  congr 4
  funext i
  rw [gel_R e (by decide) (by decide) (by decide), gnew5, if_pos rfl]
end GHL
