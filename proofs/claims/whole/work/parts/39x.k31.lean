/-! THE CLASS beside the reference, 18: rows counted by their slots -/
section K31
variable {g : xG} {n kc ks a b c s t w q l x y jn d r p n' e kb : Nat} {G T U : GS} {h : xH} {i j k m v i1 i2 : Int32} {u z : Int64} {o : Option Nat} {S S1 S' : MS} {ρ κ : Nat → Nat} {L L' : List Nat} {cnt : Nat} {at' wk ik : Nat → Int32} {wv iv : Nat → Int64}
theorem mAdd_z {f : Nat → Int32} : ∀ d y z, mAdd f y d z = mAdd f y d 0 + z := by
  intro d
  induction d with
  | zero => intro y z; show z = 0 + z; rw [Int32.zero_add]
  | succ d ih =>
    intro y z
    show mAdd f (y + 1) d (z + f y) = mAdd f (y + 1) d (0 + f y) + z
    rw [ih (y + 1) (z + f y), ih (y + 1) (0 + f y), Int32.zero_add, Int32.add_assoc, Int32.add_comm (f y) z]
theorem mAdd_cg {e f : Nat → Int32} : ∀ d y z, (∀ x, y ≤ x → x < y + d → e x = f x) → mAdd e y d z = mAdd f y d z := by
  intro d
  induction d with
  | zero => intro y z _; rfl
  | succ d ih =>
    intro y z he
    show mAdd e (y + 1) d (z + e y) = mAdd f (y + 1) d (z + f y)
    rw [he y (Nat.le_refl y) (by omega)]
    exact ih _ _ (fun x h1 h2 => he x (by omega) (by omega))
theorem mAdd_up {e f : Nat → Int32} (r : Nat) (hr : e r = 0) (ho : ∀ x, x ≠ r → e x = f x) : ∀ d y z, y ≤ r → r < y + d → mAdd f y d z = mAdd e y d z + f r := by
  intro d
  induction d with
  | zero => intro y z h1 h2; omega
  | succ d ih =>
    intro y z h1 h2
    show mAdd f (y + 1) d (z + f y) = mAdd e (y + 1) d (z + e y) + f r
    by_cases c : y = r
    · subst c
      rw [hr, Int32.add_zero, mAdd_cg (e := e) (f := f) d (y + 1) z (fun x h3 _ => ho x (by omega)), mAdd_z d (y + 1) (z + f y), mAdd_z d (y + 1) z, Int32.add_assoc]
    · rw [ho y c]
      exact ih _ _ (by omega) (by omega)
theorem mAdd_sn {f : Nat → Int32} : ∀ d y z, mAdd f y (d + 1) z = mAdd f y d z + f (y + d) := by
  intro d
  induction d with
  | zero => intro y z; rfl
  | succ d ih =>
    intro y z
    show mAdd f (y + 1) (d + 1) (z + f y) = mAdd f (y + 1) d (z + f y) + f (y + (d + 1))
    rw [ih, show y + 1 + d = y + (d + 1) by omega]
theorem mAdd_zero {f : Nat → Int32} : ∀ d y, (∀ x, y ≤ x → x < y + d → f x = 0) → mAdd f y d 0 = 0 := by
  intro d
  induction d with
  | zero => intro y _; rfl
  | succ d ih =>
    intro y he
    show mAdd f (y + 1) d (0 + f y) = 0
    rw [he y (Nat.le_refl y) (by omega), Int32.add_zero]
    exact ih _ (fun x h1 h2 => he x (by omega) (by omega))
/-- held by one of the first slots -/
def hd (f : Nat → Option Nat) : Nat → Nat → Bool
  | 0, _ => false
  | N + 1, r => hd f N r || decide (f N = some r)
theorem hd_iff {f : Nat → Option Nat} : ∀ N r, hd f N r = true ↔ ∃ s, s < N ∧ f s = some r := by
  intro N
  induction N with
  | zero =>
    intro r
    refine ⟨fun z => absurd z (by simp [hd]), ?_⟩
    rintro ⟨s, h, _⟩
    omega
  | succ N ih =>
    intro r
    rw [hd, Bool.or_eq_true, ih, decide_eq_true_iff]
    constructor
    · rintro (⟨s, h1, h2⟩ | h)
      · exact ⟨s, by omega, h2⟩
      · exact ⟨N, by omega, h⟩
    · rintro ⟨s, h1, h2⟩
      by_cases c : s = N
      · exact Or.inr (c ▸ h2)
      · exact Or.inl ⟨s, by omega, h2⟩
/-- what a slot adds if it is the first that holds its row -/
def fw (f : Nat → Option Nat) (w : Nat → Int32) (s : Nat) : Int32 := match f s with
  | none => 0
  | some r => if hd f s r = true then 0 else w r
/-- by slots, by rows: the same -/
theorem by_rows {f : Nat → Option Nat} {w : Nat → Int32} : ∀ N, (∀ s r, s < N → f s = some r → r < 10) → mAdd (fw f w) 0 N 0 = mAdd (fun r => if hd f N r = true then w r else 0) 0 10 0 := by
  intro N
  induction N with
  | zero =>
    intro _
    rw [mAdd_zero 10 0 (fun x _ _ => by simp [hd])]
    rfl
  | succ N ih =>
    intro hr
    rw [mAdd_sn, ih (fun s r h1 h2 => hr s r (by omega) h2), Nat.zero_add]
    unfold fw
    cases c : f N with
    | none =>
      rw [Int32.add_zero]
      refine mAdd_cg _ _ _ (fun r _ _ => ?_)
      rw [hd, c]
      simp
    | some r =>
      have hr10 := hr N r (by omega) c
      show _ + (if hd f N r = true then 0 else w r) = _
      by_cases c1 : hd f N r = true
      · rw [if_pos c1, Int32.add_zero]
        refine mAdd_cg _ _ _ (fun r' _ _ => ?_)
        rw [hd, c]
        by_cases c2 : r' = r
        · subst c2
          rw [c1]
          simp
        · have c3 : ¬ r = r' := fun z => c2 z.symm
          simp [c3]
      · rw [if_neg c1]
        have := mAdd_up (e := fun r => if hd f N r = true then w r else 0) (f := fun r => if hd f (N + 1) r = true then w r else 0) r (if_neg c1) (fun x hx => by
          show (if hd f N x = true then w x else 0) = (if hd f (N + 1) x = true then w x else 0)
          rw [hd, c]
          have c3 : ¬ r = x := fun z => hx z.symm
          simp [c3]) 10 0 0 (by omega) (by omega)
        rw [this]
        congr 1
        show w r = (if hd f (N + 1) r = true then w r else 0)
        rw [hd, c]
        simp
/-- the row of a slot of the reference -/
def sf (S : MS) (s : Nat) : Option Nat := if mRow S s = true then some (mr S s) else none
theorem sf_lt (h : sf S s = some r) : r < 10 := by
  unfold sf at h
  by_cases c : mRow S s = true
  · rw [if_pos c] at h
    have := (mRow_eq c).2
    have e := Option.some.inj h
    omega
  · rw [if_neg c] at h
    exact absurd h (by simp)
theorem sf_7 (hr : r < 10) : sf S s = some r ↔ S.2.2.1 7 s = nI r := by
  unfold sf
  by_cases c : mRow S s = true
  · rw [if_pos c]
    have := mRow_eq c
    rw [this.1, nI_eq (by omega) (by omega)]
    exact ⟨fun z => Option.some.inj z, fun z => by rw [z]⟩
  · rw [if_neg c]
    refine ⟨fun z => absurd z (by simp), fun z => absurd (mRow_of z hr).1 c⟩
theorem hold_hd (hr : r < 10) : mHolders S (nI r) = 0 ↔ hd (sf S) 10 r = false := by
  rw [← Bool.not_eq_true, hd_iff]
  unfold mHolders
  constructor
  · rintro h ⟨s, h1, h2⟩
    have := mCnt_pos (f := fun q => decide (S.2.2.1 7 q = nI r)) 10 0 s (by omega) (by omega) (decide_eq_true ((sf_7 hr).mp h2))
    omega
  · intro h
    refine mCnt_0 10 0 (fun x _ h2 => ?_)
    exact decide_eq_false (fun z => h ⟨x, by omega, (sf_7 hr).mpr z⟩)
/-- the rows of a bank's slots are the reference's -/
theorem sf_bank (hB : bS G b ρ S) (hI : bI S ρ) (hs : s < 10) (ht : t < 10) : G.2.2.2.2 (b + 1) s = G.2.2.2.2 (b + 1) t ↔ sf S s = sf S t := by
  have key : ∀ s, s < 10 → (sf S s = none ∧ G.2.2.2.2 (b + 1) s = none) ∨ (sf S s = some (mr S s) ∧ G.2.2.2.2 (b + 1) s = some (ρ (mr S s)) ∧ rIn S (mr S s)) := by
    intro s hs
    unfold sf
    rcases hB.2.1 s hs with ⟨r0, r1, r2, r3, r4⟩ | ⟨r0, r1, r2⟩ | ⟨r0, r1, r2, r3⟩
    · rw [if_pos r0]
      exact Or.inr ⟨rfl, r1, s, hs, r0, rfl⟩
    · rw [if_neg (fun z => mRow_n11 z r0)]
      exact Or.inl ⟨rfl, r1⟩
    · have : ¬ mRow S s = true := by
        unfold mRow
        rcases r0 with r0 | r0 <;> rw [r0] <;> decide
      rw [if_neg this]
      exact Or.inl ⟨rfl, r1⟩
  rcases key s hs with ⟨a1, a2⟩ | ⟨a1, a2, a3⟩
  · rcases key t ht with ⟨b1, b2⟩ | ⟨b1, b2, b3⟩
    · rw [a1, a2, b1, b2]
    · rw [a1, a2, b1, b2]
      simp
  · rcases key t ht with ⟨b1, b2⟩ | ⟨b1, b2, b3⟩
    · rw [a1, a2, b1, b2]
      simp
    · rw [a1, a2, b1, b2]
      constructor
      · intro z
        rw [hI _ _ a3 b3 (Option.some.inj z)]
      · intro z
        rw [Option.some.inj z]
theorem sf_G (hB : bS G b ρ S) (hs : s < 10) : G.2.2.2.2 (b + 1) s = (sf S s).map ρ := by
  unfold sf
  rcases hB.2.1 s hs with ⟨r0, r1, r2, r3, r4⟩ | ⟨r0, r1, r2⟩ | ⟨r0, r1, r2, r3⟩
  · rw [if_pos r0]
    exact r1
  · rw [if_neg (fun z => mRow_n11 z r0)]
    exact r1
  · have : ¬ mRow S s = true := by
      unfold mRow
      rcases r0 with r0 | r0 <;> rw [r0] <;> decide
    rw [if_neg this]
    exact r1
theorem sf_in (hs : s < 10) (h : sf S s = some r) : rIn S r := by
  unfold sf at h
  by_cases c : mRow S s = true
  · rw [if_pos c] at h
    exact ⟨s, hs, c, Option.some.inj h⟩
  · rw [if_neg c] at h
    exact absurd h (by simp)
/-- the first holder, on both sides -/
theorem bFh_hd (hB : bS G b ρ S) (hI : bI S ρ) (hs : s < 10) (h : sf S s = some r) : bFh G b s = s ↔ hd (sf S) s r = false := by
  unfold bFh
  rw [← Bool.not_eq_true, hd_iff]
  constructor
  · rintro e ⟨q, h1, h2⟩
    have := mUnl_yes (f := fun q => !decide (G.2.2.2.2 (b + 1) q = G.2.2.2.2 (b + 1) s)) s 0 q (by omega) (by rw [e]; exact h1)
    simp only [Bool.not_eq_true', decide_eq_false_iff_not] at this
    exact this ((sf_bank hB hI (by omega) hs).mpr (by rw [h2, h]))
  · intro hn
    have hle := (mUnl_le (f := fun q => !decide (G.2.2.2.2 (b + 1) q = G.2.2.2.2 (b + 1) s)) s 0).2
    rw [Nat.zero_add] at hle
    by_cases c : mUnl (fun q => !decide (G.2.2.2.2 (b + 1) q = G.2.2.2.2 (b + 1) s)) 0 s = s
    · exact c
    · exfalso
      have := mUnl_no (f := fun q => !decide (G.2.2.2.2 (b + 1) q = G.2.2.2.2 (b + 1) s)) s 0 (by omega)
      simp only [Bool.not_eq_false', decide_eq_true_iff] at this
      exact hn ⟨mUnl (fun q => !decide (G.2.2.2.2 (b + 1) q = G.2.2.2.2 (b + 1) s)) 0 s, by omega, by rw [(sf_bank hB hI (by omega) hs).mp this]; exact h⟩
theorem bFst_eq (hB : bS G b ρ S) (hI : bI S ρ) (hs : s < 10) : bFst G b s = (match sf S s with
    | none => none
    | some r => if hd (sf S) s r = true then none else some (ρ r)) := by
  unfold bFst
  rw [sf_G hB hs]
  cases c : sf S s with
  | none => simp
  | some r =>
    have := bFh_hd hB hI hs c
    cases c1 : hd (sf S) s r with
    | true =>
      rw [c1] at this
      rw [if_neg (fun z => absurd (this.mp z) (by simp))]
      simp [c1]
    | false =>
      rw [if_pos (this.mpr c1)]
      simp [c1]
theorem cnt_add {f : Nat → Bool} : ∀ d y, nI (mCnt f y d) = mAdd (fun q => if f q = true then 1 else 0) y d 0 := by
  intro d
  induction d with
  | zero => intro y; rfl
  | succ d ih =>
    intro y
    show nI (cond (f y) 1 0 + mCnt f (y + 1) d) = mAdd _ (y + 1) d (0 + if f y = true then 1 else 0)
    rw [Int32.zero_add, mAdd_z, ← ih]
    cases f y with
    | true =>
      show nI (1 + mCnt f (y + 1) d) = nI (mCnt f (y + 1) d) + 1
      rw [nI_1, Nat.add_comm]
    | false =>
      show nI (0 + mCnt f (y + 1) d) = nI (mCnt f (y + 1) d) + 0
      rw [Nat.zero_add, Int32.add_zero]
/-- how many rows, on both sides -/
theorem rows_eq (hB : bS G b ρ S) (hI : bI S ρ) : nI (mCnt (fun q => !decide (bFst G b q = none)) 0 10) = nI (sRows S) := by
  unfold sRows
  rw [cnt_add, cnt_add]
  have h1 := by_rows (f := sf S) (w := fun _ => 1) 10 (fun s r _ h => sf_lt h)
  rw [mAdd_cg (f := fw (sf S) (fun _ => 1)) 10 0 0 (fun s _ hs => ?_), h1]
  · refine mAdd_cg 10 0 0 (fun r _ hr => ?_)
    have := hold_hd (S := S) (r := r) (by omega)
    by_cases c : mHolders S (nI r) = 0
    · rw [this.mp c]
      simp [c]
    · have : hd (sf S) 10 r = true := by
        cases c1 : hd (sf S) 10 r with
        | true => rfl
        | false => exact absurd (this.mpr c1) c
      rw [this]
      simp [c]
  · rw [bFst_eq hB hI (by omega)]
    unfold fw
    cases c : sf S s with
    | none => simp
    | some r =>
      cases c1 : hd (sf S) s r with
      | true => simp [c1]
      | false => simp [c1]
/-- sums over rows, on both sides -/
theorem sum_rows {w : Nat → Int32} {F : Nat → Int32} {H : Nat → Int32} (hB : bS G b ρ S) (hI : bI S ρ) (hF : ∀ s, s < 10 → F s = (match bFst G b s with
    | none => 0
    | some a => H a)) (hH : ∀ r, rIn S r → H (ρ r) = w r) : mAdd F 0 10 0 = mAdd (fun r => if mHolders S (nI r) = 0 then 0 else w r) 0 10 0 := by
  have h1 := by_rows (f := sf S) (w := w) 10 (fun s r _ h => sf_lt h)
  rw [mAdd_cg (f := fw (sf S) w) 10 0 0 (fun s _ hs => ?_), h1]
  · refine mAdd_cg 10 0 0 (fun r _ hr => ?_)
    have := hold_hd (S := S) (r := r) (by omega)
    by_cases c : mHolders S (nI r) = 0
    · rw [this.mp c]
      simp [c]
    · have : hd (sf S) 10 r = true := by
        cases c1 : hd (sf S) 10 r with
        | true => rfl
        | false => exact absurd (this.mpr c1) c
      rw [this]
      simp [c]
  · rw [hF s (by omega), bFst_eq hB hI (by omega)]
    unfold fw
    cases c : sf S s with
    | none => simp
    | some r =>
      cases c1 : hd (sf S) s r with
      | true => simp [c1]
      | false =>
        simp only [c1]
        exact hH r (sf_in (by omega) c)
end K31
