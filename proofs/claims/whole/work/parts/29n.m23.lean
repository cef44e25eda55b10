/-! THE REFERENCE's methods, 21: images, counts -/
section M23
variable {g : xG} {n kc ks mu s w q p r l o : Nat} {S T : MS} {h : xH} {i j k m v x y a : Int32} {u b : Int64}
def mCp (S : MS) (p q c : Nat) : MS := (S.1, S.2.1, fun z i => if z = q ∧ i < c then S.2.2.1 p i else S.2.2.1 z i, S.2.2.2)
theorem mCp_0 : mCp S p q 0 = S := by
  refine Prod.ext rfl (Prod.ext rfl (Prod.ext ?_ rfl))
  funext z i
  simp [mCp]
theorem mCp_s {c : Nat} : msA (mCp S p q c) q c (S.2.2.1 p c) = mCp S p q (c + 1) := by
  refine Prod.ext rfl (Prod.ext rfl (Prod.ext ?_ rfl))
  funext z i
  simp only [mCp, msA]
  by_cases e : i = c
  · subst e
    by_cases e2 : z = q
    · simp [e2]
    · simp [e2]
  · have hx : (i < c + 1) = (i < c) := propext (by omega)
    simp only [hx, e, and_false, if_false]
theorem mCp_p {c t : Nat} (h : p ≠ q) : (mCp S p q c).2.2.1 p t = S.2.2.1 p t := by
  simp [mCp, h]
/-- longs copied -/
def mCq (S : MS) (p q c : Nat) : MS := (S.1, S.2.1, S.2.2.1, fun z i => if z = q ∧ i < c then S.2.2.2 p i else S.2.2.2 z i)
theorem mCq_0 : mCq S p q 0 = S := by
  refine Prod.ext rfl (Prod.ext rfl (Prod.ext rfl ?_))
  funext z i
  simp [mCq]
theorem mCq_s {c : Nat} : msB (mCq S p q c) q c (S.2.2.2 p c) = mCq S p q (c + 1) := by
  refine Prod.ext rfl (Prod.ext rfl (Prod.ext rfl ?_))
  funext z i
  simp only [mCq, msB]
  by_cases e : i = c
  · subst e
    by_cases e2 : z = q
    · simp [e2]
    · simp [e2]
  · have hx : (i < c + 1) = (i < c) := propext (by omega)
    simp only [hx, e, and_false, if_false]
theorem mCq_p {c t : Nat} (h : p ≠ q) : (mCq S p q c).2.2.2 p t = S.2.2.2 p t := by
  simp [mCq, h]
theorem l239_2 : ∀ d c, c + d = 10 → X g 239 2 [.val (va_rf (some (mu + 1))), .val (va_rf (some (mu + 32))), .val (.int (nI c))] [] (mH n kc ks mu (mCp S 2 44 c)) = some (none, mH n kc ks mu (mCp S 2 44 10)) := by
  intro d
  induction d with
  | zero =>
    intro c hc
    have e : c = 10 := by omega
    subst e
    have h1 : nI 10 ≤ nI 10 := by decide
    simp only [x239_2, x239_3, x239_4, x239_5, x239_8, x239_9, x239_10, x239_11, x239_12, x239_13, x239_20, mn_2, h1, Option.bind_some, Option.toList_some, Option.toList_none, List.cons_append, List.nil_append, Option.isSome_some, if_true, eq_self, or_true, true_or, xb_01, mcl_cl, not_true_eq_false, not_false_eq_true, if_false]
  | succ d ih =>
    intro c hc
    have h1 : ¬ nI 10 ≤ nI c := nI_ge (by omega) (by decide)
    have h2 : c < 10 := by omega
    have h3 := ih (c + 1) (by omega)
    rw [← mCp_s] at h3
    simp only [x239_2, x239_3, x239_4, x239_5, x239_8, x239_9, x239_10, x239_11, x239_12, x239_13, mn_2, h1, ml_2, ms_44, xin_nI h2 (by decide), nI_clamp (lt31 h2 (by decide)), mCp_p (show 2 ≠ 44 by decide), Option.bind_some, Option.toList_some, Option.toList_none, List.cons_append, List.nil_append, Option.isSome_some, if_true, eq_self, or_true, true_or, xb_01, mcl_cl, not_true_eq_false, not_false_eq_true, if_false]
    simp only [x239_14, x239_17, nI_1]
    exact h3
theorem c239_2 : X g 239 0 [.val (va_rf (some (mu + 1))), .val (va_rf (some (mu + 32))), .unset] [] (mH n kc ks mu S) = some (none, mH n kc ks mu (mCp S 2 44 10)) := by
  have h1 := l239_2 (g := g) (n := n) (kc := kc) (ks := ks) (mu := mu) (S := S) 10 0 (by omega)
  rw [mCp_0] at h1
  have h1' : X g 239 2 [.val (va_rf (some (mu + 1))), .val (va_rf (some (mu + 32))), .val (.int 0)] [] (mH n kc ks mu S) = _ := h1
  simp only [x239_0, x239_1, h1', Option.bind_some, Option.toList_some, Option.toList_none, List.cons_append, List.nil_append, Option.isSome_some, if_true, eq_self, or_true, true_or, xb_01, mcl_cl, not_true_eq_false, not_false_eq_true, if_false]
theorem l239_3 : ∀ d c, c + d = 10 → X g 239 2 [.val (va_rf (some (mu + 2))), .val (va_rf (some (mu + 33))), .val (.int (nI c))] [] (mH n kc ks mu (mCp S 3 45 c)) = some (none, mH n kc ks mu (mCp S 3 45 10)) := by
  intro d
  induction d with
  | zero =>
    intro c hc
    have e : c = 10 := by omega
    subst e
    have h1 : nI 10 ≤ nI 10 := by decide
    simp only [x239_2, x239_3, x239_4, x239_5, x239_8, x239_9, x239_10, x239_11, x239_12, x239_13, x239_20, mn_3, h1, Option.bind_some, Option.toList_some, Option.toList_none, List.cons_append, List.nil_append, Option.isSome_some, if_true, eq_self, or_true, true_or, xb_01, mcl_cl, not_true_eq_false, not_false_eq_true, if_false]
  | succ d ih =>
    intro c hc
    have h1 : ¬ nI 10 ≤ nI c := nI_ge (by omega) (by decide)
    have h2 : c < 10 := by omega
    have h3 := ih (c + 1) (by omega)
    rw [← mCp_s] at h3
    simp only [x239_2, x239_3, x239_4, x239_5, x239_8, x239_9, x239_10, x239_11, x239_12, x239_13, mn_3, h1, ml_3, ms_45, xin_nI h2 (by decide), nI_clamp (lt31 h2 (by decide)), mCp_p (show 3 ≠ 45 by decide), Option.bind_some, Option.toList_some, Option.toList_none, List.cons_append, List.nil_append, Option.isSome_some, if_true, eq_self, or_true, true_or, xb_01, mcl_cl, not_true_eq_false, not_false_eq_true, if_false]
    simp only [x239_14, x239_17, nI_1]
    exact h3
theorem c239_3 : X g 239 0 [.val (va_rf (some (mu + 2))), .val (va_rf (some (mu + 33))), .unset] [] (mH n kc ks mu S) = some (none, mH n kc ks mu (mCp S 3 45 10)) := by
  have h1 := l239_3 (g := g) (n := n) (kc := kc) (ks := ks) (mu := mu) (S := S) 10 0 (by omega)
  rw [mCp_0] at h1
  have h1' : X g 239 2 [.val (va_rf (some (mu + 2))), .val (va_rf (some (mu + 33))), .val (.int 0)] [] (mH n kc ks mu S) = _ := h1
  simp only [x239_0, x239_1, h1', Option.bind_some, Option.toList_some, Option.toList_none, List.cons_append, List.nil_append, Option.isSome_some, if_true, eq_self, or_true, true_or, xb_01, mcl_cl, not_true_eq_false, not_false_eq_true, if_false]
theorem l239_5 : ∀ d c, c + d = 320 → X g 239 2 [.val (va_rf (some (mu + 4))), .val (va_rf (some (mu + 34))), .val (.int (nI c))] [] (mH n kc ks mu (mCp S 5 46 c)) = some (none, mH n kc ks mu (mCp S 5 46 320)) := by
  intro d
  induction d with
  | zero =>
    intro c hc
    have e : c = 320 := by omega
    subst e
    have h1 : nI 320 ≤ nI 320 := by decide
    simp only [x239_2, x239_3, x239_4, x239_5, x239_8, x239_9, x239_10, x239_11, x239_12, x239_13, x239_20, mn_5, h1, Option.bind_some, Option.toList_some, Option.toList_none, List.cons_append, List.nil_append, Option.isSome_some, if_true, eq_self, or_true, true_or, xb_01, mcl_cl, not_true_eq_false, not_false_eq_true, if_false]
  | succ d ih =>
    intro c hc
    have h1 : ¬ nI 320 ≤ nI c := nI_ge (by omega) (by decide)
    have h2 : c < 320 := by omega
    have h3 := ih (c + 1) (by omega)
    rw [← mCp_s] at h3
    simp only [x239_2, x239_3, x239_4, x239_5, x239_8, x239_9, x239_10, x239_11, x239_12, x239_13, mn_5, h1, ml_5, ms_46, xin_nI h2 (by decide), nI_clamp (lt31 h2 (by decide)), mCp_p (show 5 ≠ 46 by decide), Option.bind_some, Option.toList_some, Option.toList_none, List.cons_append, List.nil_append, Option.isSome_some, if_true, eq_self, or_true, true_or, xb_01, mcl_cl, not_true_eq_false, not_false_eq_true, if_false]
    simp only [x239_14, x239_17, nI_1]
    exact h3
theorem c239_5 : X g 239 0 [.val (va_rf (some (mu + 4))), .val (va_rf (some (mu + 34))), .unset] [] (mH n kc ks mu S) = some (none, mH n kc ks mu (mCp S 5 46 320)) := by
  have h1 := l239_5 (g := g) (n := n) (kc := kc) (ks := ks) (mu := mu) (S := S) 320 0 (by omega)
  rw [mCp_0] at h1
  have h1' : X g 239 2 [.val (va_rf (some (mu + 4))), .val (va_rf (some (mu + 34))), .val (.int 0)] [] (mH n kc ks mu S) = _ := h1
  simp only [x239_0, x239_1, h1', Option.bind_some, Option.toList_some, Option.toList_none, List.cons_append, List.nil_append, Option.isSome_some, if_true, eq_self, or_true, true_or, xb_01, mcl_cl, not_true_eq_false, not_false_eq_true, if_false]
theorem l239_7 : ∀ d c, c + d = 10 → X g 239 2 [.val (va_rf (some (mu + 6))), .val (va_rf (some (mu + 36))), .val (.int (nI c))] [] (mH n kc ks mu (mCp S 7 48 c)) = some (none, mH n kc ks mu (mCp S 7 48 10)) := by
  intro d
  induction d with
  | zero =>
    intro c hc
    have e : c = 10 := by omega
    subst e
    have h1 : nI 10 ≤ nI 10 := by decide
    simp only [x239_2, x239_3, x239_4, x239_5, x239_8, x239_9, x239_10, x239_11, x239_12, x239_13, x239_20, mn_7, h1, Option.bind_some, Option.toList_some, Option.toList_none, List.cons_append, List.nil_append, Option.isSome_some, if_true, eq_self, or_true, true_or, xb_01, mcl_cl, not_true_eq_false, not_false_eq_true, if_false]
  | succ d ih =>
    intro c hc
    have h1 : ¬ nI 10 ≤ nI c := nI_ge (by omega) (by decide)
    have h2 : c < 10 := by omega
    have h3 := ih (c + 1) (by omega)
    rw [← mCp_s] at h3
    simp only [x239_2, x239_3, x239_4, x239_5, x239_8, x239_9, x239_10, x239_11, x239_12, x239_13, mn_7, h1, ml_7, ms_48, xin_nI h2 (by decide), nI_clamp (lt31 h2 (by decide)), mCp_p (show 7 ≠ 48 by decide), Option.bind_some, Option.toList_some, Option.toList_none, List.cons_append, List.nil_append, Option.isSome_some, if_true, eq_self, or_true, true_or, xb_01, mcl_cl, not_true_eq_false, not_false_eq_true, if_false]
    simp only [x239_14, x239_17, nI_1]
    exact h3
theorem c239_7 : X g 239 0 [.val (va_rf (some (mu + 6))), .val (va_rf (some (mu + 36))), .unset] [] (mH n kc ks mu S) = some (none, mH n kc ks mu (mCp S 7 48 10)) := by
  have h1 := l239_7 (g := g) (n := n) (kc := kc) (ks := ks) (mu := mu) (S := S) 10 0 (by omega)
  rw [mCp_0] at h1
  have h1' : X g 239 2 [.val (va_rf (some (mu + 6))), .val (va_rf (some (mu + 36))), .val (.int 0)] [] (mH n kc ks mu S) = _ := h1
  simp only [x239_0, x239_1, h1', Option.bind_some, Option.toList_some, Option.toList_none, List.cons_append, List.nil_append, Option.isSome_some, if_true, eq_self, or_true, true_or, xb_01, mcl_cl, not_true_eq_false, not_false_eq_true, if_false]
theorem l239_8 : ∀ d c, c + d = 10 → X g 239 2 [.val (va_rf (some (mu + 7))), .val (va_rf (some (mu + 37))), .val (.int (nI c))] [] (mH n kc ks mu (mCp S 8 49 c)) = some (none, mH n kc ks mu (mCp S 8 49 10)) := by
  intro d
  induction d with
  | zero =>
    intro c hc
    have e : c = 10 := by omega
    subst e
    have h1 : nI 10 ≤ nI 10 := by decide
    simp only [x239_2, x239_3, x239_4, x239_5, x239_8, x239_9, x239_10, x239_11, x239_12, x239_13, x239_20, mn_8, h1, Option.bind_some, Option.toList_some, Option.toList_none, List.cons_append, List.nil_append, Option.isSome_some, if_true, eq_self, or_true, true_or, xb_01, mcl_cl, not_true_eq_false, not_false_eq_true, if_false]
  | succ d ih =>
    intro c hc
    have h1 : ¬ nI 10 ≤ nI c := nI_ge (by omega) (by decide)
    have h2 : c < 10 := by omega
    have h3 := ih (c + 1) (by omega)
    rw [← mCp_s] at h3
    simp only [x239_2, x239_3, x239_4, x239_5, x239_8, x239_9, x239_10, x239_11, x239_12, x239_13, mn_8, h1, ml_8, ms_49, xin_nI h2 (by decide), nI_clamp (lt31 h2 (by decide)), mCp_p (show 8 ≠ 49 by decide), Option.bind_some, Option.toList_some, Option.toList_none, List.cons_append, List.nil_append, Option.isSome_some, if_true, eq_self, or_true, true_or, xb_01, mcl_cl, not_true_eq_false, not_false_eq_true, if_false]
    simp only [x239_14, x239_17, nI_1]
    exact h3
theorem c239_8 : X g 239 0 [.val (va_rf (some (mu + 7))), .val (va_rf (some (mu + 37))), .unset] [] (mH n kc ks mu S) = some (none, mH n kc ks mu (mCp S 8 49 10)) := by
  have h1 := l239_8 (g := g) (n := n) (kc := kc) (ks := ks) (mu := mu) (S := S) 10 0 (by omega)
  rw [mCp_0] at h1
  have h1' : X g 239 2 [.val (va_rf (some (mu + 7))), .val (va_rf (some (mu + 37))), .val (.int 0)] [] (mH n kc ks mu S) = _ := h1
  simp only [x239_0, x239_1, h1', Option.bind_some, Option.toList_some, Option.toList_none, List.cons_append, List.nil_append, Option.isSome_some, if_true, eq_self, or_true, true_or, xb_01, mcl_cl, not_true_eq_false, not_false_eq_true, if_false]
theorem l239_12 : ∀ d c, c + d = 30 → X g 239 2 [.val (va_rf (some (mu + 9))), .val (va_rf (some (mu + 38))), .val (.int (nI c))] [] (mH n kc ks mu (mCp S 12 50 c)) = some (none, mH n kc ks mu (mCp S 12 50 30)) := by
  intro d
  induction d with
  | zero =>
    intro c hc
    have e : c = 30 := by omega
    subst e
    have h1 : nI 30 ≤ nI 30 := by decide
    simp only [x239_2, x239_3, x239_4, x239_5, x239_8, x239_9, x239_10, x239_11, x239_12, x239_13, x239_20, mn_12, h1, Option.bind_some, Option.toList_some, Option.toList_none, List.cons_append, List.nil_append, Option.isSome_some, if_true, eq_self, or_true, true_or, xb_01, mcl_cl, not_true_eq_false, not_false_eq_true, if_false]
  | succ d ih =>
    intro c hc
    have h1 : ¬ nI 30 ≤ nI c := nI_ge (by omega) (by decide)
    have h2 : c < 30 := by omega
    have h3 := ih (c + 1) (by omega)
    rw [← mCp_s] at h3
    simp only [x239_2, x239_3, x239_4, x239_5, x239_8, x239_9, x239_10, x239_11, x239_12, x239_13, mn_12, h1, ml_12, ms_50, xin_nI h2 (by decide), nI_clamp (lt31 h2 (by decide)), mCp_p (show 12 ≠ 50 by decide), Option.bind_some, Option.toList_some, Option.toList_none, List.cons_append, List.nil_append, Option.isSome_some, if_true, eq_self, or_true, true_or, xb_01, mcl_cl, not_true_eq_false, not_false_eq_true, if_false]
    simp only [x239_14, x239_17, nI_1]
    exact h3
theorem c239_12 : X g 239 0 [.val (va_rf (some (mu + 9))), .val (va_rf (some (mu + 38))), .unset] [] (mH n kc ks mu S) = some (none, mH n kc ks mu (mCp S 12 50 30)) := by
  have h1 := l239_12 (g := g) (n := n) (kc := kc) (ks := ks) (mu := mu) (S := S) 30 0 (by omega)
  rw [mCp_0] at h1
  have h1' : X g 239 2 [.val (va_rf (some (mu + 9))), .val (va_rf (some (mu + 38))), .val (.int 0)] [] (mH n kc ks mu S) = _ := h1
  simp only [x239_0, x239_1, h1', Option.bind_some, Option.toList_some, Option.toList_none, List.cons_append, List.nil_append, Option.isSome_some, if_true, eq_self, or_true, true_or, xb_01, mcl_cl, not_true_eq_false, not_false_eq_true, if_false]
theorem l239_44 : ∀ d c, c + d = 10 → X g 239 2 [.val (va_rf (some (mu + 32))), .val (va_rf (some (mu + 1))), .val (.int (nI c))] [] (mH n kc ks mu (mCp S 44 2 c)) = some (none, mH n kc ks mu (mCp S 44 2 10)) := by
  intro d
  induction d with
  | zero =>
    intro c hc
    have e : c = 10 := by omega
    subst e
    have h1 : nI 10 ≤ nI 10 := by decide
    simp only [x239_2, x239_3, x239_4, x239_5, x239_8, x239_9, x239_10, x239_11, x239_12, x239_13, x239_20, mn_44, h1, Option.bind_some, Option.toList_some, Option.toList_none, List.cons_append, List.nil_append, Option.isSome_some, if_true, eq_self, or_true, true_or, xb_01, mcl_cl, not_true_eq_false, not_false_eq_true, if_false]
  | succ d ih =>
    intro c hc
    have h1 : ¬ nI 10 ≤ nI c := nI_ge (by omega) (by decide)
    have h2 : c < 10 := by omega
    have h3 := ih (c + 1) (by omega)
    rw [← mCp_s] at h3
    simp only [x239_2, x239_3, x239_4, x239_5, x239_8, x239_9, x239_10, x239_11, x239_12, x239_13, mn_44, h1, ml_44, ms_2, xin_nI h2 (by decide), nI_clamp (lt31 h2 (by decide)), mCp_p (show 44 ≠ 2 by decide), Option.bind_some, Option.toList_some, Option.toList_none, List.cons_append, List.nil_append, Option.isSome_some, if_true, eq_self, or_true, true_or, xb_01, mcl_cl, not_true_eq_false, not_false_eq_true, if_false]
    simp only [x239_14, x239_17, nI_1]
    exact h3
theorem c239_44 : X g 239 0 [.val (va_rf (some (mu + 32))), .val (va_rf (some (mu + 1))), .unset] [] (mH n kc ks mu S) = some (none, mH n kc ks mu (mCp S 44 2 10)) := by
  have h1 := l239_44 (g := g) (n := n) (kc := kc) (ks := ks) (mu := mu) (S := S) 10 0 (by omega)
  rw [mCp_0] at h1
  have h1' : X g 239 2 [.val (va_rf (some (mu + 32))), .val (va_rf (some (mu + 1))), .val (.int 0)] [] (mH n kc ks mu S) = _ := h1
  simp only [x239_0, x239_1, h1', Option.bind_some, Option.toList_some, Option.toList_none, List.cons_append, List.nil_append, Option.isSome_some, if_true, eq_self, or_true, true_or, xb_01, mcl_cl, not_true_eq_false, not_false_eq_true, if_false]
theorem l239_45 : ∀ d c, c + d = 10 → X g 239 2 [.val (va_rf (some (mu + 33))), .val (va_rf (some (mu + 2))), .val (.int (nI c))] [] (mH n kc ks mu (mCp S 45 3 c)) = some (none, mH n kc ks mu (mCp S 45 3 10)) := by
  intro d
  induction d with
  | zero =>
    intro c hc
    have e : c = 10 := by omega
    subst e
    have h1 : nI 10 ≤ nI 10 := by decide
    simp only [x239_2, x239_3, x239_4, x239_5, x239_8, x239_9, x239_10, x239_11, x239_12, x239_13, x239_20, mn_45, h1, Option.bind_some, Option.toList_some, Option.toList_none, List.cons_append, List.nil_append, Option.isSome_some, if_true, eq_self, or_true, true_or, xb_01, mcl_cl, not_true_eq_false, not_false_eq_true, if_false]
  | succ d ih =>
    intro c hc
    have h1 : ¬ nI 10 ≤ nI c := nI_ge (by omega) (by decide)
    have h2 : c < 10 := by omega
    have h3 := ih (c + 1) (by omega)
    rw [← mCp_s] at h3
    simp only [x239_2, x239_3, x239_4, x239_5, x239_8, x239_9, x239_10, x239_11, x239_12, x239_13, mn_45, h1, ml_45, ms_3, xin_nI h2 (by decide), nI_clamp (lt31 h2 (by decide)), mCp_p (show 45 ≠ 3 by decide), Option.bind_some, Option.toList_some, Option.toList_none, List.cons_append, List.nil_append, Option.isSome_some, if_true, eq_self, or_true, true_or, xb_01, mcl_cl, not_true_eq_false, not_false_eq_true, if_false]
    simp only [x239_14, x239_17, nI_1]
    exact h3
theorem c239_45 : X g 239 0 [.val (va_rf (some (mu + 33))), .val (va_rf (some (mu + 2))), .unset] [] (mH n kc ks mu S) = some (none, mH n kc ks mu (mCp S 45 3 10)) := by
  have h1 := l239_45 (g := g) (n := n) (kc := kc) (ks := ks) (mu := mu) (S := S) 10 0 (by omega)
  rw [mCp_0] at h1
  have h1' : X g 239 2 [.val (va_rf (some (mu + 33))), .val (va_rf (some (mu + 2))), .val (.int 0)] [] (mH n kc ks mu S) = _ := h1
  simp only [x239_0, x239_1, h1', Option.bind_some, Option.toList_some, Option.toList_none, List.cons_append, List.nil_append, Option.isSome_some, if_true, eq_self, or_true, true_or, xb_01, mcl_cl, not_true_eq_false, not_false_eq_true, if_false]
theorem l239_46 : ∀ d c, c + d = 320 → X g 239 2 [.val (va_rf (some (mu + 34))), .val (va_rf (some (mu + 4))), .val (.int (nI c))] [] (mH n kc ks mu (mCp S 46 5 c)) = some (none, mH n kc ks mu (mCp S 46 5 320)) := by
  intro d
  induction d with
  | zero =>
    intro c hc
    have e : c = 320 := by omega
    subst e
    have h1 : nI 320 ≤ nI 320 := by decide
    simp only [x239_2, x239_3, x239_4, x239_5, x239_8, x239_9, x239_10, x239_11, x239_12, x239_13, x239_20, mn_46, h1, Option.bind_some, Option.toList_some, Option.toList_none, List.cons_append, List.nil_append, Option.isSome_some, if_true, eq_self, or_true, true_or, xb_01, mcl_cl, not_true_eq_false, not_false_eq_true, if_false]
  | succ d ih =>
    intro c hc
    have h1 : ¬ nI 320 ≤ nI c := nI_ge (by omega) (by decide)
    have h2 : c < 320 := by omega
    have h3 := ih (c + 1) (by omega)
    rw [← mCp_s] at h3
    simp only [x239_2, x239_3, x239_4, x239_5, x239_8, x239_9, x239_10, x239_11, x239_12, x239_13, mn_46, h1, ml_46, ms_5, xin_nI h2 (by decide), nI_clamp (lt31 h2 (by decide)), mCp_p (show 46 ≠ 5 by decide), Option.bind_some, Option.toList_some, Option.toList_none, List.cons_append, List.nil_append, Option.isSome_some, if_true, eq_self, or_true, true_or, xb_01, mcl_cl, not_true_eq_false, not_false_eq_true, if_false]
    simp only [x239_14, x239_17, nI_1]
    exact h3
theorem c239_46 : X g 239 0 [.val (va_rf (some (mu + 34))), .val (va_rf (some (mu + 4))), .unset] [] (mH n kc ks mu S) = some (none, mH n kc ks mu (mCp S 46 5 320)) := by
  have h1 := l239_46 (g := g) (n := n) (kc := kc) (ks := ks) (mu := mu) (S := S) 320 0 (by omega)
  rw [mCp_0] at h1
  have h1' : X g 239 2 [.val (va_rf (some (mu + 34))), .val (va_rf (some (mu + 4))), .val (.int 0)] [] (mH n kc ks mu S) = _ := h1
  simp only [x239_0, x239_1, h1', Option.bind_some, Option.toList_some, Option.toList_none, List.cons_append, List.nil_append, Option.isSome_some, if_true, eq_self, or_true, true_or, xb_01, mcl_cl, not_true_eq_false, not_false_eq_true, if_false]
theorem l239_48 : ∀ d c, c + d = 10 → X g 239 2 [.val (va_rf (some (mu + 36))), .val (va_rf (some (mu + 6))), .val (.int (nI c))] [] (mH n kc ks mu (mCp S 48 7 c)) = some (none, mH n kc ks mu (mCp S 48 7 10)) := by
  intro d
  induction d with
  | zero =>
    intro c hc
    have e : c = 10 := by omega
    subst e
    have h1 : nI 10 ≤ nI 10 := by decide
    simp only [x239_2, x239_3, x239_4, x239_5, x239_8, x239_9, x239_10, x239_11, x239_12, x239_13, x239_20, mn_48, h1, Option.bind_some, Option.toList_some, Option.toList_none, List.cons_append, List.nil_append, Option.isSome_some, if_true, eq_self, or_true, true_or, xb_01, mcl_cl, not_true_eq_false, not_false_eq_true, if_false]
  | succ d ih =>
    intro c hc
    have h1 : ¬ nI 10 ≤ nI c := nI_ge (by omega) (by decide)
    have h2 : c < 10 := by omega
    have h3 := ih (c + 1) (by omega)
    rw [← mCp_s] at h3
    simp only [x239_2, x239_3, x239_4, x239_5, x239_8, x239_9, x239_10, x239_11, x239_12, x239_13, mn_48, h1, ml_48, ms_7, xin_nI h2 (by decide), nI_clamp (lt31 h2 (by decide)), mCp_p (show 48 ≠ 7 by decide), Option.bind_some, Option.toList_some, Option.toList_none, List.cons_append, List.nil_append, Option.isSome_some, if_true, eq_self, or_true, true_or, xb_01, mcl_cl, not_true_eq_false, not_false_eq_true, if_false]
    simp only [x239_14, x239_17, nI_1]
    exact h3
theorem c239_48 : X g 239 0 [.val (va_rf (some (mu + 36))), .val (va_rf (some (mu + 6))), .unset] [] (mH n kc ks mu S) = some (none, mH n kc ks mu (mCp S 48 7 10)) := by
  have h1 := l239_48 (g := g) (n := n) (kc := kc) (ks := ks) (mu := mu) (S := S) 10 0 (by omega)
  rw [mCp_0] at h1
  have h1' : X g 239 2 [.val (va_rf (some (mu + 36))), .val (va_rf (some (mu + 6))), .val (.int 0)] [] (mH n kc ks mu S) = _ := h1
  simp only [x239_0, x239_1, h1', Option.bind_some, Option.toList_some, Option.toList_none, List.cons_append, List.nil_append, Option.isSome_some, if_true, eq_self, or_true, true_or, xb_01, mcl_cl, not_true_eq_false, not_false_eq_true, if_false]
theorem l239_49 : ∀ d c, c + d = 10 → X g 239 2 [.val (va_rf (some (mu + 37))), .val (va_rf (some (mu + 7))), .val (.int (nI c))] [] (mH n kc ks mu (mCp S 49 8 c)) = some (none, mH n kc ks mu (mCp S 49 8 10)) := by
  intro d
  induction d with
  | zero =>
    intro c hc
    have e : c = 10 := by omega
    subst e
    have h1 : nI 10 ≤ nI 10 := by decide
    simp only [x239_2, x239_3, x239_4, x239_5, x239_8, x239_9, x239_10, x239_11, x239_12, x239_13, x239_20, mn_49, h1, Option.bind_some, Option.toList_some, Option.toList_none, List.cons_append, List.nil_append, Option.isSome_some, if_true, eq_self, or_true, true_or, xb_01, mcl_cl, not_true_eq_false, not_false_eq_true, if_false]
  | succ d ih =>
    intro c hc
    have h1 : ¬ nI 10 ≤ nI c := nI_ge (by omega) (by decide)
    have h2 : c < 10 := by omega
    have h3 := ih (c + 1) (by omega)
    rw [← mCp_s] at h3
    simp only [x239_2, x239_3, x239_4, x239_5, x239_8, x239_9, x239_10, x239_11, x239_12, x239_13, mn_49, h1, ml_49, ms_8, xin_nI h2 (by decide), nI_clamp (lt31 h2 (by decide)), mCp_p (show 49 ≠ 8 by decide), Option.bind_some, Option.toList_some, Option.toList_none, List.cons_append, List.nil_append, Option.isSome_some, if_true, eq_self, or_true, true_or, xb_01, mcl_cl, not_true_eq_false, not_false_eq_true, if_false]
    simp only [x239_14, x239_17, nI_1]
    exact h3
theorem c239_49 : X g 239 0 [.val (va_rf (some (mu + 37))), .val (va_rf (some (mu + 7))), .unset] [] (mH n kc ks mu S) = some (none, mH n kc ks mu (mCp S 49 8 10)) := by
  have h1 := l239_49 (g := g) (n := n) (kc := kc) (ks := ks) (mu := mu) (S := S) 10 0 (by omega)
  rw [mCp_0] at h1
  have h1' : X g 239 2 [.val (va_rf (some (mu + 37))), .val (va_rf (some (mu + 7))), .val (.int 0)] [] (mH n kc ks mu S) = _ := h1
  simp only [x239_0, x239_1, h1', Option.bind_some, Option.toList_some, Option.toList_none, List.cons_append, List.nil_append, Option.isSome_some, if_true, eq_self, or_true, true_or, xb_01, mcl_cl, not_true_eq_false, not_false_eq_true, if_false]
theorem l239_50 : ∀ d c, c + d = 30 → X g 239 2 [.val (va_rf (some (mu + 38))), .val (va_rf (some (mu + 9))), .val (.int (nI c))] [] (mH n kc ks mu (mCp S 50 12 c)) = some (none, mH n kc ks mu (mCp S 50 12 30)) := by
  intro d
  induction d with
  | zero =>
    intro c hc
    have e : c = 30 := by omega
    subst e
    have h1 : nI 30 ≤ nI 30 := by decide
    simp only [x239_2, x239_3, x239_4, x239_5, x239_8, x239_9, x239_10, x239_11, x239_12, x239_13, x239_20, mn_50, h1, Option.bind_some, Option.toList_some, Option.toList_none, List.cons_append, List.nil_append, Option.isSome_some, if_true, eq_self, or_true, true_or, xb_01, mcl_cl, not_true_eq_false, not_false_eq_true, if_false]
  | succ d ih =>
    intro c hc
    have h1 : ¬ nI 30 ≤ nI c := nI_ge (by omega) (by decide)
    have h2 : c < 30 := by omega
    have h3 := ih (c + 1) (by omega)
    rw [← mCp_s] at h3
    simp only [x239_2, x239_3, x239_4, x239_5, x239_8, x239_9, x239_10, x239_11, x239_12, x239_13, mn_50, h1, ml_50, ms_12, xin_nI h2 (by decide), nI_clamp (lt31 h2 (by decide)), mCp_p (show 50 ≠ 12 by decide), Option.bind_some, Option.toList_some, Option.toList_none, List.cons_append, List.nil_append, Option.isSome_some, if_true, eq_self, or_true, true_or, xb_01, mcl_cl, not_true_eq_false, not_false_eq_true, if_false]
    simp only [x239_14, x239_17, nI_1]
    exact h3
theorem c239_50 : X g 239 0 [.val (va_rf (some (mu + 38))), .val (va_rf (some (mu + 9))), .unset] [] (mH n kc ks mu S) = some (none, mH n kc ks mu (mCp S 50 12 30)) := by
  have h1 := l239_50 (g := g) (n := n) (kc := kc) (ks := ks) (mu := mu) (S := S) 30 0 (by omega)
  rw [mCp_0] at h1
  have h1' : X g 239 2 [.val (va_rf (some (mu + 38))), .val (va_rf (some (mu + 9))), .val (.int 0)] [] (mH n kc ks mu S) = _ := h1
  simp only [x239_0, x239_1, h1', Option.bind_some, Option.toList_some, Option.toList_none, List.cons_append, List.nil_append, Option.isSome_some, if_true, eq_self, or_true, true_or, xb_01, mcl_cl, not_true_eq_false, not_false_eq_true, if_false]
/-- how many rows are held -/
def sRows (S : MS) : Nat := mCnt (fun r => !decide (mHolders S (nI r) = 0)) 0 10
theorem mHo_le : mHolders S x ≤ 10 := mCnt_le 10 0
theorem l240 : ∀ d c z, c + d = 10 → X g 240 4 [.val (va_rf (some mu)), .val (.int (nI z)), .val (.int (nI c))] [] (mH n kc ks mu S) = some (some (.int (nI (z + mCnt (fun r => !decide (mHolders S (nI r) = 0)) c d))), mH n kc ks mu S) := by
  intro d
  induction d with
  | zero =>
    intro c z hc
    have e : c = 10 := by omega
    subst e
    have h1 : (10 : Int32) ≤ nI 10 := by decide
    simp only [x240_4, x240_5, x240_7, x240_10, x240_11, x240_12, x240_13, x240_16, x240_19, x240_20, x240_23, x240_24, x240_25, x240_32, x240_33, h1, mCnt, Nat.add_zero, Option.bind_some, Option.toList_some, Option.toList_none, List.cons_append, List.nil_append, Option.isSome_some, if_true, eq_self, or_true, true_or, xb_01, mcl_cl, not_true_eq_false, not_false_eq_true, if_false]
  | succ d ih =>
    intro c z hc
    have h1 : ¬ (10 : Int32) ≤ nI c := nI_ge (b := 10) (by omega) (by decide)
    have hm := mHo_le (S := S) (x := nI c)
    rw [mCnt]
    by_cases e : mHolders S (nI c) = 0
    · have e1 : nI (mHolders S (nI c)) ≤ 0 := by rw [e]; decide
      have h3 := ih (c + 1) z (by omega)
      simp only [x240_4, x240_5, x240_7, x240_10, x240_11, x240_12, x240_13, x240_16, x240_19, x240_20, x240_23, x240_24, x240_25, h1, c166, e1, Int32.add_zero, Option.bind_some, Option.toList_some, Option.toList_none, List.cons_append, List.nil_append, Option.isSome_some, if_true, eq_self, or_true, true_or, xb_01, mcl_cl, not_true_eq_false, not_false_eq_true, if_false]
      simp only [x240_26, x240_29, nI_1]
      rw [h3]
      simp [e]
    · have e1 : ¬ nI (mHolders S (nI c)) ≤ 0 := by
        generalize mHolders S (nI c) = hh at hm e
        exact nI_ge (a := 0) (b := hh) (Nat.pos_of_ne_zero e) (by omega)
      have h3 := ih (c + 1) (z + 1) (by omega)
      simp only [x240_4, x240_5, x240_7, x240_10, x240_11, x240_12, x240_13, x240_16, x240_19, x240_20, x240_23, x240_24, x240_25, h1, c166, e1, nI_1, Option.bind_some, Option.toList_some, Option.toList_none, List.cons_append, List.nil_append, Option.isSome_some, if_true, eq_self, or_true, true_or, xb_01, mcl_cl, not_true_eq_false, not_false_eq_true, if_false]
      simp only [x240_26, x240_29, nI_1]
      rw [h3]
      simp [e, Nat.add_assoc]
theorem c240 : X g 240 0 [.val (va_rf (some mu)), .unset, .unset] [] (mH n kc ks mu S) = some (some (.int (nI (sRows S))), mH n kc ks mu S) := by
  have h1 := l240 (g := g) (n := n) (kc := kc) (ks := ks) (mu := mu) (S := S) 10 0 0 (by omega)
  rw [Nat.zero_add] at h1
  have h1' : X g 240 4 [.val (va_rf (some mu)), .val (.int 0), .val (.int 0)] [] (mH n kc ks mu S) = _ := h1
  simp only [x240_0, x240_1, x240_2, x240_3, h1', Option.bind_some, Option.toList_some, Option.toList_none, List.cons_append, List.nil_append, Option.isSome_some, if_true, eq_self, or_true, true_or, xb_01, mcl_cl, not_true_eq_false, not_false_eq_true, if_false]
  rfl
theorem l241 : ∀ d c, c + d = 320 → X g 241 73 [.val (va_rf (some mu)), .val (.int (nI c))] [] (mH n kc ks mu (mCq S 6 47 c)) = some (some (.int (nI (sRows S))), mH n kc ks mu (mCq S 6 47 320)) := by
  intro d
  induction d with
  | zero =>
    intro c hc
    have e : c = 320 := by omega
    subst e
    have h1 : (320 : Int32) ≤ nI 320 := by decide
    have h2 := c240 (g := g) (n := n) (kc := kc) (ks := ks) (mu := mu) (S := mCq S 6 47 320)
    have h2' : X g 240 0 [.val (va_rf (some mu)), .unset, .unset] [] (mH n kc ks mu (mCq S 6 47 320)) = some (some (.int (nI (sRows S))), mH n kc ks mu (mCq S 6 47 320)) := h2
    simp only [x241_73, x241_74, x241_77, x241_80, x241_81, x241_84, x241_85, x241_86, x241_89, x241_90, x241_91, x241_98, x241_99, x241_102, h1, h2', Option.bind_some, Option.toList_some, Option.toList_none, List.cons_append, List.nil_append, Option.isSome_some, if_true, eq_self, or_true, true_or, xb_01, mcl_cl, not_true_eq_false, not_false_eq_true, if_false]
  | succ d ih =>
    intro c hc
    have h1 : ¬ (320 : Int32) ≤ nI c := nI_ge (b := 320) (by omega) (by decide)
    have h2 : c < 320 := by omega
    have h3 := ih (c + 1) (by omega)
    rw [← mCq_s] at h3
    simp only [x241_73, x241_74, x241_77, x241_80, x241_81, x241_84, x241_85, x241_86, x241_89, x241_90, x241_91, h1, mf_47, ms_47, mf_6, ml_6, xin_nI h2 (by decide), nI_clamp (lt31 h2 (by decide)), mCq_p (show 6 ≠ 47 by decide), Option.bind_some, Option.toList_some, Option.toList_none, List.cons_append, List.nil_append, Option.isSome_some, if_true, eq_self, or_true, true_or, xb_01, mcl_cl, not_true_eq_false, not_false_eq_true, if_false]
    simp only [x241_92, x241_95, nI_1]
    exact h3
/-- the image kept -/
def mImg (S : MS) : MS := mCq (mCp (mCp (mCp (mCp (mCp (mCp (msI S 43 1) 2 44 10) 3 45 10) 5 46 320) 7 48 10) 8 49 10) 12 50 30) 6 47 320
theorem mCp_7 {c t : Nat} (h : q ≠ 7) : (mCp S p q c).2.2.1 7 t = S.2.2.1 7 t := by
  have : ¬ 7 = q := fun e => h e.symm
  simp [mCp, this]
theorem sRows_c {T : MS} (h : ∀ t, T.2.2.1 7 t = S.2.2.1 7 t) : sRows T = sRows S := by
  unfold sRows mHolders
  simp only [h]
theorem e241 : X g 241 0 [.val (va_rf (some mu)), .unset] [] (mH n kc ks mu S) = some (some (.int (nI (sRows S))), mH n kc ks mu (mImg S)) := by
  have h1 := l241 (g := g) (n := n) (kc := kc) (ks := ks) (mu := mu) (S := mCp (mCp (mCp (mCp (mCp (mCp (msI S 43 1) 2 44 10) 3 45 10) 5 46 320) 7 48 10) 8 49 10) 12 50 30) 320 0 (by omega)
  rw [mCq_0, sRows_c (S := S) (fun t => by rw [mCp_7 (by decide), mCp_7 (by decide), mCp_7 (by decide), mCp_7 (by decide), mCp_7 (by decide), mCp_7 (by decide)]; rfl)] at h1
  have h1' : X g 241 73 [.val (va_rf (some mu)), .val (.int 0)] [] (mH n kc ks mu (mCp (mCp (mCp (mCp (mCp (mCp (msI S 43 1) 2 44 10) 3 45 10) 5 46 320) 7 48 10) 8 49 10) 12 50 30)) = some (some (.int (nI (sRows S))), mH n kc ks mu (mImg S)) := h1
  have hz : ((1 : Int32) == 0 || (1 : Int32) == 1) = true := by decide
  simp only [x241_0, x241_1, x241_2, x241_5, x241_6, x241_9, x241_10, x241_13, x241_16, x241_17, x241_20, x241_21, x241_24, x241_27, x241_28, x241_31, x241_32, x241_35, x241_38, x241_39, x241_42, x241_43, x241_46, x241_49, x241_50, x241_53, x241_54, x241_57, x241_60, x241_61, x241_64, x241_65, x241_68, x241_71, x241_72, x241_2 hz, mf_43, mp_43, mf_2, mf_44, mf_3, mf_45, mf_5, mf_46, mf_7, mf_48, mf_8, mf_49, mf_12, mf_50, c239_2, c239_3, c239_5, c239_7, c239_8, c239_12, h1', Option.bind_some, Option.toList_some, Option.toList_none, List.cons_append, List.nil_append, Option.isSome_some, if_true, eq_self, or_true, true_or, xb_01, mcl_cl, not_true_eq_false, not_false_eq_true, if_false]
theorem l242a : ∀ d c, c + d = 320 → X g 242 78 [.val (va_rf (some mu)), .val (.int (nI c))] [] (mH n kc ks mu (mCq S 47 6 c)) = X g 242 103 [.val (va_rf (some mu)), .val (.int 320)] [] (mH n kc ks mu (mCq S 47 6 320)) := by
  intro d
  induction d with
  | zero =>
    intro c hc
    have e : c = 320 := by omega
    subst e
    have h1 : (320 : Int32) ≤ nI 320 := by decide
    simp only [x242_78, x242_79, x242_82, x242_85, x242_86, x242_89, x242_90, x242_91, x242_94, x242_95, x242_96, h1, Option.bind_some, Option.toList_some, Option.toList_none, List.cons_append, List.nil_append, Option.isSome_some, if_true, eq_self, or_true, true_or, xb_01, mcl_cl, not_true_eq_false, not_false_eq_true, if_false]
    rfl
  | succ d ih =>
    intro c hc
    have h1 : ¬ (320 : Int32) ≤ nI c := nI_ge (b := 320) (by omega) (by decide)
    have h2 : c < 320 := by omega
    have h3 := ih (c + 1) (by omega)
    rw [← mCq_s] at h3
    simp only [x242_78, x242_79, x242_82, x242_85, x242_86, x242_89, x242_90, x242_91, x242_94, x242_95, x242_96, h1, mf_47, ml_47, mf_6, ms_6, xin_nI h2 (by decide), nI_clamp (lt31 h2 (by decide)), mCq_p (show 47 ≠ 6 by decide), Option.bind_some, Option.toList_some, Option.toList_none, List.cons_append, List.nil_append, Option.isSome_some, if_true, eq_self, or_true, true_or, xb_01, mcl_cl, not_true_eq_false, not_false_eq_true, if_false]
    simp only [x242_97, x242_100, nI_1]
    exact h3
def mCl0 (S : MS) (c : Nat) : MS := (S.1, S.2.1, fun z i => if z = 4 ∧ i < c then 0 else S.2.2.1 z i, S.2.2.2)
theorem mCl0_0 : mCl0 S 0 = S := by
  refine Prod.ext rfl (Prod.ext rfl (Prod.ext ?_ rfl))
  funext z i
  simp [mCl0]
theorem mCl0_s {c : Nat} : msA (mCl0 S c) 4 c 0 = mCl0 S (c + 1) := by
  refine Prod.ext rfl (Prod.ext rfl (Prod.ext ?_ rfl))
  funext z i
  simp only [mCl0, msA]
  by_cases e : i = c
  · subst e
    by_cases e2 : z = 4
    · simp [e2]
    · simp [e2]
  · have hx : (i < c + 1) = (i < c) := propext (by omega)
    simp only [hx, e, and_false, if_false]
theorem l242b : ∀ d c, c + d = 10 → X g 242 105 [.val (va_rf (some mu)), .val (.int (nI c))] [] (mH n kc ks mu (mCl0 S c)) = some (some (.int (nI (sRows S))), mH n kc ks mu (msI (msI (mCl0 S 10) 23 0) 24 0)) := by
  intro d
  induction d with
  | zero =>
    intro c hc
    have e : c = 10 := by omega
    subst e
    have h1 : (10 : Int32) ≤ nI 10 := by decide
    have h2 := c240 (g := g) (n := n) (kc := kc) (ks := ks) (mu := mu) (S := msI (msI (mCl0 S 10) 23 0) 24 0)
    rw [sRows_c (S := S) (fun t => by show (mCl0 S 10).2.2.1 7 t = _; simp [mCl0])] at h2
    simp only [x242_105, x242_106, x242_108, x242_111, x242_112, x242_115, x242_116, x242_117, x242_124, x242_125, x242_126, x242_129, x242_130, x242_131, x242_134, x242_135, x242_138, mf_23, mp_23, mf_24, mp_24, h1, h2, Option.bind_some, Option.toList_some, Option.toList_none, List.cons_append, List.nil_append, Option.isSome_some, if_true, eq_self, or_true, true_or, xb_01, mcl_cl, not_true_eq_false, not_false_eq_true, if_false]
  | succ d ih =>
    intro c hc
    have h1 : ¬ (10 : Int32) ≤ nI c := nI_ge (b := 10) (by omega) (by decide)
    have h2 : c < 10 := by omega
    have h3 := ih (c + 1) (by omega)
    rw [← mCl0_s] at h3
    simp only [x242_105, x242_106, x242_108, x242_111, x242_112, x242_115, x242_116, x242_117, h1, mf_4, ms_4, xin_nI h2 (by decide), nI_clamp (lt31 h2 (by decide)), Option.bind_some, Option.toList_some, Option.toList_none, List.cons_append, List.nil_append, Option.isSome_some, if_true, eq_self, or_true, true_or, xb_01, mcl_cl, not_true_eq_false, not_false_eq_true, if_false]
    simp only [x242_118, x242_121, nI_1]
    exact h3
/-- the image laid back -/
def mLb (S : MS) : MS := mCq (mCp (mCp (mCp (mCp (mCp (mCp S 44 2 10) 45 3 10) 46 5 320) 48 7 10) 49 8 10) 50 12 30) 47 6 320
def mBk (S : MS) : MS := msI (msI (mCl0 (mLb S) 10) 23 0) 24 0
def fBack (S : MS) : Int32 × MS := if S.1 43 = 0 then (-3, S) else (nI (sRows (mLb S)), mBk S)
theorem e242 : X g 242 0 [.val (va_rf (some mu)), .unset] [] (mH n kc ks mu S) = some (some (.int (fBack S).1), mH n kc ks mu (fBack S).2) := by
  unfold fBack
  by_cases e : S.1 43 = 0
  · rw [if_pos e]
    simp only [x242_0, x242_1, x242_4, x242_7, x242_9, x242_10, x242_11, x242_14, x242_15, x242_18, x242_21, x242_22, x242_25, x242_26, x242_29, x242_32, x242_33, x242_36, x242_37, x242_40, x242_43, x242_44, x242_47, x242_48, x242_51, x242_54, x242_55, x242_58, x242_59, x242_62, x242_65, x242_66, x242_69, x242_70, x242_73, x242_76, x242_77, mf_43, e, Option.bind_some, Option.toList_some, Option.toList_none, List.cons_append, List.nil_append, Option.isSome_some, if_true, eq_self, or_true, true_or, xb_01, mcl_cl, not_true_eq_false, not_false_eq_true, if_false]
  · rw [if_neg e]
    have h1 := l242a (g := g) (n := n) (kc := kc) (ks := ks) (mu := mu) (S := mCp (mCp (mCp (mCp (mCp (mCp S 44 2 10) 45 3 10) 46 5 320) 48 7 10) 49 8 10) 50 12 30) 320 0 (by omega)
    rw [mCq_0] at h1
    have h1' : X g 242 78 [.val (va_rf (some mu)), .val (.int 0)] [] (mH n kc ks mu (mCp (mCp (mCp (mCp (mCp (mCp S 44 2 10) 45 3 10) 46 5 320) 48 7 10) 49 8 10) 50 12 30)) = X g 242 103 [.val (va_rf (some mu)), .val (.int 320)] [] (mH n kc ks mu (mLb S)) := h1
    have h2 := l242b (g := g) (n := n) (kc := kc) (ks := ks) (mu := mu) (S := mLb S) 10 0 (by omega)
    rw [mCl0_0] at h2
    have h2' : X g 242 105 [.val (va_rf (some mu)), .val (.int 0)] [] (mH n kc ks mu (mLb S)) = some (some (.int (nI (sRows (mLb S)))), mH n kc ks mu (mBk S)) := h2
    simp only [x242_0, x242_1, x242_4, x242_7, x242_9, x242_10, x242_11, x242_14, x242_15, x242_18, x242_21, x242_22, x242_25, x242_26, x242_29, x242_32, x242_33, x242_36, x242_37, x242_40, x242_43, x242_44, x242_47, x242_48, x242_51, x242_54, x242_55, x242_58, x242_59, x242_62, x242_65, x242_66, x242_69, x242_70, x242_73, x242_76, x242_77, mf_43, e, mf_2, mf_44, mf_3, mf_45, mf_5, mf_46, mf_7, mf_48, mf_8, mf_49, mf_12, mf_50, c239_44, c239_45, c239_46, c239_48, c239_49, c239_50, h1', Option.bind_some, Option.toList_some, Option.toList_none, List.cons_append, List.nil_append, Option.isSome_some, if_true, eq_self, or_true, true_or, xb_01, mcl_cl, not_true_eq_false, not_false_eq_true, if_false]
    simp only [x242_103, x242_104, h2', Option.bind_some, Option.toList_some, Option.toList_none, List.cons_append, List.nil_append, Option.isSome_some, if_true, eq_self, or_true, true_or, xb_01, mcl_cl, not_true_eq_false, not_false_eq_true, if_false]
/-- slots that hold rows, or things -/
def sSlots (S : MS) (b : Bool) : Nat := mCnt (fun s => !decide (S.2.2.1 7 s = -11) && decide (mRow S s = b)) 0 10
theorem l243 (b : Bool) : ∀ d c z, c + d = 10 → X g 243 4 [.val (va_rf (some mu)), .val (.int (xb b)), .val (.int (nI z)), .val (.int (nI c))] [] (mH n kc ks mu S) = some (some (.int (nI (z + mCnt (fun s => !decide (S.2.2.1 7 s = -11) && decide (mRow S s = b)) c d))), mH n kc ks mu S) := by
  intro d
  induction d with
  | zero =>
    intro c z hc
    have e : c = 10 := by omega
    subst e
    have h1 : (10 : Int32) ≤ nI 10 := by decide
    simp only [x243_4, x243_5, x243_7, x243_10, x243_11, x243_12, x243_15, x243_16, x243_17, x243_19, x243_22, x243_23, x243_24, x243_27, x243_28, x243_31, x243_32, x243_35, x243_36, x243_37, x243_44, x243_45, h1, mCnt, Nat.add_zero, Option.bind_some, Option.toList_some, Option.toList_none, List.cons_append, List.nil_append, Option.isSome_some, if_true, eq_self, or_true, true_or, xb_01, mcl_cl, not_true_eq_false, not_false_eq_true, if_false]
  | succ d ih =>
    intro c z hc
    have h1 : ¬ (10 : Int32) ≤ nI c := nI_ge (b := 10) (by omega) (by decide)
    have h2 : c < 10 := by omega
    rw [mCnt]
    by_cases e : S.2.2.1 7 c = -11
    · have h3 := ih (c + 1) z (by omega)
      simp only [x243_4, x243_5, x243_7, x243_10, x243_11, x243_12, x243_15, x243_16, x243_17, x243_19, x243_22, x243_23, x243_24, x243_27, x243_28, x243_31, x243_32, x243_35, x243_36, x243_37, h1, mf_7, ml_7, xin_nI h2 (by decide), nI_clamp (lt31 h2 (by decide)), e, Int32.add_zero, Option.bind_some, Option.toList_some, Option.toList_none, List.cons_append, List.nil_append, Option.isSome_some, if_true, eq_self, or_true, true_or, xb_01, mcl_cl, not_true_eq_false, not_false_eq_true, if_false]
      simp only [x243_38, x243_41, nI_1]
      rw [h3]
      simp [e]
    · by_cases e2 : mRow S c = b
      · have h3 := ih (c + 1) (z + 1) (by omega)
        simp only [x243_4, x243_5, x243_7, x243_10, x243_11, x243_12, x243_15, x243_16, x243_17, x243_19, x243_22, x243_23, x243_24, x243_27, x243_28, x243_31, x243_32, x243_35, x243_36, x243_37, h1, mf_7, ml_7, xin_nI h2 (by decide), nI_clamp (lt31 h2 (by decide)), e, c165 h2, e2, nI_1, Option.bind_some, Option.toList_some, Option.toList_none, List.cons_append, List.nil_append, Option.isSome_some, if_true, eq_self, or_true, true_or, xb_01, mcl_cl, not_true_eq_false, not_false_eq_true, if_false]
        simp only [x243_38, x243_41, nI_1]
        rw [h3]
        simp [e, e2, Nat.add_assoc]
      · have e3 : ¬ xb (mRow S c) = xb b := by
          intro y
          apply e2
          cases h5 : mRow S c <;> cases b <;> simp_all [xb]
        have h3 := ih (c + 1) z (by omega)
        simp only [x243_4, x243_5, x243_7, x243_10, x243_11, x243_12, x243_15, x243_16, x243_17, x243_19, x243_22, x243_23, x243_24, x243_27, x243_28, x243_31, x243_32, x243_35, x243_36, x243_37, h1, mf_7, ml_7, xin_nI h2 (by decide), nI_clamp (lt31 h2 (by decide)), e, c165 h2, e3, Int32.add_zero, Option.bind_some, Option.toList_some, Option.toList_none, List.cons_append, List.nil_append, Option.isSome_some, if_true, eq_self, or_true, true_or, xb_01, mcl_cl, not_true_eq_false, not_false_eq_true, if_false]
        simp only [x243_38, x243_41, nI_1]
        rw [h3]
        simp [e, e2]
theorem c243 (b : Bool) : X g 243 0 [.val (va_rf (some mu)), .val (.int (xb b)), .unset, .unset] [] (mH n kc ks mu S) = some (some (.int (nI (sSlots S b))), mH n kc ks mu S) := by
  have h1 := l243 (g := g) (n := n) (kc := kc) (ks := ks) (mu := mu) (S := S) b 10 0 0 (by omega)
  rw [Nat.zero_add] at h1
  have h1' : X g 243 4 [.val (va_rf (some mu)), .val (.int (xb b)), .val (.int 0), .val (.int 0)] [] (mH n kc ks mu S) = _ := h1
  simp only [x243_0, x243_1, x243_2, x243_3, h1', Option.bind_some, Option.toList_some, Option.toList_none, List.cons_append, List.nil_append, Option.isSome_some, if_true, eq_self, or_true, true_or, xb_01, mcl_cl, not_true_eq_false, not_false_eq_true, if_false]
  rfl
/-- cells of all rows, or those that are touched -/
def sCm (S : MS) (b : Bool) (r : Nat) : Int32 := if mHolders S (nI r) = 0 then 0 else if b = true then nI (mCnt (pBit (S.2.2.1 4 r)) 0 32) else S.2.2.1 3 r
def mAdd (f : Nat → Int32) : Nat → Nat → Int32 → Int32
  | _, 0, z => z
  | c, d + 1, z => mAdd f (c + 1) d (z + f c)
theorem l244 (b : Bool) : ∀ d c z, c + d = 10 → X g 244 4 [.val (va_rf (some mu)), .val (.int (xb b)), .val (.int z), .val (.int (nI c))] [] (mH n kc ks mu S) = some (some (.int (mAdd (sCm S b) c d z)), mH n kc ks mu S) := by
  intro d
  induction d with
  | zero =>
    intro c z hc
    have e : c = 10 := by omega
    subst e
    have h1 : (10 : Int32) ≤ nI 10 := by decide
    simp only [x244_4, x244_5, x244_7, x244_10, x244_11, x244_12, x244_13, x244_16, x244_19, x244_20, x244_23, x244_24, x244_27, x244_28, x244_31, x244_32, x244_33, x244_36, x244_39, x244_40, x244_43, x244_44, x244_45, x244_46, x244_53, x244_54, h1, mAdd, Option.bind_some, Option.toList_some, Option.toList_none, List.cons_append, List.nil_append, Option.isSome_some, if_true, eq_self, or_true, true_or, xb_01, mcl_cl, not_true_eq_false, not_false_eq_true, if_false]
  | succ d ih =>
    intro c z hc
    have h1 : ¬ (10 : Int32) ≤ nI c := nI_ge (b := 10) (by omega) (by decide)
    have h2 : c < 10 := by omega
    have hm := mHo_le (S := S) (x := nI c)
    rw [mAdd]
    have h3 := ih (c + 1) (z + sCm S b c) (by omega)
    unfold sCm at h3 ⊢
    by_cases e : mHolders S (nI c) = 0
    · have e1 : nI (mHolders S (nI c)) = 0 := by rw [e]; rfl
      rw [if_pos e] at h3 ⊢
      simp only [x244_4, x244_5, x244_7, x244_10, x244_11, x244_12, x244_13, x244_16, x244_19, x244_20, x244_23, x244_24, x244_27, x244_28, x244_31, x244_32, x244_33, x244_36, x244_39, x244_40, x244_43, x244_44, x244_45, x244_46, h1, c166, e1, Option.bind_some, Option.toList_some, Option.toList_none, List.cons_append, List.nil_append, Option.isSome_some, if_true, eq_self, or_true, true_or, xb_01, mcl_cl, not_true_eq_false, not_false_eq_true, if_false]
      simp only [x244_47, x244_50, nI_1]
      exact h3
    · have e1 : ¬ nI (mHolders S (nI c)) = 0 := by
        generalize mHolders S (nI c) = hh at hm e
        exact nI_ne0 (Nat.pos_of_ne_zero e) (by omega)
      rw [if_neg e] at h3 ⊢
      cases b with
      | true =>
        rw [if_pos rfl] at h3 ⊢
        simp only [x244_4, x244_5, x244_7, x244_10, x244_11, x244_12, x244_13, x244_16, x244_19, x244_20, x244_23, x244_24, x244_27, x244_28, x244_31, x244_32, x244_33, x244_36, x244_39, x244_40, x244_43, x244_44, x244_45, x244_46, h1, c166, e1, xb_t, i32_10, mf_4, ml_4, xin_nI h2 (by decide), nI_clamp (lt31 h2 (by decide)), d171, Option.bind_some, Option.toList_some, Option.toList_none, List.cons_append, List.nil_append, Option.isSome_some, if_true, eq_self, or_true, true_or, xb_01, mcl_cl, not_true_eq_false, not_false_eq_true, if_false]
        simp only [x244_47, x244_50, nI_1]
        exact h3
      | false =>
        rw [if_neg (by simp)] at h3 ⊢
        simp only [x244_4, x244_5, x244_7, x244_10, x244_11, x244_12, x244_13, x244_16, x244_19, x244_20, x244_23, x244_24, x244_27, x244_28, x244_31, x244_32, x244_33, x244_36, x244_39, x244_40, x244_43, x244_44, x244_45, x244_46, h1, c166, e1, xb_f, mf_3, ml_3, xin_nI h2 (by decide), nI_clamp (lt31 h2 (by decide)), Option.bind_some, Option.toList_some, Option.toList_none, List.cons_append, List.nil_append, Option.isSome_some, if_true, eq_self, or_true, true_or, xb_01, mcl_cl, not_true_eq_false, not_false_eq_true, if_false]
        simp only [x244_47, x244_50, nI_1]
        exact h3
theorem c244 (b : Bool) : X g 244 0 [.val (va_rf (some mu)), .val (.int (xb b)), .unset, .unset] [] (mH n kc ks mu S) = some (some (.int (mAdd (sCm S b) 0 10 0)), mH n kc ks mu S) := by
  have h1 := l244 (g := g) (n := n) (kc := kc) (ks := ks) (mu := mu) (S := S) b 10 0 0 (by omega)
  have h1' : X g 244 4 [.val (va_rf (some mu)), .val (.int (xb b)), .val (.int 0), .val (.int 0)] [] (mH n kc ks mu S) = _ := h1
  simp only [x244_0, x244_1, x244_2, x244_3, h1', Option.bind_some, Option.toList_some, Option.toList_none, List.cons_append, List.nil_append, Option.isSome_some, if_true, eq_self, or_true, true_or, xb_01, mcl_cl, not_true_eq_false, not_false_eq_true, if_false]
def fCount (S : MS) (i : Int32) : Int32 := if i = 0 then nI (sSlots S true) else if i = 1 then nI (sSlots S false) else if i = 2 then nI (sRows S) else if i = 3 then mAdd (sCm S false) 0 10 0 else if i = 4 then S.1 24 else if i = 5 then S.1 23 - S.1 24 else if i = 6 then S.1 34 else if i = 7 then S.1 30 else if i = 8 then mAdd (sCm S true) 0 10 0 else if i = 11 then S.2.2.1 9 0 else if i = 12 then S.2.2.1 9 1 else if i = 13 then S.2.2.1 9 2 else -1
theorem e245 : X g 245 0 [.val (va_rf (some mu)), .val (.int i)] [] (mH n kc ks mu S) = some (some (.int (fCount S i)), mH n kc ks mu S) := by
  have t1 := c243 (g := g) (n := n) (kc := kc) (ks := ks) (mu := mu) (S := S) true
  have t2 := c243 (g := g) (n := n) (kc := kc) (ks := ks) (mu := mu) (S := S) false
  have t3 := c244 (g := g) (n := n) (kc := kc) (ks := ks) (mu := mu) (S := S) true
  have t4 := c244 (g := g) (n := n) (kc := kc) (ks := ks) (mu := mu) (S := S) false
  rw [xb_t] at t1 t3
  rw [xb_f] at t2 t4
  have z0 : xin 0 3 = true := by decide
  have z1 : xin 1 3 = true := by decide
  have z2 : xin 2 3 = true := by decide
  have y0 : Int32.toNatClampNeg 0 = 0 := by decide
  have y1 : Int32.toNatClampNeg 1 = 1 := by decide
  have y2 : Int32.toNatClampNeg 2 = 2 := by decide
  have w0 : (11 : Int32) - 11 = 0 := by decide
  have w1 : (12 : Int32) - 11 = 1 := by decide
  have w2 : (13 : Int32) - 11 = 2 := by decide
  unfold fCount
  by_cases e0 : i = 0
  · subst e0
    rw [if_pos rfl]
    simp only [x245_0, x245_1_v0, x245_1_v1, x245_1_v2, x245_1_v3, x245_1_v4, x245_1_v5, x245_1_v6, x245_1_v7, x245_1_v8, x245_1_v9, x245_1_v10, x245_1_v11, x245_1_v12, x245_1_v13, x245_1_d, x245_72, x245_73, x245_74, x245_77, x245_78, x245_79, x245_80, x245_83, x245_84, x245_85, x245_88, x245_89, x245_90, x245_91, x245_94, x245_95, x245_96, x245_99, x245_100, x245_101, x245_104, x245_105, x245_108, x245_109, x245_110, x245_111, x245_114, x245_115, x245_116, x245_119, x245_120, x245_121, x245_122, x245_125, x245_126, x245_127, x245_130, x245_131, x245_133, x245_134, x245_135, x245_136, x245_137, c240, t1, t2, t3, t4, mf_24, mf_23, mf_34, mf_30, mf_9, ml_9, z0, z1, z2, y0, y1, y2, w0, w1, w2, Option.bind_some, Option.toList_some, Option.toList_none, List.cons_append, List.nil_append, Option.isSome_some, if_true, eq_self, or_true, true_or, xb_01, mcl_cl, not_true_eq_false, not_false_eq_true, if_false]
  by_cases e1 : i = 1
  · subst e1
    rw [if_neg (by decide), if_pos rfl]
    simp only [x245_0, x245_1_v0, x245_1_v1, x245_1_v2, x245_1_v3, x245_1_v4, x245_1_v5, x245_1_v6, x245_1_v7, x245_1_v8, x245_1_v9, x245_1_v10, x245_1_v11, x245_1_v12, x245_1_v13, x245_1_d, x245_72, x245_73, x245_74, x245_77, x245_78, x245_79, x245_80, x245_83, x245_84, x245_85, x245_88, x245_89, x245_90, x245_91, x245_94, x245_95, x245_96, x245_99, x245_100, x245_101, x245_104, x245_105, x245_108, x245_109, x245_110, x245_111, x245_114, x245_115, x245_116, x245_119, x245_120, x245_121, x245_122, x245_125, x245_126, x245_127, x245_130, x245_131, x245_133, x245_134, x245_135, x245_136, x245_137, c240, t1, t2, t3, t4, mf_24, mf_23, mf_34, mf_30, mf_9, ml_9, z0, z1, z2, y0, y1, y2, w0, w1, w2, Option.bind_some, Option.toList_some, Option.toList_none, List.cons_append, List.nil_append, Option.isSome_some, if_true, eq_self, or_true, true_or, xb_01, mcl_cl, not_true_eq_false, not_false_eq_true, if_false]
  by_cases e2 : i = 2
  · subst e2
    rw [if_neg (by decide), if_neg (by decide), if_pos rfl]
    simp only [x245_0, x245_1_v0, x245_1_v1, x245_1_v2, x245_1_v3, x245_1_v4, x245_1_v5, x245_1_v6, x245_1_v7, x245_1_v8, x245_1_v9, x245_1_v10, x245_1_v11, x245_1_v12, x245_1_v13, x245_1_d, x245_72, x245_73, x245_74, x245_77, x245_78, x245_79, x245_80, x245_83, x245_84, x245_85, x245_88, x245_89, x245_90, x245_91, x245_94, x245_95, x245_96, x245_99, x245_100, x245_101, x245_104, x245_105, x245_108, x245_109, x245_110, x245_111, x245_114, x245_115, x245_116, x245_119, x245_120, x245_121, x245_122, x245_125, x245_126, x245_127, x245_130, x245_131, x245_133, x245_134, x245_135, x245_136, x245_137, c240, t1, t2, t3, t4, mf_24, mf_23, mf_34, mf_30, mf_9, ml_9, z0, z1, z2, y0, y1, y2, w0, w1, w2, Option.bind_some, Option.toList_some, Option.toList_none, List.cons_append, List.nil_append, Option.isSome_some, if_true, eq_self, or_true, true_or, xb_01, mcl_cl, not_true_eq_false, not_false_eq_true, if_false]
  by_cases e3 : i = 3
  · subst e3
    rw [if_neg (by decide), if_neg (by decide), if_neg (by decide), if_pos rfl]
    simp only [x245_0, x245_1_v0, x245_1_v1, x245_1_v2, x245_1_v3, x245_1_v4, x245_1_v5, x245_1_v6, x245_1_v7, x245_1_v8, x245_1_v9, x245_1_v10, x245_1_v11, x245_1_v12, x245_1_v13, x245_1_d, x245_72, x245_73, x245_74, x245_77, x245_78, x245_79, x245_80, x245_83, x245_84, x245_85, x245_88, x245_89, x245_90, x245_91, x245_94, x245_95, x245_96, x245_99, x245_100, x245_101, x245_104, x245_105, x245_108, x245_109, x245_110, x245_111, x245_114, x245_115, x245_116, x245_119, x245_120, x245_121, x245_122, x245_125, x245_126, x245_127, x245_130, x245_131, x245_133, x245_134, x245_135, x245_136, x245_137, c240, t1, t2, t3, t4, mf_24, mf_23, mf_34, mf_30, mf_9, ml_9, z0, z1, z2, y0, y1, y2, w0, w1, w2, Option.bind_some, Option.toList_some, Option.toList_none, List.cons_append, List.nil_append, Option.isSome_some, if_true, eq_self, or_true, true_or, xb_01, mcl_cl, not_true_eq_false, not_false_eq_true, if_false]
  by_cases e4 : i = 4
  · subst e4
    rw [if_neg (by decide), if_neg (by decide), if_neg (by decide), if_neg (by decide), if_pos rfl]
    simp only [x245_0, x245_1_v0, x245_1_v1, x245_1_v2, x245_1_v3, x245_1_v4, x245_1_v5, x245_1_v6, x245_1_v7, x245_1_v8, x245_1_v9, x245_1_v10, x245_1_v11, x245_1_v12, x245_1_v13, x245_1_d, x245_72, x245_73, x245_74, x245_77, x245_78, x245_79, x245_80, x245_83, x245_84, x245_85, x245_88, x245_89, x245_90, x245_91, x245_94, x245_95, x245_96, x245_99, x245_100, x245_101, x245_104, x245_105, x245_108, x245_109, x245_110, x245_111, x245_114, x245_115, x245_116, x245_119, x245_120, x245_121, x245_122, x245_125, x245_126, x245_127, x245_130, x245_131, x245_133, x245_134, x245_135, x245_136, x245_137, c240, t1, t2, t3, t4, mf_24, mf_23, mf_34, mf_30, mf_9, ml_9, z0, z1, z2, y0, y1, y2, w0, w1, w2, Option.bind_some, Option.toList_some, Option.toList_none, List.cons_append, List.nil_append, Option.isSome_some, if_true, eq_self, or_true, true_or, xb_01, mcl_cl, not_true_eq_false, not_false_eq_true, if_false]
  by_cases e5 : i = 5
  · subst e5
    rw [if_neg (by decide), if_neg (by decide), if_neg (by decide), if_neg (by decide), if_neg (by decide), if_pos rfl]
    simp only [x245_0, x245_1_v0, x245_1_v1, x245_1_v2, x245_1_v3, x245_1_v4, x245_1_v5, x245_1_v6, x245_1_v7, x245_1_v8, x245_1_v9, x245_1_v10, x245_1_v11, x245_1_v12, x245_1_v13, x245_1_d, x245_72, x245_73, x245_74, x245_77, x245_78, x245_79, x245_80, x245_83, x245_84, x245_85, x245_88, x245_89, x245_90, x245_91, x245_94, x245_95, x245_96, x245_99, x245_100, x245_101, x245_104, x245_105, x245_108, x245_109, x245_110, x245_111, x245_114, x245_115, x245_116, x245_119, x245_120, x245_121, x245_122, x245_125, x245_126, x245_127, x245_130, x245_131, x245_133, x245_134, x245_135, x245_136, x245_137, c240, t1, t2, t3, t4, mf_24, mf_23, mf_34, mf_30, mf_9, ml_9, z0, z1, z2, y0, y1, y2, w0, w1, w2, Option.bind_some, Option.toList_some, Option.toList_none, List.cons_append, List.nil_append, Option.isSome_some, if_true, eq_self, or_true, true_or, xb_01, mcl_cl, not_true_eq_false, not_false_eq_true, if_false]
  by_cases e6 : i = 6
  · subst e6
    rw [if_neg (by decide), if_neg (by decide), if_neg (by decide), if_neg (by decide), if_neg (by decide), if_neg (by decide), if_pos rfl]
    simp only [x245_0, x245_1_v0, x245_1_v1, x245_1_v2, x245_1_v3, x245_1_v4, x245_1_v5, x245_1_v6, x245_1_v7, x245_1_v8, x245_1_v9, x245_1_v10, x245_1_v11, x245_1_v12, x245_1_v13, x245_1_d, x245_72, x245_73, x245_74, x245_77, x245_78, x245_79, x245_80, x245_83, x245_84, x245_85, x245_88, x245_89, x245_90, x245_91, x245_94, x245_95, x245_96, x245_99, x245_100, x245_101, x245_104, x245_105, x245_108, x245_109, x245_110, x245_111, x245_114, x245_115, x245_116, x245_119, x245_120, x245_121, x245_122, x245_125, x245_126, x245_127, x245_130, x245_131, x245_133, x245_134, x245_135, x245_136, x245_137, c240, t1, t2, t3, t4, mf_24, mf_23, mf_34, mf_30, mf_9, ml_9, z0, z1, z2, y0, y1, y2, w0, w1, w2, Option.bind_some, Option.toList_some, Option.toList_none, List.cons_append, List.nil_append, Option.isSome_some, if_true, eq_self, or_true, true_or, xb_01, mcl_cl, not_true_eq_false, not_false_eq_true, if_false]
  by_cases e7 : i = 7
  · subst e7
    rw [if_neg (by decide), if_neg (by decide), if_neg (by decide), if_neg (by decide), if_neg (by decide), if_neg (by decide), if_neg (by decide), if_pos rfl]
    simp only [x245_0, x245_1_v0, x245_1_v1, x245_1_v2, x245_1_v3, x245_1_v4, x245_1_v5, x245_1_v6, x245_1_v7, x245_1_v8, x245_1_v9, x245_1_v10, x245_1_v11, x245_1_v12, x245_1_v13, x245_1_d, x245_72, x245_73, x245_74, x245_77, x245_78, x245_79, x245_80, x245_83, x245_84, x245_85, x245_88, x245_89, x245_90, x245_91, x245_94, x245_95, x245_96, x245_99, x245_100, x245_101, x245_104, x245_105, x245_108, x245_109, x245_110, x245_111, x245_114, x245_115, x245_116, x245_119, x245_120, x245_121, x245_122, x245_125, x245_126, x245_127, x245_130, x245_131, x245_133, x245_134, x245_135, x245_136, x245_137, c240, t1, t2, t3, t4, mf_24, mf_23, mf_34, mf_30, mf_9, ml_9, z0, z1, z2, y0, y1, y2, w0, w1, w2, Option.bind_some, Option.toList_some, Option.toList_none, List.cons_append, List.nil_append, Option.isSome_some, if_true, eq_self, or_true, true_or, xb_01, mcl_cl, not_true_eq_false, not_false_eq_true, if_false]
  by_cases e8 : i = 8
  · subst e8
    rw [if_neg (by decide), if_neg (by decide), if_neg (by decide), if_neg (by decide), if_neg (by decide), if_neg (by decide), if_neg (by decide), if_neg (by decide), if_pos rfl]
    simp only [x245_0, x245_1_v0, x245_1_v1, x245_1_v2, x245_1_v3, x245_1_v4, x245_1_v5, x245_1_v6, x245_1_v7, x245_1_v8, x245_1_v9, x245_1_v10, x245_1_v11, x245_1_v12, x245_1_v13, x245_1_d, x245_72, x245_73, x245_74, x245_77, x245_78, x245_79, x245_80, x245_83, x245_84, x245_85, x245_88, x245_89, x245_90, x245_91, x245_94, x245_95, x245_96, x245_99, x245_100, x245_101, x245_104, x245_105, x245_108, x245_109, x245_110, x245_111, x245_114, x245_115, x245_116, x245_119, x245_120, x245_121, x245_122, x245_125, x245_126, x245_127, x245_130, x245_131, x245_133, x245_134, x245_135, x245_136, x245_137, c240, t1, t2, t3, t4, mf_24, mf_23, mf_34, mf_30, mf_9, ml_9, z0, z1, z2, y0, y1, y2, w0, w1, w2, Option.bind_some, Option.toList_some, Option.toList_none, List.cons_append, List.nil_append, Option.isSome_some, if_true, eq_self, or_true, true_or, xb_01, mcl_cl, not_true_eq_false, not_false_eq_true, if_false]
  by_cases e11 : i = 11
  · subst e11
    rw [if_neg (by decide), if_neg (by decide), if_neg (by decide), if_neg (by decide), if_neg (by decide), if_neg (by decide), if_neg (by decide), if_neg (by decide), if_neg (by decide), if_pos rfl]
    simp only [x245_0, x245_1_v0, x245_1_v1, x245_1_v2, x245_1_v3, x245_1_v4, x245_1_v5, x245_1_v6, x245_1_v7, x245_1_v8, x245_1_v9, x245_1_v10, x245_1_v11, x245_1_v12, x245_1_v13, x245_1_d, x245_72, x245_73, x245_74, x245_77, x245_78, x245_79, x245_80, x245_83, x245_84, x245_85, x245_88, x245_89, x245_90, x245_91, x245_94, x245_95, x245_96, x245_99, x245_100, x245_101, x245_104, x245_105, x245_108, x245_109, x245_110, x245_111, x245_114, x245_115, x245_116, x245_119, x245_120, x245_121, x245_122, x245_125, x245_126, x245_127, x245_130, x245_131, x245_133, x245_134, x245_135, x245_136, x245_137, c240, t1, t2, t3, t4, mf_24, mf_23, mf_34, mf_30, mf_9, ml_9, z0, z1, z2, y0, y1, y2, w0, w1, w2, Option.bind_some, Option.toList_some, Option.toList_none, List.cons_append, List.nil_append, Option.isSome_some, if_true, eq_self, or_true, true_or, xb_01, mcl_cl, not_true_eq_false, not_false_eq_true, if_false]
  by_cases e12 : i = 12
  · subst e12
    rw [if_neg (by decide), if_neg (by decide), if_neg (by decide), if_neg (by decide), if_neg (by decide), if_neg (by decide), if_neg (by decide), if_neg (by decide), if_neg (by decide), if_neg (by decide), if_pos rfl]
    simp only [x245_0, x245_1_v0, x245_1_v1, x245_1_v2, x245_1_v3, x245_1_v4, x245_1_v5, x245_1_v6, x245_1_v7, x245_1_v8, x245_1_v9, x245_1_v10, x245_1_v11, x245_1_v12, x245_1_v13, x245_1_d, x245_72, x245_73, x245_74, x245_77, x245_78, x245_79, x245_80, x245_83, x245_84, x245_85, x245_88, x245_89, x245_90, x245_91, x245_94, x245_95, x245_96, x245_99, x245_100, x245_101, x245_104, x245_105, x245_108, x245_109, x245_110, x245_111, x245_114, x245_115, x245_116, x245_119, x245_120, x245_121, x245_122, x245_125, x245_126, x245_127, x245_130, x245_131, x245_133, x245_134, x245_135, x245_136, x245_137, c240, t1, t2, t3, t4, mf_24, mf_23, mf_34, mf_30, mf_9, ml_9, z0, z1, z2, y0, y1, y2, w0, w1, w2, Option.bind_some, Option.toList_some, Option.toList_none, List.cons_append, List.nil_append, Option.isSome_some, if_true, eq_self, or_true, true_or, xb_01, mcl_cl, not_true_eq_false, not_false_eq_true, if_false]
  by_cases e13 : i = 13
  · subst e13
    rw [if_neg (by decide), if_neg (by decide), if_neg (by decide), if_neg (by decide), if_neg (by decide), if_neg (by decide), if_neg (by decide), if_neg (by decide), if_neg (by decide), if_neg (by decide), if_neg (by decide), if_pos rfl]
    simp only [x245_0, x245_1_v0, x245_1_v1, x245_1_v2, x245_1_v3, x245_1_v4, x245_1_v5, x245_1_v6, x245_1_v7, x245_1_v8, x245_1_v9, x245_1_v10, x245_1_v11, x245_1_v12, x245_1_v13, x245_1_d, x245_72, x245_73, x245_74, x245_77, x245_78, x245_79, x245_80, x245_83, x245_84, x245_85, x245_88, x245_89, x245_90, x245_91, x245_94, x245_95, x245_96, x245_99, x245_100, x245_101, x245_104, x245_105, x245_108, x245_109, x245_110, x245_111, x245_114, x245_115, x245_116, x245_119, x245_120, x245_121, x245_122, x245_125, x245_126, x245_127, x245_130, x245_131, x245_133, x245_134, x245_135, x245_136, x245_137, c240, t1, t2, t3, t4, mf_24, mf_23, mf_34, mf_30, mf_9, ml_9, z0, z1, z2, y0, y1, y2, w0, w1, w2, Option.bind_some, Option.toList_some, Option.toList_none, List.cons_append, List.nil_append, Option.isSome_some, if_true, eq_self, or_true, true_or, xb_01, mcl_cl, not_true_eq_false, not_false_eq_true, if_false]
  rw [if_neg e0, if_neg e1, if_neg e2, if_neg e3, if_neg e4, if_neg e5, if_neg e6, if_neg e7, if_neg e8, if_neg e11, if_neg e12, if_neg e13]
  by_cases e9 : i = 9
  · subst e9
    simp only [x245_0, x245_1_v0, x245_1_v1, x245_1_v2, x245_1_v3, x245_1_v4, x245_1_v5, x245_1_v6, x245_1_v7, x245_1_v8, x245_1_v9, x245_1_v10, x245_1_v11, x245_1_v12, x245_1_v13, x245_1_d, x245_72, x245_73, x245_74, x245_77, x245_78, x245_79, x245_80, x245_83, x245_84, x245_85, x245_88, x245_89, x245_90, x245_91, x245_94, x245_95, x245_96, x245_99, x245_100, x245_101, x245_104, x245_105, x245_108, x245_109, x245_110, x245_111, x245_114, x245_115, x245_116, x245_119, x245_120, x245_121, x245_122, x245_125, x245_126, x245_127, x245_130, x245_131, x245_133, x245_134, x245_135, x245_136, x245_137, Option.bind_some, Option.toList_some, Option.toList_none, List.cons_append, List.nil_append, Option.isSome_some, if_true, eq_self, or_true, true_or, xb_01, mcl_cl, not_true_eq_false, not_false_eq_true, if_false]
  by_cases e10 : i = 10
  · subst e10
    simp only [x245_0, x245_1_v0, x245_1_v1, x245_1_v2, x245_1_v3, x245_1_v4, x245_1_v5, x245_1_v6, x245_1_v7, x245_1_v8, x245_1_v9, x245_1_v10, x245_1_v11, x245_1_v12, x245_1_v13, x245_1_d, x245_72, x245_73, x245_74, x245_77, x245_78, x245_79, x245_80, x245_83, x245_84, x245_85, x245_88, x245_89, x245_90, x245_91, x245_94, x245_95, x245_96, x245_99, x245_100, x245_101, x245_104, x245_105, x245_108, x245_109, x245_110, x245_111, x245_114, x245_115, x245_116, x245_119, x245_120, x245_121, x245_122, x245_125, x245_126, x245_127, x245_130, x245_131, x245_133, x245_134, x245_135, x245_136, x245_137, Option.bind_some, Option.toList_some, Option.toList_none, List.cons_append, List.nil_append, Option.isSome_some, if_true, eq_self, or_true, true_or, xb_01, mcl_cl, not_true_eq_false, not_false_eq_true, if_false]
  have hx : i.toInt < 0 ∨ 13 < i.toInt := by
    have hn : ∀ c : Int32, ¬ i = c → i.toInt ≠ c.toInt := fun c hc y => hc (Int32.toInt_inj.mp y)
    have n0 := hn _ e0
    have n1 := hn _ e1
    have n2 := hn _ e2
    have n3 := hn _ e3
    have n4 := hn _ e4
    have n5 := hn _ e5
    have n6 := hn _ e6
    have n7 := hn _ e7
    have n8 := hn _ e8
    have n9 := hn _ e9
    have n10 := hn _ e10
    have n11 := hn _ e11
    have n12 := hn _ e12
    have n13 := hn _ e13
    rw [show (0 : Int32).toInt = 0 from rfl] at n0
    rw [show (1 : Int32).toInt = 1 from rfl] at n1
    rw [show (2 : Int32).toInt = 2 from rfl] at n2
    rw [show (3 : Int32).toInt = 3 from rfl] at n3
    rw [show (4 : Int32).toInt = 4 from rfl] at n4
    rw [show (5 : Int32).toInt = 5 from rfl] at n5
    rw [show (6 : Int32).toInt = 6 from rfl] at n6
    rw [show (7 : Int32).toInt = 7 from rfl] at n7
    rw [show (8 : Int32).toInt = 8 from rfl] at n8
    rw [show (9 : Int32).toInt = 9 from rfl] at n9
    rw [show (10 : Int32).toInt = 10 from rfl] at n10
    rw [show (11 : Int32).toInt = 11 from rfl] at n11
    rw [show (12 : Int32).toInt = 12 from rfl] at n12
    rw [show (13 : Int32).toInt = 13 from rfl] at n13
    omega
  simp only [x245_0, x245_1_d hx, x245_136, x245_137, Option.bind_some, Option.toList_some, Option.toList_none, List.cons_append, List.nil_append, Option.isSome_some, if_true, eq_self, or_true, true_or, xb_01, mcl_cl, not_true_eq_false, not_false_eq_true, if_false]
end M23
