/-! the tables against the words, by their places -/
def xws : List Cond := lw_tbl.filter goodWord
/-- a word by its table and its place there -/
def xlook (p : Nat) : Option Cond := (match p / 1000 with
  | 0 => k2_sels lw_privs
  | 1 => tables_1_1
  | 2 => tables_1_2
  | 3 => tables_1_3
  | 4 => tables_1_4
  | 5 => tables_1_5
  | 6 => tables_1_6
  | 7 => tables_1_7
  | _ => [])[p % 1000]?
theorem xlook_in {p : Nat} {w : Cond} (h : xlook p = some w) : w ∈ lw_tbl := by
  have h1 := List.mem_of_getElem? h
  unfold lw_tbl tables_1
  split at h1 <;> simp only [List.mem_append] <;> simp_all
theorem xw_mem {i : Nat} {w : Cond} (h : xlook i = some w) (hg : goodWord w = true) : w ∈ xws := List.mem_filter.mpr ⟨xlook_in h, hg⟩
theorem xws_in {w : Cond} (h : w ∈ xws) : w ∈ lw_tbl := (List.mem_filter.mp h).1
theorem xws_good {w : Cond} (h : w ∈ xws) : goodWord w = true := (List.mem_filter.mp h).2
def xtok (tc : Nat) (ty : FieldType) : Bool := match tc, ty with
  | 0, .int => true
  | 1, .long => true
  | 3, .boolean => true
  | 5, .object _ => true
  | 5, .array _ => true
  | _, _ => false
def xchkF (c : Nat) (q : Nat × Nat × Nat × Nat × Nat × Nat) : Bool := match vwCl[q.2.1]? with
  | some r => Nat.blt q.2.2.1 r.2.2 && decide (xlook (q.2.2.2.2.2) = some (Cond.fieldLink (xcn c) q.1 (r.2.1 q.2.2.1).1 (r.2.1 q.2.2.1).2.1 (r.2.1 q.2.2.1).2.2.1)) && ((r.2.1 q.2.2.1).2.2.2 == (q.2.2.2.2.1 == 1)) && (match parseFieldDescriptor (r.2.1 q.2.2.1).2.2.1 with
    | some ty => xtok q.2.2.2.1 ty
    | none => false) && ((r.2.1 q.2.2.1).1 == r.1)
  | none => false
set_option maxRecDepth 100000 in
theorem xchkF_all : ∀ c, c < 18 → (xFl c).all (xchkF c) = true := by decide +kernel
def xchkY (y : Nat) : Bool :=
  decide (xlook ((xmpos y).1) = some (Cond.code (xme y).1 (xme y).2.1 (xme y).2.2.1 (xme y).2.2.2.1)) && decide (xlook ((xmpos y).2.1) = some (Cond.initialized (xme y).1.cls)) && (plainName (xme y).1.cls || decide ((xme y).1 = yJxf58ca_isNaN_12338) || decide ((xme y).1 = yJxf58ca_floatToIntBits_5c35a)) && !((xme y).1.cls == "java/lang/invoke/MethodHandle") && !((xme y).1.cls == "java/lang/invoke/VarHandle") && ((xme y).1.cls == xcn (xme y).2.2.2.2.1) &&
  (if (xme y).2.2.2.2.2.2.2 = 99 then decide (xlook ((xmpos y).2.2.1) = some (Cond.static (xme y).1)) else decide (xlook ((xmpos y).2.2.1) = some (Cond.instanceMethod (xme y).1)) && (match vwCl[(xme y).2.2.2.2.2.2.2]? with
    | some r => r.1 == (xme y).1.cls
    | none => false) && ((xme y).1.name == "<init>" || decide (xlook ((xmpos y).2.2.2) = some (Cond.selects (xme y).1.cls (xme y).1 (xme y).1))))
def xnl : List Cond := [.methodLinkNest RX11 13 yX2_init RX11, .methodLinkNest RX11 37 yX3_init RX11, .methodLinkNest RX11 44 yX9_init RX11, .methodLinkNest RX11 51 yX6_init RX11, .methodLinkNest RX1 30 yX10_init RX11, .methodLinkNest RX9 31 yX5_init RX11]
def xchkM (c : Nat) (q : Nat × Nat × Nat × Nat × Nat) : Bool :=
  if Nat.ble q.2.1 3 then Nat.ble q.2.2.1 251 && (parseMethodDescriptor (xme q.2.2.1).1.desc).map (fun d => d.parameters.length) == some q.2.2.2.1 &&
    (if q.2.1 = 3 then xnl.contains (Cond.methodLinkNest (xcn c) q.1 (xme q.2.2.1).1 RX11) else decide (xlook (q.2.2.2.2) = some (Cond.methodLink (xcn c) q.1 (xme q.2.2.1).1))) &&
    (if q.2.1 = 1 then (xme q.2.2.1).2.2.2.2.2.2.2 == 99 else Nat.ble (xme q.2.2.1).2.2.2.2.2.2.2 50) && (if q.2.1 = 0 then !((xme q.2.2.1).1.name == "<init>") else true) && (if Nat.ble 2 q.2.1 then (xme q.2.2.1).1.name == "<init>" && decide ((xme q.2.2.1).2.2.2.1 = none) else true)
  else if q.2.1 = 4 then decide (xlook (q.2.2.2.2) = some (Cond.methodLink (xcn c) q.1 Lib.objectInit))
  else if q.2.1 = 5 then decide (xlook (q.2.2.2.2) = some (Cond.methodLink (xcn c) q.1 ⟨"java/lang/Double", "longBitsToDouble", "(J)D"⟩))
  else if q.2.1 = 6 then decide (xlook (q.2.2.2.2) = some (Cond.methodLink (xcn c) q.1 ⟨"java/lang/Double", "doubleToRawLongBits", "(D)J"⟩))
  else if q.2.1 = 7 then decide (xlook (q.2.2.2.2) = some (Cond.methodLink (xcn c) q.1 ⟨"java/lang/Float", "intBitsToFloat", "(I)F"⟩))
  else if q.2.1 = 8 then decide (xlook (q.2.2.2.2) = some (Cond.methodLink (xcn c) q.1 ⟨"java/lang/Float", "floatToRawIntBits", "(F)I"⟩))
  else if q.2.1 = 9 then decide (xlook (q.2.2.2.2) = some (Cond.methodLink (xcn c) q.1 ⟨"java/lang/String", "length", "()I"⟩))
  else if q.2.1 = 11 then decide (xlook (q.2.2.2.2) = some (Cond.methodLink (xcn c) q.1 Lib.Math.max.name))
  else if q.2.1 = 12 then decide (xlook (q.2.2.2.2) = some (Cond.methodLink (xcn c) q.1 Lib.Math.min.name))
  else decide (q.2.1 = 10) && decide (xlook (q.2.2.2.2) = some (Cond.methodLink (xcn c) q.1 ⟨"java/lang/String", "charAt", "(I)C"⟩))
def xchkC (c : Nat) (q : Nat × Nat × Nat) : Bool := match vwCl[q.2.1]? with
  | some r => decide (xlook (q.2.2) = some (Cond.classLink (xcn c) q.1 r.1))
  | none => false
set_option maxRecDepth 100000 in
theorem xchkC_all : ∀ c, c < 18 → (xCl c).all (xchkC c) = true := by decide +kernel
set_option maxRecDepth 100000 in
theorem xchkK_all : ∀ c, c < 18 → (xKl c).all (fun q => decide (xlook (q.2.2) = some (Cond.constant (xcn c) q.1 q.2.1))) = true := by decide +kernel
set_option maxRecDepth 100000 in
theorem xchkK2_all : ∀ c, c < 18 → (xK2l c).all (fun q => decide (xlook (q.2.2) = some (Cond.constantLong (xcn c) q.1 q.2.1))) = true := by decide +kernel
set_option maxRecDepth 100000 in
theorem xchkKd_all : ∀ c, c < 18 → (xKdl c).all (fun q => decide (xlook (q.2.2) = some (Cond.constantDouble (xcn c) q.1 q.2.1))) = true := by decide +kernel
set_option maxRecDepth 100000 in
theorem xchkL_all : ∀ ci, ci < 12 → (match vwCl[ci]? with
    | some r => (List.range r.2.2).all (fun k => decide (xlook ((xlp ci).1.getD k 0) = some (u_lay r.1 r.2.1 k))) && decide (xlook ((xlp ci).2.1) = some (Cond.instantiable r.1 r.2.2)) && decide (xlook ((xlp ci).2.2) = some (Cond.initialized r.1)) && decide ((xdef ci).length = r.2.2)
    | none => false) = true := by decide +kernel
theorem xci_all : ∀ c, c < 18 → xci c < 12 → (vwCl[xci c]?).map (·.1) = some (xcn c) := by decide +kernel
set_option maxRecDepth 100000 in
theorem xy_0 : ∀ k, k < 7 → xchkY (0 + k) = true := by decide +kernel
set_option maxRecDepth 100000 in
theorem xy_7 : ∀ k, k < 8 → xchkY (7 + k) = true := by decide +kernel
set_option maxRecDepth 100000 in
theorem xy_15 : ∀ k, k < 8 → xchkY (15 + k) = true := by decide +kernel
set_option maxRecDepth 100000 in
theorem xy_23 : ∀ k, k < 3 → xchkY (23 + k) = true := by decide +kernel
set_option maxRecDepth 100000 in
theorem xy_26 : ∀ k, k < 2 → xchkY (26 + k) = true := by decide +kernel
set_option maxRecDepth 100000 in
theorem xy_28 : ∀ k, k < 8 → xchkY (28 + k) = true := by decide +kernel
set_option maxRecDepth 100000 in
theorem xy_36 : ∀ k, k < 3 → xchkY (36 + k) = true := by decide +kernel
set_option maxRecDepth 100000 in
theorem xy_39 : ∀ k, k < 8 → xchkY (39 + k) = true := by decide +kernel
set_option maxRecDepth 100000 in
theorem xy_47 : ∀ k, k < 7 → xchkY (47 + k) = true := by decide +kernel
set_option maxRecDepth 100000 in
theorem xy_54 : ∀ k, k < 1 → xchkY (54 + k) = true := by decide +kernel
set_option maxRecDepth 100000 in
theorem xy_55 : ∀ k, k < 6 → xchkY (55 + k) = true := by decide +kernel
set_option maxRecDepth 100000 in
theorem xy_61 : ∀ k, k < 3 → xchkY (61 + k) = true := by decide +kernel
set_option maxRecDepth 100000 in
theorem xy_64 : ∀ k, k < 8 → xchkY (64 + k) = true := by decide +kernel
set_option maxRecDepth 100000 in
theorem xy_72 : ∀ k, k < 3 → xchkY (72 + k) = true := by decide +kernel
set_option maxRecDepth 100000 in
theorem xy_75 : ∀ k, k < 8 → xchkY (75 + k) = true := by decide +kernel
set_option maxRecDepth 100000 in
theorem xy_83 : ∀ k, k < 4 → xchkY (83 + k) = true := by decide +kernel
set_option maxRecDepth 100000 in
theorem xy_87 : ∀ k, k < 4 → xchkY (87 + k) = true := by decide +kernel
