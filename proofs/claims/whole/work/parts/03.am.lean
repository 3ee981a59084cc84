/-! ===== the flat memory: every value an Int; refs are address + 1, 0 is null ===== -/
abbrev AV : Type := Int ⊕ Int ⊕ Int ⊕ Unit
abbrev vi (z : Int) : AV := .inl z
abbrev vl (z : Int) : AV := .inr (.inl z)
abbrev vr (z : Int) : AV := .inr (.inr (.inl z))
abbrev vu : AV := .inr (.inr (.inr ()))
def rv (r : Int) : Value := if r ≤ 0 then .null else .ref (r - 1).toNat
def tv : AV → Value
  | .inl z => .int (Int32.ofInt z)
  | .inr (.inl z) => .long (Int64.ofInt z)
  | .inr (.inr (.inl r)) => rv r
  | .inr (.inr (.inr _)) => .null
abbrev inI (z : Int) : Prop := -2147483648 ≤ z ∧ z ≤ 2147483647
abbrev inL (z : Int) : Prop := -9223372036854775808 ≤ z ∧ z ≤ 9223372036854775807
def vok : AV → Prop
  | .inl z => inI z
  | .inr (.inl z) => inL z
  | .inr (.inr (.inl r)) => 0 ≤ r
  | .inr (.inr (.inr _)) => True
def wr (z : Int) : Int := (z + 2147483648) % 4294967296 - 2147483648
def wl (z : Int) : Int := (z + 9223372036854775808) % 18446744073709551616 - 9223372036854775808
def wb (z : Int) : Int := (z + 128) % 256 - 128
def wc (z : Int) : Int := z % 65536
theorem wr_in (z : Int) : inI (wr z) := by unfold inI wr; omega
theorem wl_in (z : Int) : inL (wl z) := by unfold inL wl; omega
theorem wr_id {z : Int} (h : inI z) : wr z = z := by unfold inI at h; unfold wr; omega
theorem wl_id {z : Int} (h : inL z) : wl z = z := by unfold inL at h; unfold wl; omega
theorem wb_id {z : Int} (h1 : -128 ≤ z) (h2 : z ≤ 127) : wb z = z := by unfold wb; omega
theorem i32_toInt {z : Int} (h : inI z) : (Int32.ofInt z).toInt = z := by
  rw [Int32.toInt_ofInt]; unfold inI at h; unfold Int.bmod; simp only [Int32.size]; omega
theorem i64_toInt {z : Int} (h : inL z) : (Int64.ofInt z).toInt = z := by
  rw [Int64.toInt_ofInt]; unfold inL at h; unfold Int.bmod; simp only [Int64.size]; omega
theorem i32_wr (z : Int) : Int32.ofInt (wr z) = Int32.ofInt z := by
  apply Int32.toInt_inj.mp
  rw [i32_toInt (wr_in z), Int32.toInt_ofInt]; unfold wr Int.bmod; simp only [Int32.size]; omega
theorem i64_wl (z : Int) : Int64.ofInt (wl z) = Int64.ofInt z := by
  apply Int64.toInt_inj.mp
  rw [i64_toInt (wl_in z), Int64.toInt_ofInt]; unfold wl Int.bmod; simp only [Int64.size]; omega
theorem i32_in (x : Int32) : inI x.toInt := ⟨Int32.le_toInt x, by have := Int32.toInt_lt x; omega⟩
theorem i64_in (x : Int64) : inL x.toInt := ⟨Int64.le_toInt x, by have := Int64.toInt_lt x; omega⟩
theorem i32_of (x : Int32) : Int32.ofInt x.toInt = x := Int32.toInt_inj.mp (i32_toInt (i32_in x))
theorem i64_of (x : Int64) : Int64.ofInt x.toInt = x := Int64.toInt_inj.mp (i64_toInt (i64_in x))
theorem i32_add (a b : Int) : Int32.ofInt a + Int32.ofInt b = Int32.ofInt (wr (a + b)) := by rw [i32_wr, Int32.ofInt_add]
theorem i32_sub (a b : Int) : Int32.ofInt a - Int32.ofInt b = Int32.ofInt (wr (a - b)) := by rw [i32_wr, Int32.ofInt_sub]
theorem i32_mul (a b : Int) : Int32.ofInt a * Int32.ofInt b = Int32.ofInt (wr (a * b)) := by rw [i32_wr, Int32.ofInt_mul]
theorem i32_neg (a : Int) : -Int32.ofInt a = Int32.ofInt (wr (-a)) := by rw [i32_wr, Int32.ofInt_neg]
theorem i64_add (a b : Int) : Int64.ofInt a + Int64.ofInt b = Int64.ofInt (wl (a + b)) := by rw [i64_wl, Int64.ofInt_add]
theorem i64_mul (a b : Int) : Int64.ofInt a * Int64.ofInt b = Int64.ofInt (wl (a * b)) := by rw [i64_wl, Int64.ofInt_mul]
theorem i32_div {a b : Int} (ha : inI a) (hb : inI b) : Int32.ofInt a / Int32.ofInt b = Int32.ofInt (wr (a.tdiv b)) := by
  apply Int32.toInt_inj.mp
  rw [Int32.toInt_div, i32_toInt ha, i32_toInt hb, i32_toInt (wr_in _)]
  have h2 : ((2 ^ 32 : Nat) : Int) = 4294967296 := rfl
  unfold wr Int.bmod; simp only [h2]; omega
theorem i32_rem {a b : Int} (ha : inI a) (hb : inI b) : Int32.ofInt a - Int32.ofInt a / Int32.ofInt b * Int32.ofInt b = Int32.ofInt (wr (a.tmod b)) := by
  rw [i32_div ha hb, i32_wr, ← Int32.ofInt_mul, ← Int32.ofInt_sub, i32_wr]
  congr 1
  have := Int.mul_tdiv_add_tmod a b
  rw [Int.mul_comm] at this
  omega
theorem i32_lt {a b : Int} (ha : inI a) (hb : inI b) : Int32.ofInt a < Int32.ofInt b ↔ a < b := by rw [Int32.lt_iff_toInt_lt, i32_toInt ha, i32_toInt hb]
theorem i32_le {a b : Int} (ha : inI a) (hb : inI b) : Int32.ofInt a ≤ Int32.ofInt b ↔ a ≤ b := by rw [Int32.le_iff_toInt_le, i32_toInt ha, i32_toInt hb]
theorem i32_eq {a b : Int} (ha : inI a) (hb : inI b) : Int32.ofInt a = Int32.ofInt b ↔ a = b := by rw [← Int32.toInt_inj, i32_toInt ha, i32_toInt hb]
theorem i64_lt {a b : Int} (ha : inL a) (hb : inL b) : Int64.ofInt a < Int64.ofInt b ↔ a < b := by rw [Int64.lt_iff_toInt_lt, i64_toInt ha, i64_toInt hb]
theorem i64_eq {a b : Int} (ha : inL a) (hb : inL b) : Int64.ofInt a = Int64.ofInt b ↔ a = b := by rw [← Int64.toInt_inj, i64_toInt ha, i64_toInt hb]
theorem i32_zero : Int32.ofInt 0 = 0 := rfl
theorem inI0 : inI 0 := by decide
def bAnd (a b : Int) : Int := (Int32.ofInt a &&& Int32.ofInt b).toInt
def bOr (a b : Int) : Int := (Int32.ofInt a ||| Int32.ofInt b).toInt
def bXor (a b : Int) : Int := (Int32.ofInt a ^^^ Int32.ofInt b).toInt
def bShl (a b : Int) : Int := (Int32.ofInt a <<< (Int32.ofInt b &&& 31)).toInt
def bShr (a b : Int) : Int := (Int32.ofInt a >>> (Int32.ofInt b &&& 31)).toInt
def bUshr (a b : Int) : Int := ((Int32.ofInt a).toUInt32 >>> ((Int32.ofInt b).toUInt32 &&& Int32.toUInt32 31)).toInt32.toInt
def lAnd (a b : Int) : Int := (Int64.ofInt a &&& Int64.ofInt b).toInt
def lOr (a b : Int) : Int := (Int64.ofInt a ||| Int64.ofInt b).toInt
def lShl (a b : Int) : Int := (Int64.ofInt a <<< ((Int32.ofInt b).toInt64 &&& 63)).toInt
def lShr (a b : Int) : Int := (Int64.ofInt a >>> ((Int32.ofInt b).toInt64 &&& 63)).toInt
def lUshr (a b : Int) : Int := ((Int64.ofInt a).toUInt64 >>> ((Int32.ofInt b).toInt64.toUInt64 &&& Int64.toUInt64 63)).toInt64.toInt
def lCmp (a b : Int) : Int := if b < a then 1 else if a = b then 0 else -1
/-! heaps -/
abbrev Sh : Type := (Int → Int) × (Int → Int) × Int
abbrev Mem : Type := Int → Int → Int
def up (V : Mem) (r j x : Int) : Mem := fun a b => if a = r ∧ b = j then x else V a b
def clr (V : Mem) (r : Int) : Mem := fun a b => if a = r then 0 else V a b
def nw (S : Sh) (t n : Int) : Sh := (fun a => if a = S.2.2 + 1 then t else S.1 a, fun a => if a = S.2.2 + 1 then n else S.2.1 a, S.2.2 + 1)
abbrev am_cl : List vw_C := [(RX0, TX0, 10), (RX1, TX1, 3), (RX2, TX2, 4), (RX3, TX3, 17), (RX4, TX4, 5), (RX5, TX5, 12), (RX6, TX6, 4), (RX7, TX7, 5), (RX8, TX8, 5), (RX9, TX9, 5), (RX10, TX10, 11), (RX11, TX11, 16), (RX12, TX12, 84)]
def tyOf : Nat → Nat → FieldType
  | 0 => tyX0 | 1 => tyX1 | 2 => tyX2 | 3 => tyX3 | 4 => tyX4 | 5 => tyX5 | 6 => tyX6 | 7 => tyX7 | 8 => tyX8 | 9 => tyX9 | 10 => tyX10 | 11 => tyX11 | _ => tyX12
def aty (t : Int) : FieldType := if t = 20 then .int else if t = 21 then .byte else if t = 22 then .long else if t = 30 then .object RX0 else if t = 32 then .object RX2 else if t = 33 then .object RX3 else if t = 34 then .object RX4 else if t = 36 then .object RX6 else if t = 37 then .object RX7 else .object RX8
abbrev am_ats : List Int := [20, 21, 22, 30, 32, 33, 34, 36, 37, 38]
def cvt (ty : FieldType) (z : Int) : Value := match ty with
  | .long => .long (Int64.ofInt z)
  | .object _ => rv z
  | .array _ => rv z
  | _ => .int (Int32.ofInt z)
def rok (ty : FieldType) (z : Int) : Prop := match ty with
  | .long => inL z
  | .object _ => 0 ≤ z
  | .array _ => 0 ≤ z
  | .boolean => z = 0 ∨ z = 1
  | .byte => -128 ≤ z ∧ z ≤ 127
  | .char => 0 ≤ z ∧ z ≤ 65535
  | _ => inI z
/-- what is fixed for a run: where its own cells begin; classes and slots; classes of arrays; the texts' cells and their bytes' cells; the script -/
abbrev GT : Type := Nat × va_G × (Int → ClassId) × (Nat → Nat) × (Nat → Nat) × Nat × Nat × (Nat → Int32)
abbrev gA (G : GT) : Nat → Prop := fun q => G.1 ≤ q
def RP (G : GT) (S : Sh) (V : Mem) (H : Heap) : Prop :=
  (H.size : Int) = S.2.2 ∧ (∀ r, S.1 r ≠ 0 → (G.1 : Int) < r ∧ r ≤ S.2.2) ∧
  (∀ (r : Int) (ci : Nat) (q : vw_C), am_cl[ci]? = some q → S.1 r = ci + 1 → t_OB (r - 1).toNat (G.2.1.1 ci) q.2.2 (G.2.1.2 ci) H (fun k => cvt (tyOf ci k) (V r k)) ∧ ∀ k : Nat, k < q.2.2 → rok (tyOf ci k) (V r k)) ∧
  (∀ (r : Int) (t : Int), t ∈ am_ats → S.1 r = t → 0 ≤ S.2.1 r ∧ S.2.1 r ≤ 2147483647 ∧ H[(r - 1).toNat]? = some (arrV (G.2.2.1 t) (S.2.1 r).toNat (fun j => cvt (aty t) (V r j))) ∧ ∀ j : Int, rok (aty t) (V r j))
def js_own : Nat → String
  | 0 => "SignalBook$Tokens"
  | 1 => "SignalBook$Tokens"
  | 2 => "SignalBook$Tokens"
  | 3 => "SignalBookModel"
  | 4 => "SignalBookModel"
  | 5 => "SignalBookModel"
  | 6 => "SignalBookModel"
  | 7 => "SignalBookModel"
  | 8 => "SignalBookModel"
  | 9 => "SignalBookModel"
  | 10 => "SignalBookModel"
  | 11 => "SignalBookModel"
  | 12 => "SignalBookModel"
  | 13 => "SignalBookModel"
  | 14 => "SignalBookModel"
  | _ => "SignalBookModel"
def js_idx : Nat → Nat
  | 0 => 29
  | 1 => 55
  | 2 => 68
  | 3 => 218
  | 4 => 233
  | 5 => 239
  | 6 => 241
  | 7 => 243
  | 8 => 244
  | 9 => 245
  | 10 => 247
  | 11 => 249
  | 12 => 251
  | 13 => 253
  | 14 => 255
  | _ => 257
def js_txt : Nat → String
  | 0 => "enum act table check holder switch case else value ord size above "
  | 1 => "{}()[],;:=+-*./"
  | 2 => "abcdefghijklmnopqrstuvwxyzABCDEFGHIJKLMNOPQRSTUVWXYZ0123456789"
  | 3 => "{}(),;:=+-*./[]"
  | 4 => "enum"
  | 5 => "act"
  | 6 => "table"
  | 7 => "check"
  | 8 => "holder"
  | 9 => "switch"
  | 10 => "case"
  | 11 => "else"
  | 12 => "value"
  | 13 => "ord"
  | 14 => "size"
  | _ => "above"
def js_len : List Nat := [66, 15, 62, 15, 4, 3, 5, 5, 6, 6, 4, 4, 5, 3, 4, 5]
def js_byt : List (List Int32) := [[101, 110, 117, 109, 32, 97, 99, 116, 32, 116, 97, 98, 108, 101, 32, 99, 104, 101, 99, 107, 32, 104, 111, 108, 100, 101, 114, 32, 115, 119, 105, 116, 99, 104, 32, 99, 97, 115, 101, 32, 101, 108, 115, 101, 32, 118, 97, 108, 117, 101, 32, 111, 114, 100, 32, 115, 105, 122, 101, 32, 97, 98, 111, 118, 101, 32], [123, 125, 40, 41, 91, 93, 44, 59, 58, 61, 43, 45, 42, 46, 47], [97, 98, 99, 100, 101, 102, 103, 104, 105, 106, 107, 108, 109, 110, 111, 112, 113, 114, 115, 116, 117, 118, 119, 120, 121, 122, 65, 66, 67, 68, 69, 70, 71, 72, 73, 74, 75, 76, 77, 78, 79, 80, 81, 82, 83, 84, 85, 86, 87, 88, 89, 90, 48, 49, 50, 51, 52, 53, 54, 55, 56, 57], [123, 125, 40, 41, 44, 59, 58, 61, 43, 45, 42, 46, 47, 91, 93], [101, 110, 117, 109], [97, 99, 116], [116, 97, 98, 108, 101], [99, 104, 101, 99, 107], [104, 111, 108, 100, 101, 114], [115, 119, 105, 116, 99, 104], [99, 97, 115, 101], [101, 108, 115, 101], [118, 97, 108, 117, 101], [111, 114, 100], [115, 105, 122, 101], [97, 98, 111, 118, 101]]

abbrev am_aos : List String := [RX0, RX2, RX3, RX4, RX6, RX7, RX8]
/-- what is known of the tables and of the cells that nobody writes -/
def Kg (G : GT) (U : State) : Prop :=
  va_K G.2.1 am_cl [] U ∧ (∀ t ∈ am_ats, ArrOfT U (G.2.2.1 t) (aty t) ∧ va_RA U (G.2.2.1 t) (aty t)) ∧
  (∀ i, i < 16 → vk_R (js_own i) (js_idx i) (js_txt i) (G.2.2.2.1 i) U) ∧ vk_S 16 js_len js_byt G.2.2.2.1 G.2.2.2.2.1 (gA G) U U.heap ∧
  va_Z "java/lang/String" "COMPACT_STRINGS" "Z" (.int 1) (gA G) U U.heap ∧
  (va_Nw (.methodLinkNest RX11 31 yX10_init RX11) U ∧ va_Nw (.methodLinkNest RX11 57 yX4_init RX11) U ∧ va_Nw (.methodLinkNest RX5 40 yX0_init RX11) U) ∧ (∀ C ∈ am_aos, va_AO C U) ∧
  va_X G.2.2.2.2.2.1 G.2.2.2.2.2.2.1 G.2.2.2.2.2.2.2 U U.heap ∧ G.2.2.2.2.2.1 < G.1 ∧ G.1 ≤ U.heap.size ∧ G.2.2.2.2.2.2.1 ≤ 2560 ∧ va_Zq "jdk/internal/util/Preconditions" "SIOOBE_FORMATTER" "Ljava/util/function/BiFunction;" (gA G) U U.heap
abbrev BT : Type := MethodName × ByteArray × Nat × Option FieldType
def am_ws : List Cond := lw_tbl.filter goodWord
theorem am_in {w : Cond} (h : w ∈ lw_tbl) (hg : goodWord w = true) : w ∈ am_ws := List.mem_filter.mpr ⟨h, hg⟩
theorem am_good {ws : List Cond} (h : ∀ w ∈ ws, w ∈ am_ws) : GoodIn am_ws ws := fun w hw => ⟨h w hw, good_of_word (List.mem_filter.mp (h w hw)).2⟩
def retI (r : Option FieldType) : Instr := match r with
  | none => .return_
  | some .long => .lreturn
  | some (.object _) => .areturn
  | some (.array _) => .areturn
  | _ => .ireturn
def retS (r : Option FieldType) (z : Int) : List Value := match r with
  | none => []
  | some ty => [cvt ty z]
def retO (r : Option FieldType) (z : Int) : Option Value := match r with
  | none => none
  | some ty => some (cvt ty z)
def retK (r : Option FieldType) (z : Int) : Prop := match r with
  | none => True
  | some ty => rok ty z
def am_has (la : Array Slot) (n : Nat) (ls : List AV) : Prop := la.size = n ∧ lv_wf la ∧ ls.length = n ∧ ∀ (i : Nat) (v : AV), ls[i]? = some v → v ≠ vu → la[i]? = some (.val (tv v))
section DEFS
variable (l : Launch) (G : GT) (B : BT) (Q : Int → Sh → Mem → Prop) (d : Nat)
/-- the end of a method: what comes behind its return -/
def RT (p : Program) (e : Env) (R : Room) (s : State) (m : MethodId) (args : Array Value) (below : List Frame) (meth : Method) (c : Code) (Z : State → Prop) (K N : Nat) : Prop :=
  ∀ (z : Int) (S : Sh) (V : Mem) (H : Heap) (locs : List Loc) (cells slots : Nat) (la : Array Slot) (pc : Nat), Q z S V → RP G S V H → va_S (gA G) s.heap H locs → retK B.2.2.2 z → cells ≤ K → slots ≤ N → decode B.2.1 pc = .ok (retI B.2.2.2, 1) → W p l e R s m args below meth c H locs cells slots Z (F0 m pc la (retS B.2.2.2 z))
def CX (p : Program) (e : Env) (R : Room) (s : State) (m : MethodId) (args : Array Value) (below : List Frame) (meth : Method) (c : Code) (Z : State → Prop) (K N : Nat) : Prop :=
  (p.tables.exec = Jvm.exec ∧ c.code = B.2.1 ∧ c.maxLocals = B.2.2.1 ∧ s.vm.findClass B.1.cls = some m.cls ∧ (∀ w ∈ am_ws, w.before args s = true) ∧ meth.name = B.1.name) ∧ Kg G s ∧ (d ≤ R.frames ∧ 40 * d ≤ R.locals ∧ K ≤ R.cells ∧ N ≤ R.slots) ∧ RT l G B Q p e R s m args below meth c Z K N
def HX (n : Nat) (H0 H : Heap) (locs : List Loc) (cells slots : Nat) (la : Array Slot) (ls st : List AV) (S : Sh) (V : Mem) (mc ms K N : Nat) : Prop :=
  (RP G S V H ∧ va_S (gA G) H0 H locs ∧ cells + mc ≤ K ∧ slots + ms ≤ N) ∧ (am_has la n ls ∧ ∀ v ∈ ls, vok v) ∧ ∀ v ∈ st, vok v
/-- the machine, inside method B at pc, comes to its return with Q -/
def XJ (pc : Nat) (ls st : List AV) (S : Sh) (V : Mem) (mc ms : Nat) : Prop :=
  ∀ (p : Program) (e : Env) (R : Room) (s : State) (m : MethodId) (args : Array Value) (below : List Frame) (meth : Method) (c : Code) (Z : State → Prop) (K N : Nat), CX l G B Q d p e R s m args below meth c Z K N →
    ∀ (H : Heap) (locs : List Loc) (cells slots : Nat) (la : Array Slot), HX G B.2.2.1 s.heap H locs cells slots la ls st S V mc ms K N → W p l e R s m args below meth c H locs cells slots Z (F0 m pc la (st.map tv))
def Pct (as : List AV) (S : Sh) (V : Mem) : Array Value → State → Prop := fun a U => a = (as.map tv).toArray ∧ Kg G U ∧ RP G S V U.heap ∧ ∀ v ∈ as, vok v
def Qct : Array Value → State → Outcome → State → Prop := fun _ st o t => ∃ (z : Int) (S : Sh) (V : Mem), o = .returned (retO B.2.2.2 z) ∧ Q z S V ∧ RP G S V t.heap ∧ retK B.2.2.2 z ∧ va_F (gA G) st t
/-- a method's contract at given arguments and memory -/
def Ct (mc ms : Nat) (as : List AV) (S : Sh) (V : Mem) : Prop :=
  Met l B.1 (Cond.code B.1 B.2.1 B.2.2.1 B.2.2.2 :: am_ws) { frames := d, cells := mc, slots := ms, locals := 40 * d } (Pct G as S V) (Qct G B Q) mc ms (gA G)
/-- a call, and what comes behind it -/
def CT (mc ms : Nat) (as : List AV) (S : Sh) (V : Mem) (K : Int → Sh → Mem → Nat → Nat → Prop) : Prop :=
  ∃ (d1 mc1 ms1 : Nat) (Q1 : Int → Sh → Mem → Prop), d1 + 1 ≤ d ∧ mc1 ≤ mc ∧ ms1 ≤ ms ∧ Ct l G B Q1 d1 mc1 ms1 as S V ∧ ∀ z S' V', Q1 z S' V' → K z S' V' (mc - mc1) (ms - ms1)
end DEFS
