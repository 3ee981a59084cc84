theorem i32_wb (a : Int) : (Int32.ofInt a).toInt8.toInt32 = Int32.ofInt (wb a) := by
  apply Int32.toInt_inj.mp
  rw [Int8.toInt_toInt32, Int32.toInt_toInt8, Int32.toInt_ofInt, i32_toInt (by unfold inI wb; omega)]
  unfold wb Int.bmod; simp only [Int32.size]; omega
theorem i32_wc (a : Int) : ((Int32.ofInt a).toUInt32 % 65536).toInt32 = Int32.ofInt (wc a) := by
  rw [lg_i2c_nf]
  apply Int32.toInt_inj.mp
  rw [lg_i2c_toInt, Int32.toInt_ofInt, i32_toInt (by unfold inI wc; omega)]
  unfold wc Int.bmod; simp only [Int32.size]; omega
theorem lg_cmp_i {a b : Int} (ha : inL a) (hb : inL b) : lg_cmp (Int64.ofInt a) (Int64.ofInt b) = Int32.ofInt (lCmp a b) := by
  unfold lg_cmp lCmp
  have h1 : (Int64.ofInt a > Int64.ofInt b) ↔ b < a := i64_lt hb ha
  have h2 : (Int64.ofInt a = Int64.ofInt b) ↔ a = b := i64_eq ha hb
  simp only [h1, h2]
  split
  · rfl
  · split <;> rfl
/-! ===== the machine's rows over the flat memory ===== -/
def asc : Nat → List AV → List (Nat × Value)
  | _, [] => []
  | k, v :: t => if v = vu then asc (k + 1) t else (k, tv v) :: asc (k + 1) t
theorem asc_mem : ∀ {ls : List AV} {k i : Nat} {v : AV}, ls[i]? = some v → v ≠ vu → (k + i, tv v) ∈ asc k ls
  | [], _, _, _, h, _ => by simp at h
  | w :: t, k, 0, v, h, hv => by
    have e : w = v := by simpa using h
    subst e
    unfold asc
    rw [if_neg hv]
    exact List.mem_cons_self
  | w :: t, k, i + 1, v, h, hv => by
    have h' : t[i]? = some v := by simpa using h
    have ih := asc_mem (k := k + 1) h' hv
    have e : k + 1 + i = k + (i + 1) := by omega
    rw [e] at ih
    unfold asc
    split
    · exact ih
    · exact List.mem_cons_of_mem _ ih
theorem asc_of : ∀ {ls : List AV} {k : Nat} {q : Nat × Value}, q ∈ asc k ls → ∃ (i : Nat) (v : AV), q.1 = k + i ∧ ls[i]? = some v ∧ v ≠ vu ∧ q.2 = tv v
  | [], _, _, h => by simp [asc] at h
  | w :: t, k, q, h => by
    unfold asc at h
    split at h
    · obtain ⟨i, v, h1, h2, h3, h4⟩ := asc_of h
      exact ⟨i + 1, v, by omega, by simpa using h2, h3, h4⟩
    · rename_i hw
      rcases List.mem_cons.mp h with e | h
      · subst e
        exact ⟨0, w, by simp, by simp, hw, rfl⟩
      · obtain ⟨i, v, h1, h2, h3, h4⟩ := asc_of h
        exact ⟨i + 1, v, by omega, by simpa using h2, h3, h4⟩
theorem am_lv {la : Array Slot} {n : Nat} {ls : List AV} (h : am_has la n ls) : lv_has la n (asc 0 ls) := ⟨h.1, h.2.1, fun q hq => by
  obtain ⟨i, v, h1, h2, h3, h4⟩ := asc_of hq
  rw [h1, h4, Nat.zero_add]
  exact h.2.2.2 i v h2 h3⟩
def nol (ls : List AV) : Nat → Bool
  | 0 => true
  | j + 1 => match ls[j]? with
    | some (.inr (.inl _)) => false
    | _ => true
theorem rv_cat (r : Int) : (rv r).category = 1 := by unfold rv; split <;> rfl
theorem tv_long {v : AV} (h : (tv v).category = 2) : ∃ z, v = vl z := by
  match v, h with
  | .inl _, h => exact absurd h (by simp [tv, Value.category])
  | .inr (.inl z), _ => exact ⟨z, rfl⟩
  | .inr (.inr (.inl r)), h => exact absurd h (by show ¬ (rv r).category = 2; rw [rv_cat]; decide)
  | .inr (.inr (.inr _)), h => exact absurd h (by simp [tv, Value.category])
theorem am_set1 {la la' : Array Slot} {n i : Nat} {ls : List AV} {v : AV} (h : am_has la n ls) (hn : nol ls i = true) (h' : lv_has la' n ((i, tv v) :: (asc 0 ls).filter (fun q => !(q.1 == i) && !(q.1 + 1 == i && q.2.category == 2)))) : am_has la' n (ls.set i v) := by
  refine ⟨h'.1, h'.2.1, by rw [List.length_set]; exact h.2.2.1, fun j w hj hw => ?_⟩
  rw [List.getElem?_set] at hj
  by_cases e : i = j
  · subst e
    rw [if_pos rfl] at hj
    split at hj
    · cases hj
      exact h'.2.2 _ List.mem_cons_self
    · cases hj
  · rw [if_neg e] at hj
    have hm := asc_mem (k := 0) hj hw
    rw [Nat.zero_add] at hm
    refine h'.2.2 (j, tv w) (List.mem_cons_of_mem _ (List.mem_filter.mpr ⟨hm, ?_⟩))
    have e1 : (j == i) = false := by simp; omega
    have e2 : (j + 1 == i && (tv w).category == 2) = false := by
      by_cases e3 : j + 1 = i
      · subst e3
        by_cases e4 : (tv w).category = 2
        · obtain ⟨z, rfl⟩ := tv_long e4
          simp [nol, hj] at hn
        · simp [e4]
      · simp [e3]
    simp [e1, e2]
theorem am_set2 {la la' : Array Slot} {n i : Nat} {ls : List AV} {z : Int} (h : am_has la n ls) (hn : nol ls i = true) (h' : lv_has la' n ((i, tv (vl z)) :: (asc 0 ls).filter (fun q => !(q.1 == i) && (!(q.1 == i + 1) && !(q.1 + 1 == i && q.2.category == 2))))) : am_has la' n ((ls.set i (vl z)).set (i + 1) vu) := by
  refine ⟨h'.1, h'.2.1, by rw [List.length_set, List.length_set]; exact h.2.2.1, fun j w hj hw => ?_⟩
  rw [List.getElem?_set] at hj
  by_cases e0 : i + 1 = j
  · rw [if_pos e0] at hj
    split at hj
    · cases hj
      exact absurd rfl hw
    · cases hj
  rw [if_neg e0, List.getElem?_set] at hj
  by_cases e : i = j
  · subst e
    rw [if_pos rfl] at hj
    split at hj
    · cases hj
      exact h'.2.2 _ List.mem_cons_self
    · cases hj
  · rw [if_neg e] at hj
    have hm := asc_mem (k := 0) hj hw
    rw [Nat.zero_add] at hm
    refine h'.2.2 (j, tv w) (List.mem_cons_of_mem _ (List.mem_filter.mpr ⟨hm, ?_⟩))
    have e1 : (j == i) = false := by simp; omega
    have e5 : (j == i + 1) = false := by simp; omega
    have e2 : (j + 1 == i && (tv w).category == 2) = false := by
      by_cases e3 : j + 1 = i
      · subst e3
        by_cases e4 : (tv w).category = 2
        · obtain ⟨z, rfl⟩ := tv_long e4
          simp [nol, hj] at hn
        · simp [e4]
      · simp [e3]
    simp [e1, e2, e5]
theorem vok_c {v : AV} {st : List AV} (h1 : vok v) (h : ∀ w ∈ st, vok w) : ∀ w ∈ v :: st, vok w := List.forall_mem_cons.mpr ⟨h1, h⟩
theorem vok_t {v : AV} {st : List AV} (h : ∀ w ∈ v :: st, vok w) : ∀ w ∈ st, vok w := (List.forall_mem_cons.mp h).2
theorem vok_h {v : AV} {st : List AV} (h : ∀ w ∈ v :: st, vok w) : vok v := (List.forall_mem_cons.mp h).1
theorem vok_s {v : AV} {st : List AV} {i : Nat} (h1 : vok v) (h : ∀ w ∈ st, vok w) : ∀ w ∈ st.set i v, vok w := fun w hw => by
  rcases List.mem_or_eq_of_mem_set hw with h2 | h2
  · exact h w h2
  · rw [h2]; exact h1
section ROWS
variable {l : Launch} {G : GT} {B : BT} {Q : Int → Sh → Mem → Prop} {d pc : Nat} {ls st : List AV} {S : Sh} {V : Mem} {mc ms : Nat}
theorem X_pure {st' : List AV} {pc' : Nat} (hW : ∀ (p : Program) (e : Env) (R : Room) (s : State) (m : MethodId) (args : Array Value) (below : List Frame) (meth : Method) (c : Code) (Z : State → Prop) (H : Heap) (locs : List Loc) (cells slots : Nat) (la : Array Slot), p.tables.exec = Jvm.exec → c.code = B.2.1 → (∀ v ∈ st, vok v) → am_has la B.2.2.1 ls → W p l e R s m args below meth c H locs cells slots Z (F0 m pc' la (st'.map tv)) → W p l e R s m args below meth c H locs cells slots Z (F0 m pc la (st.map tv)))
    (hv : (∀ v ∈ st, vok v) → (∀ v ∈ ls, vok v) → ∀ v ∈ st', vok v) (k : XJ l G B Q d pc' ls st' S V mc ms) : XJ l G B Q d pc ls st S V mc ms := by
  intro p e R s m args below meth c Z K N C H locs cells slots la X
  exact hW p e R s m args below meth c Z H locs cells slots la C.1.1 C.1.2.1 X.2.2 X.2.1.1 (k p e R s m args below meth c Z K N C H locs cells slots la ⟨X.1, X.2.1, hv X.2.2 X.2.1.2⟩)
theorem X_br {st' : List AV} {pc1 pc2 : Nat} {P : Prop} (hW : ∀ (p : Program) (e : Env) (R : Room) (s : State) (m : MethodId) (args : Array Value) (below : List Frame) (meth : Method) (c : Code) (Z : State → Prop) (H : Heap) (locs : List Loc) (cells slots : Nat) (la : Array Slot), p.tables.exec = Jvm.exec → c.code = B.2.1 → (∀ v ∈ st, vok v) → (P → W p l e R s m args below meth c H locs cells slots Z (F0 m pc1 la (st'.map tv))) → (¬ P → W p l e R s m args below meth c H locs cells slots Z (F0 m pc2 la (st'.map tv))) → W p l e R s m args below meth c H locs cells slots Z (F0 m pc la (st.map tv)))
    (hv : (∀ v ∈ st, vok v) → ∀ v ∈ st', vok v) (kt : P → XJ l G B Q d pc1 ls st' S V mc ms) (kf : ¬ P → XJ l G B Q d pc2 ls st' S V mc ms) : XJ l G B Q d pc ls st S V mc ms := by
  intro p e R s m args below meth c Z K N C H locs cells slots la X
  exact hW p e R s m args below meth c Z H locs cells slots la C.1.1 C.1.2.1 X.2.2 (fun h => kt h p e R s m args below meth c Z K N C H locs cells slots la ⟨X.1, X.2.1, hv X.2.2⟩) (fun h => kf h p e R s m args below meth c Z K N C H locs cells slots la ⟨X.1, X.2.1, hv X.2.2⟩)
theorem X_iconst {n : Int} (hd : decode B.2.1 pc = .ok (.iconst n, 1)) (hr : inI n) (k : XJ l G B Q d (pc + 1) ls (vi n :: st) S V mc ms) : XJ l G B Q d pc ls (st) S V mc ms :=
  X_pure (fun p e R s m args below meth c Z H locs cells slots la hx hb ho hl k => by
    exact lv_iconst hx hb hd rfl k) (fun h hl => vok_c (v := vi n) hr h) k
theorem X_bipush {n : Int} (hd : decode B.2.1 pc = .ok (.bipush n, 2)) (hr : inI n) (hn : (Int8.ofInt n).toInt32 = Int32.ofInt n) (k : XJ l G B Q d (pc + 2) ls (vi n :: st) S V mc ms) : XJ l G B Q d pc ls (st) S V mc ms :=
  X_pure (fun p e R s m args below meth c Z H locs cells slots la hx hb ho hl k => by
    exact lv_bipush hx hb hd hn k) (fun h hl => vok_c (v := vi n) hr h) k
theorem X_sipush {n : Int} (hd : decode B.2.1 pc = .ok (.sipush n, 3)) (hr : inI n) (hn : (Int16.ofInt n).toInt32 = Int32.ofInt n) (k : XJ l G B Q d (pc + 3) ls (vi n :: st) S V mc ms) : XJ l G B Q d pc ls (st) S V mc ms :=
  X_pure (fun p e R s m args below meth c Z H locs cells slots la hx hb ho hl k => by
    exact lv_sipush hx hb hd hn k) (fun h hl => vok_c (v := vi n) hr h) k
theorem X_lconst {n : Fin 2} (hd : decode B.2.1 pc = .ok (.lconst n, 1)) (k : XJ l G B Q d (pc + 1) ls (vl (n : Nat) :: st) S V mc ms) : XJ l G B Q d pc ls (st) S V mc ms :=
  X_pure (fun p e R s m args below meth c Z H locs cells slots la hx hb ho hl k => by
    exact lv_lconst hx hb hd (by match n with | 0 => rfl | 1 => rfl) k) (fun h hl => vok_c (v := vl (n : Nat)) (by match n with | 0 => exact (by decide : inL 0) | 1 => exact (by decide : inL 1)) h) k
theorem X_iload {i : Nat} {z : Int} (hd : decode B.2.1 pc = .ok (.iload i, 2)) (hz : ls[i]? = some (vi z)) (k : XJ l G B Q d (pc + 2) ls (vi z :: st) S V mc ms) : XJ l G B Q d pc ls (st) S V mc ms :=
  X_pure (fun p e R s m args below meth c Z H locs cells slots la hx hb ho hl k => by
    exact lv_iload hx hb hd (hl.2.2.2 i _ hz (by simp)) k) (fun h hl => vok_c (v := vi z) (hl _ (List.mem_of_getElem? hz)) h) k
theorem X_iload_n {i : Fin 4} {z : Int} (hd : decode B.2.1 pc = .ok (.iload_n i, 1)) (hz : ls[(i : Nat)]? = some (vi z)) (k : XJ l G B Q d (pc + 1) ls (vi z :: st) S V mc ms) : XJ l G B Q d pc ls (st) S V mc ms :=
  X_pure (fun p e R s m args below meth c Z H locs cells slots la hx hb ho hl k => by
    exact lv_iload_n hx hb hd rfl (hl.2.2.2 i _ hz (by simp)) k) (fun h hl => vok_c (v := vi z) (hl _ (List.mem_of_getElem? hz)) h) k
theorem X_lload {i : Nat} {z : Int} (hd : decode B.2.1 pc = .ok (.lload i, 2)) (hz : ls[i]? = some (vl z)) (k : XJ l G B Q d (pc + 2) ls (vl z :: st) S V mc ms) : XJ l G B Q d pc ls (st) S V mc ms :=
  X_pure (fun p e R s m args below meth c Z H locs cells slots la hx hb ho hl k => by
    exact lv_lload hx hb hd (hl.2.2.2 i _ hz (by simp)) k) (fun h hl => vok_c (v := vl z) (hl _ (List.mem_of_getElem? hz)) h) k
theorem X_lload_n {i : Fin 4} {z : Int} (hd : decode B.2.1 pc = .ok (.lload_n i, 1)) (hz : ls[(i : Nat)]? = some (vl z)) (k : XJ l G B Q d (pc + 1) ls (vl z :: st) S V mc ms) : XJ l G B Q d pc ls (st) S V mc ms :=
  X_pure (fun p e R s m args below meth c Z H locs cells slots la hx hb ho hl k => by
    exact lv_lload_n hx hb hd rfl (hl.2.2.2 i _ hz (by simp)) k) (fun h hl => vok_c (v := vl z) (hl _ (List.mem_of_getElem? hz)) h) k
theorem X_aload {i : Nat} {r : Int} (hd : decode B.2.1 pc = .ok (.aload i, 2)) (hz : ls[i]? = some (vr r)) (k : XJ l G B Q d (pc + 2) ls (vr r :: st) S V mc ms) : XJ l G B Q d pc ls (st) S V mc ms :=
  X_pure (fun p e R s m args below meth c Z H locs cells slots la hx hb ho hl k => by
    have h0 := hl.2.2.2 i _ hz (by simp)
    rw [List.map_cons] at k
    by_cases hr : r ≤ 0
    · have e : tv (vr r) = .null := if_pos hr
      rw [e] at h0 k
      exact lv_aloadN hx hb hd h0 k
    · have e : tv (vr r) = .ref (r - 1).toNat := if_neg hr
      rw [e] at h0 k
      exact lv_aload hx hb hd h0 k) (fun h hl => vok_c (v := vr r) (hl _ (List.mem_of_getElem? hz)) h) k
theorem X_aload_n {i : Fin 4} {r : Int} (hd : decode B.2.1 pc = .ok (.aload_n i, 1)) (hz : ls[(i : Nat)]? = some (vr r)) (k : XJ l G B Q d (pc + 1) ls (vr r :: st) S V mc ms) : XJ l G B Q d pc ls (st) S V mc ms :=
  X_pure (fun p e R s m args below meth c Z H locs cells slots la hx hb ho hl k => by
    have h0 := hl.2.2.2 (i : Nat) _ hz (by simp)
    rw [List.map_cons] at k
    by_cases hr : r ≤ 0
    · have e : tv (vr r) = .null := if_pos hr
      rw [e] at h0 k
      exact lv_aload_nN hx hb hd rfl h0 k
    · have e : tv (vr r) = .ref (r - 1).toNat := if_neg hr
      rw [e] at h0 k
      exact lv_aload_n hx hb hd rfl h0 k) (fun h hl => vok_c (v := vr r) (hl _ (List.mem_of_getElem? hz)) h) k
theorem X_aconst_null  (hd : decode B.2.1 pc = .ok (.aconst_null, 1)) (k : XJ l G B Q d (pc + 1) ls (vr 0 :: st) S V mc ms) : XJ l G B Q d pc ls (st) S V mc ms :=
  X_pure (fun p e R s m args below meth c Z H locs cells slots la hx hb ho hl k => by
    exact lv_null hx hb hd k) (fun h hl => vok_c (v := vr 0) (Int.le_refl 0) h) k
theorem X_iadd {a b : Int} (hd : decode B.2.1 pc = .ok (.iadd, 1)) (k : XJ l G B Q d (pc + 1) ls (vi (wr (a + b)) :: st) S V mc ms) : XJ l G B Q d pc ls (vi b :: vi a :: st) S V mc ms :=
  X_pure (fun p e R s m args below meth c Z H locs cells slots la hx hb ho hl k => by
    refine lv_iadd hx hb hd ?_
    rw [List.map_cons] at k
    rw [i32_add]; exact k) (fun h hl => vok_c (v := vi (wr (a + b))) (wr_in _) (vok_t (vok_t h))) k
theorem X_isub {a b : Int} (hd : decode B.2.1 pc = .ok (.isub, 1)) (k : XJ l G B Q d (pc + 1) ls (vi (wr (a - b)) :: st) S V mc ms) : XJ l G B Q d pc ls (vi b :: vi a :: st) S V mc ms :=
  X_pure (fun p e R s m args below meth c Z H locs cells slots la hx hb ho hl k => by
    refine lv_isub hx hb hd ?_
    rw [List.map_cons] at k
    rw [i32_sub]; exact k) (fun h hl => vok_c (v := vi (wr (a - b))) (wr_in _) (vok_t (vok_t h))) k
theorem X_imul {a b : Int} (hd : decode B.2.1 pc = .ok (.imul, 1)) (k : XJ l G B Q d (pc + 1) ls (vi (wr (a * b)) :: st) S V mc ms) : XJ l G B Q d pc ls (vi b :: vi a :: st) S V mc ms :=
  X_pure (fun p e R s m args below meth c Z H locs cells slots la hx hb ho hl k => by
    refine lv_imul hx hb hd ?_
    rw [List.map_cons] at k
    rw [i32_mul]; exact k) (fun h hl => vok_c (v := vi (wr (a * b))) (wr_in _) (vok_t (vok_t h))) k
theorem X_idiv {a b : Int} (hd : decode B.2.1 pc = .ok (.idiv, 1)) (hb0 : b ≠ 0) (k : XJ l G B Q d (pc + 1) ls (vi (wr (a.tdiv b)) :: st) S V mc ms) : XJ l G B Q d pc ls (vi b :: vi a :: st) S V mc ms :=
  X_pure (fun p e R s m args below meth c Z H locs cells slots la hx hb ho hl k => by
    refine lv_idiv hx hb hd (fun q => hb0 ((i32_eq (vok_h ho) inI0).mp q)) ?_
    rw [List.map_cons] at k
    rw [i32_div (vok_h (vok_t ho)) (vok_h ho)]; exact k) (fun h hl => vok_c (v := vi (wr (a.tdiv b))) (wr_in _) (vok_t (vok_t h))) k
theorem X_irem {a b : Int} (hd : decode B.2.1 pc = .ok (.irem, 1)) (hb0 : b ≠ 0) (k : XJ l G B Q d (pc + 1) ls (vi (wr (a.tmod b)) :: st) S V mc ms) : XJ l G B Q d pc ls (vi b :: vi a :: st) S V mc ms :=
  X_pure (fun p e R s m args below meth c Z H locs cells slots la hx hb ho hl k => by
    refine lv_irem hx hb hd (fun q => hb0 ((i32_eq (vok_h ho) inI0).mp q)) ?_
    rw [List.map_cons] at k
    rw [i32_rem (vok_h (vok_t ho)) (vok_h ho)]; exact k) (fun h hl => vok_c (v := vi (wr (a.tmod b))) (wr_in _) (vok_t (vok_t h))) k
theorem X_iand {a b : Int} (hd : decode B.2.1 pc = .ok (.iand, 1)) (k : XJ l G B Q d (pc + 1) ls (vi (bAnd a b) :: st) S V mc ms) : XJ l G B Q d pc ls (vi b :: vi a :: st) S V mc ms :=
  X_pure (fun p e R s m args below meth c Z H locs cells slots la hx hb ho hl k => by
    refine lv_iand hx hb hd ?_
    rw [List.map_cons] at k
    rw [show tv (vi (bAnd a b)) = _ from congrArg Value.int (i32_of _)] at k; exact k) (fun h hl => vok_c (v := vi (bAnd a b)) (i32_in _) (vok_t (vok_t h))) k
theorem X_ior {a b : Int} (hd : decode B.2.1 pc = .ok (.ior, 1)) (k : XJ l G B Q d (pc + 1) ls (vi (bOr a b) :: st) S V mc ms) : XJ l G B Q d pc ls (vi b :: vi a :: st) S V mc ms :=
  X_pure (fun p e R s m args below meth c Z H locs cells slots la hx hb ho hl k => by
    refine lv_ior hx hb hd ?_
    rw [List.map_cons] at k
    rw [show tv (vi (bOr a b)) = _ from congrArg Value.int (i32_of _)] at k; exact k) (fun h hl => vok_c (v := vi (bOr a b)) (i32_in _) (vok_t (vok_t h))) k
theorem X_ixor {a b : Int} (hd : decode B.2.1 pc = .ok (.ixor, 1)) (k : XJ l G B Q d (pc + 1) ls (vi (bXor a b) :: st) S V mc ms) : XJ l G B Q d pc ls (vi b :: vi a :: st) S V mc ms :=
  X_pure (fun p e R s m args below meth c Z H locs cells slots la hx hb ho hl k => by
    refine lv_ixor hx hb hd ?_
    rw [List.map_cons] at k
    rw [show tv (vi (bXor a b)) = _ from congrArg Value.int (i32_of _)] at k; exact k) (fun h hl => vok_c (v := vi (bXor a b)) (i32_in _) (vok_t (vok_t h))) k
theorem X_ishl {a b : Int} (hd : decode B.2.1 pc = .ok (.ishl, 1)) (k : XJ l G B Q d (pc + 1) ls (vi (bShl a b) :: st) S V mc ms) : XJ l G B Q d pc ls (vi b :: vi a :: st) S V mc ms :=
  X_pure (fun p e R s m args below meth c Z H locs cells slots la hx hb ho hl k => by
    refine lv_ishl hx hb hd ?_
    rw [List.map_cons] at k
    rw [show tv (vi (bShl a b)) = _ from congrArg Value.int (i32_of _)] at k; exact k) (fun h hl => vok_c (v := vi (bShl a b)) (i32_in _) (vok_t (vok_t h))) k
theorem X_ishr {a b : Int} (hd : decode B.2.1 pc = .ok (.ishr, 1)) (k : XJ l G B Q d (pc + 1) ls (vi (bShr a b) :: st) S V mc ms) : XJ l G B Q d pc ls (vi b :: vi a :: st) S V mc ms :=
  X_pure (fun p e R s m args below meth c Z H locs cells slots la hx hb ho hl k => by
    refine lv_ishr hx hb hd ?_
    rw [List.map_cons] at k
    rw [show tv (vi (bShr a b)) = _ from congrArg Value.int (i32_of _)] at k; exact k) (fun h hl => vok_c (v := vi (bShr a b)) (i32_in _) (vok_t (vok_t h))) k
theorem X_iushr {a b : Int} (hd : decode B.2.1 pc = .ok (.iushr, 1)) (k : XJ l G B Q d (pc + 1) ls (vi (bUshr a b) :: st) S V mc ms) : XJ l G B Q d pc ls (vi b :: vi a :: st) S V mc ms :=
  X_pure (fun p e R s m args below meth c Z H locs cells slots la hx hb ho hl k => by
    refine lv_iushr hx hb hd rfl ?_
    rw [List.map_cons, show tv (vi (bUshr a b)) = _ from congrArg Value.int (i32_of _)] at k; exact k) (fun h hl => vok_c (v := vi (bUshr a b)) (i32_in _) (vok_t (vok_t h))) k
theorem X_ineg {a : Int} (hd : decode B.2.1 pc = .ok (.ineg, 1)) (k : XJ l G B Q d (pc + 1) ls (vi (wr (-a)) :: st) S V mc ms) : XJ l G B Q d pc ls (vi a :: st) S V mc ms :=
  X_pure (fun p e R s m args below meth c Z H locs cells slots la hx hb ho hl k => by
    refine lv_ineg hx hb hd ?_
    rw [i32_neg]; exact k) (fun h hl => vok_c (v := vi (wr (-a))) (wr_in _) (vok_t h)) k
theorem X_ladd {a b : Int} (hd : decode B.2.1 pc = .ok (.ladd, 1)) (k : XJ l G B Q d (pc + 1) ls (vl (wl (a + b)) :: st) S V mc ms) : XJ l G B Q d pc ls (vl b :: vl a :: st) S V mc ms :=
  X_pure (fun p e R s m args below meth c Z H locs cells slots la hx hb ho hl k => by
    refine lv_ladd hx hb hd ?_
    rw [List.map_cons] at k
    rw [i64_add]; exact k) (fun h hl => vok_c (v := vl (wl (a + b))) (wl_in _) (vok_t (vok_t h))) k
theorem X_lmul {a b : Int} (hd : decode B.2.1 pc = .ok (.lmul, 1)) (k : XJ l G B Q d (pc + 1) ls (vl (wl (a * b)) :: st) S V mc ms) : XJ l G B Q d pc ls (vl b :: vl a :: st) S V mc ms :=
  X_pure (fun p e R s m args below meth c Z H locs cells slots la hx hb ho hl k => by
    refine lv_lmul hx hb hd ?_
    rw [List.map_cons] at k
    rw [i64_mul]; exact k) (fun h hl => vok_c (v := vl (wl (a * b))) (wl_in _) (vok_t (vok_t h))) k
theorem X_land {a b : Int} (hd : decode B.2.1 pc = .ok (.land, 1)) (k : XJ l G B Q d (pc + 1) ls (vl (lAnd a b) :: st) S V mc ms) : XJ l G B Q d pc ls (vl b :: vl a :: st) S V mc ms :=
  X_pure (fun p e R s m args below meth c Z H locs cells slots la hx hb ho hl k => by
    refine lv_land hx hb hd ?_
    rw [List.map_cons] at k
    rw [show tv (vl (lAnd a b)) = _ from congrArg Value.long (i64_of _)] at k; exact k) (fun h hl => vok_c (v := vl (lAnd a b)) (i64_in _) (vok_t (vok_t h))) k
theorem X_lor {a b : Int} (hd : decode B.2.1 pc = .ok (.lor, 1)) (k : XJ l G B Q d (pc + 1) ls (vl (lOr a b) :: st) S V mc ms) : XJ l G B Q d pc ls (vl b :: vl a :: st) S V mc ms :=
  X_pure (fun p e R s m args below meth c Z H locs cells slots la hx hb ho hl k => by
    refine lv_lor hx hb hd ?_
    rw [List.map_cons] at k
    rw [show tv (vl (lOr a b)) = _ from congrArg Value.long (i64_of _)] at k; exact k) (fun h hl => vok_c (v := vl (lOr a b)) (i64_in _) (vok_t (vok_t h))) k
theorem X_lshl {a b : Int} (hd : decode B.2.1 pc = .ok (.lshl, 1)) (k : XJ l G B Q d (pc + 1) ls (vl (lShl a b) :: st) S V mc ms) : XJ l G B Q d pc ls (vi b :: vl a :: st) S V mc ms :=
  X_pure (fun p e R s m args below meth c Z H locs cells slots la hx hb ho hl k => by
    refine lv_lshl hx hb hd rfl ?_
    rw [List.map_cons, show tv (vl (lShl a b)) = _ from congrArg Value.long (i64_of _)] at k; exact k) (fun h hl => vok_c (v := vl (lShl a b)) (i64_in _) (vok_t (vok_t h))) k
theorem X_lshr {a b : Int} (hd : decode B.2.1 pc = .ok (.lshr, 1)) (k : XJ l G B Q d (pc + 1) ls (vl (lShr a b) :: st) S V mc ms) : XJ l G B Q d pc ls (vi b :: vl a :: st) S V mc ms :=
  X_pure (fun p e R s m args below meth c Z H locs cells slots la hx hb ho hl k => by
    refine lv_lshr hx hb hd rfl ?_
    rw [List.map_cons, show tv (vl (lShr a b)) = _ from congrArg Value.long (i64_of _)] at k; exact k) (fun h hl => vok_c (v := vl (lShr a b)) (i64_in _) (vok_t (vok_t h))) k
theorem X_lushr {a b : Int} (hd : decode B.2.1 pc = .ok (.lushr, 1)) (k : XJ l G B Q d (pc + 1) ls (vl (lUshr a b) :: st) S V mc ms) : XJ l G B Q d pc ls (vi b :: vl a :: st) S V mc ms :=
  X_pure (fun p e R s m args below meth c Z H locs cells slots la hx hb ho hl k => by
    refine lv_lushr hx hb hd rfl ?_
    rw [List.map_cons, show tv (vl (lUshr a b)) = _ from congrArg Value.long (i64_of _)] at k; exact k) (fun h hl => vok_c (v := vl (lUshr a b)) (i64_in _) (vok_t (vok_t h))) k
theorem X_i2l {a : Int} (hd : decode B.2.1 pc = .ok (.i2l, 1)) (k : XJ l G B Q d (pc + 1) ls (vl a :: st) S V mc ms) : XJ l G B Q d pc ls (vi a :: st) S V mc ms :=
  X_pure (fun p e R s m args below meth c Z H locs cells slots la hx hb ho hl k => by
    exact lv_i2l hx hb hd (Int64.toInt_inj.mp (by rw [Int32.toInt_toInt64, i32_toInt (vok_h ho), i64_toInt (by have := vok_h ho; unfold vok inI at this; unfold inL; omega)])) k) (fun h hl => vok_c (v := vl a) (by have := vok_h h; unfold vok inI at this; unfold vok inL; omega) (vok_t h)) k
theorem X_l2i {a : Int} (hd : decode B.2.1 pc = .ok (.l2i, 1)) (k : XJ l G B Q d (pc + 1) ls (vi (wr a) :: st) S V mc ms) : XJ l G B Q d pc ls (vl a :: st) S V mc ms :=
  X_pure (fun p e R s m args below meth c Z H locs cells slots la hx hb ho hl k => by
    exact lv_l2i hx hb hd (by rw [i32_wr, Int64.toInt32_ofInt]) k) (fun h hl => vok_c (v := vi (wr a)) (wr_in _) (vok_t h)) k
theorem X_i2b {a : Int} (hd : decode B.2.1 pc = .ok (.i2b, 1)) (k : XJ l G B Q d (pc + 1) ls (vi (wb a) :: st) S V mc ms) : XJ l G B Q d pc ls (vi a :: st) S V mc ms :=
  X_pure (fun p e R s m args below meth c Z H locs cells slots la hx hb ho hl k => by
    exact lv_i2b hx hb hd (i32_wb a) k) (fun h hl => vok_c (v := vi (wb a)) (by unfold vok inI wb; omega) (vok_t h)) k
theorem X_i2c {a : Int} (hd : decode B.2.1 pc = .ok (.i2c, 1)) (k : XJ l G B Q d (pc + 1) ls (vi (wc a) :: st) S V mc ms) : XJ l G B Q d pc ls (vi a :: st) S V mc ms :=
  X_pure (fun p e R s m args below meth c Z H locs cells slots la hx hb ho hl k => by
    exact lv_i2c hx hb hd (i32_wc a) k) (fun h hl => vok_c (v := vi (wc a)) (by unfold vok inI wc; omega) (vok_t h)) k
theorem X_dup {v : AV} (hd : decode B.2.1 pc = .ok (.dup, 1)) (hc : (tv v).category = 1) (k : XJ l G B Q d (pc + 1) ls (v :: v :: st) S V mc ms) : XJ l G B Q d pc ls (v :: st) S V mc ms :=
  X_pure (fun p e R s m args below meth c Z H locs cells slots la hx hb ho hl k => by
    exact lv_dup hx hb hd hc k) (fun h hl => vok_c (v := v) (vok_h h) h) k
theorem X_pop {v : AV} (hd : decode B.2.1 pc = .ok (.pop, 1)) (hc : (tv v).category = 1) (k : XJ l G B Q d (pc + 1) ls (st) S V mc ms) : XJ l G B Q d pc ls (v :: st) S V mc ms :=
  X_pure (fun p e R s m args below meth c Z H locs cells slots la hx hb ho hl k => by
    exact lv_pop hx hb hd hc k) (fun h hl => vok_t h) k
theorem X_dup2 {v w : AV} (hd : decode B.2.1 pc = .ok (.dup2, 1)) (hc : (tv v).category = 1) (hc2 : (tv w).category = 1) (k : XJ l G B Q d (pc + 1) ls (v :: w :: v :: w :: st) S V mc ms) : XJ l G B Q d pc ls (v :: w :: st) S V mc ms :=
  X_pure (fun p e R s m args below meth c Z H locs cells slots la hx hb ho hl k => by
    exact lv_dup2_11 hx hb hd hc hc2 k) (fun h hl => vok_c (v := v) (vok_h h) (vok_c (vok_h (vok_t h)) h)) k
theorem X_lcmp {a b : Int} (hd : decode B.2.1 pc = .ok (.lcmp, 1)) (k : XJ l G B Q d (pc + 1) ls (vi (lCmp a b) :: st) S V mc ms) : XJ l G B Q d pc ls (vl b :: vl a :: st) S V mc ms :=
  X_pure (fun p e R s m args below meth c Z H locs cells slots la hx hb ho hl k => by
    refine W.lcmp hx hb hd ?_
    rw [lg_cmp_i (vok_h (vok_t ho)) (vok_h ho)]; exact k) (fun h hl => vok_c (v := vi (lCmp a b)) (by show inI (lCmp a b); unfold inI lCmp; split <;> (try split) <;> omega) (vok_t (vok_t h))) k
theorem X_goto {off : Int} {tgt : Nat} (hd : decode B.2.1 pc = .ok (.goto off, 3)) (ht : (pc : Int) + off = (tgt : Int)) (k : XJ l G B Q d tgt ls (st) S V mc ms) : XJ l G B Q d pc ls (st) S V mc ms :=
  X_pure (fun p e R s m args below meth c Z H locs cells slots la hx hb ho hl k => by
    exact lv_goto hx hb hd ht k) (fun h hl => h) k
theorem X_icmp_eq {a b off : Int} {tgt : Nat} (hd : decode B.2.1 pc = .ok (.if_icmp .eq off, 3)) (ht : (pc : Int) + off = (tgt : Int)) (kt : a = b → XJ l G B Q d tgt ls (st) S V mc ms) (kf : ¬ (a = b) → XJ l G B Q d (pc + 3) ls (st) S V mc ms) : XJ l G B Q d pc ls (vi b :: vi a :: st) S V mc ms :=
  X_br (P := a = b) (fun p e R s m args below meth c Z H locs cells slots la hx hb ho kt kf => by
    exact lv_icmp_eq hx hb hd ht (fun q => kt ((i32_eq (vok_h (vok_t ho)) (vok_h ho)).mp q)) (fun q => kf (fun z => q ((i32_eq (vok_h (vok_t ho)) (vok_h ho)).mpr z)))) (fun h => vok_t (vok_t h)) kt kf
theorem X_if_eq {a off : Int} {tgt : Nat} (hd : decode B.2.1 pc = .ok (.ifCond .eq off, 3)) (ht : (pc : Int) + off = (tgt : Int)) (kt : a = 0 → XJ l G B Q d tgt ls (st) S V mc ms) (kf : ¬ (a = 0) → XJ l G B Q d (pc + 3) ls (st) S V mc ms) : XJ l G B Q d pc ls (vi a :: st) S V mc ms :=
  X_br (P := a = 0) (fun p e R s m args below meth c Z H locs cells slots la hx hb ho kt kf => by
    exact lv_if_eq hx hb hd ht (fun q => kt ((i32_eq (vok_h ho) inI0).mp q)) (fun q => kf (fun z => q ((i32_eq (vok_h ho) inI0).mpr z)))) (fun h => vok_t h) kt kf
theorem X_icmp_ne {a b off : Int} {tgt : Nat} (hd : decode B.2.1 pc = .ok (.if_icmp .ne off, 3)) (ht : (pc : Int) + off = (tgt : Int)) (kt : a ≠ b → XJ l G B Q d tgt ls (st) S V mc ms) (kf : ¬ (a ≠ b) → XJ l G B Q d (pc + 3) ls (st) S V mc ms) : XJ l G B Q d pc ls (vi b :: vi a :: st) S V mc ms :=
  X_br (P := a ≠ b) (fun p e R s m args below meth c Z H locs cells slots la hx hb ho kt kf => by
    exact lv_icmp_ne hx hb hd ht (fun q => kt (fun z => q ((i32_eq (vok_h (vok_t ho)) (vok_h ho)).mpr z))) (fun q => kf (fun z => z ((i32_eq (vok_h (vok_t ho)) (vok_h ho)).mp q)))) (fun h => vok_t (vok_t h)) kt kf
theorem X_if_ne {a off : Int} {tgt : Nat} (hd : decode B.2.1 pc = .ok (.ifCond .ne off, 3)) (ht : (pc : Int) + off = (tgt : Int)) (kt : a ≠ 0 → XJ l G B Q d tgt ls (st) S V mc ms) (kf : ¬ (a ≠ 0) → XJ l G B Q d (pc + 3) ls (st) S V mc ms) : XJ l G B Q d pc ls (vi a :: st) S V mc ms :=
  X_br (P := a ≠ 0) (fun p e R s m args below meth c Z H locs cells slots la hx hb ho kt kf => by
    exact lv_if_ne hx hb hd ht (fun q => kt (fun z => q ((i32_eq (vok_h ho) inI0).mpr z))) (fun q => kf (fun z => z ((i32_eq (vok_h ho) inI0).mp q)))) (fun h => vok_t h) kt kf
theorem X_icmp_lt {a b off : Int} {tgt : Nat} (hd : decode B.2.1 pc = .ok (.if_icmp .lt off, 3)) (ht : (pc : Int) + off = (tgt : Int)) (kt : a < b → XJ l G B Q d tgt ls (st) S V mc ms) (kf : ¬ (a < b) → XJ l G B Q d (pc + 3) ls (st) S V mc ms) : XJ l G B Q d pc ls (vi b :: vi a :: st) S V mc ms :=
  X_br (P := a < b) (fun p e R s m args below meth c Z H locs cells slots la hx hb ho kt kf => by
    exact lv_icmp_lt hx hb hd ht (fun q => kt ((i32_lt (vok_h (vok_t ho)) (vok_h ho)).mp q)) (fun q => kf (fun z => q ((i32_lt (vok_h (vok_t ho)) (vok_h ho)).mpr z)))) (fun h => vok_t (vok_t h)) kt kf
theorem X_if_lt {a off : Int} {tgt : Nat} (hd : decode B.2.1 pc = .ok (.ifCond .lt off, 3)) (ht : (pc : Int) + off = (tgt : Int)) (kt : a < 0 → XJ l G B Q d tgt ls (st) S V mc ms) (kf : ¬ (a < 0) → XJ l G B Q d (pc + 3) ls (st) S V mc ms) : XJ l G B Q d pc ls (vi a :: st) S V mc ms :=
  X_br (P := a < 0) (fun p e R s m args below meth c Z H locs cells slots la hx hb ho kt kf => by
    exact lv_if_lt hx hb hd ht (fun q => kt ((i32_lt (vok_h ho) inI0).mp q)) (fun q => kf (fun z => q ((i32_lt (vok_h ho) inI0).mpr z)))) (fun h => vok_t h) kt kf
theorem X_icmp_ge {a b off : Int} {tgt : Nat} (hd : decode B.2.1 pc = .ok (.if_icmp .ge off, 3)) (ht : (pc : Int) + off = (tgt : Int)) (kt : b ≤ a → XJ l G B Q d tgt ls (st) S V mc ms) (kf : ¬ (b ≤ a) → XJ l G B Q d (pc + 3) ls (st) S V mc ms) : XJ l G B Q d pc ls (vi b :: vi a :: st) S V mc ms :=
  X_br (P := b ≤ a) (fun p e R s m args below meth c Z H locs cells slots la hx hb ho kt kf => by
    exact lv_icmp_ge hx hb hd ht (fun q => kt ((i32_le (vok_h ho) (vok_h (vok_t ho))).mp q)) (fun q => kf (fun z => q ((i32_le (vok_h ho) (vok_h (vok_t ho))).mpr z)))) (fun h => vok_t (vok_t h)) kt kf
theorem X_if_ge {a off : Int} {tgt : Nat} (hd : decode B.2.1 pc = .ok (.ifCond .ge off, 3)) (ht : (pc : Int) + off = (tgt : Int)) (kt : 0 ≤ a → XJ l G B Q d tgt ls (st) S V mc ms) (kf : ¬ (0 ≤ a) → XJ l G B Q d (pc + 3) ls (st) S V mc ms) : XJ l G B Q d pc ls (vi a :: st) S V mc ms :=
  X_br (P := 0 ≤ a) (fun p e R s m args below meth c Z H locs cells slots la hx hb ho kt kf => by
    exact lv_if_ge hx hb hd ht (fun q => kt ((i32_le inI0 (vok_h ho)).mp q)) (fun q => kf (fun z => q ((i32_le inI0 (vok_h ho)).mpr z)))) (fun h => vok_t h) kt kf
theorem X_icmp_gt {a b off : Int} {tgt : Nat} (hd : decode B.2.1 pc = .ok (.if_icmp .gt off, 3)) (ht : (pc : Int) + off = (tgt : Int)) (kt : b < a → XJ l G B Q d tgt ls (st) S V mc ms) (kf : ¬ (b < a) → XJ l G B Q d (pc + 3) ls (st) S V mc ms) : XJ l G B Q d pc ls (vi b :: vi a :: st) S V mc ms :=
  X_br (P := b < a) (fun p e R s m args below meth c Z H locs cells slots la hx hb ho kt kf => by
    exact lv_icmp_gt hx hb hd ht (fun q => kt ((i32_lt (vok_h ho) (vok_h (vok_t ho))).mp q)) (fun q => kf (fun z => q ((i32_lt (vok_h ho) (vok_h (vok_t ho))).mpr z)))) (fun h => vok_t (vok_t h)) kt kf
theorem X_if_gt {a off : Int} {tgt : Nat} (hd : decode B.2.1 pc = .ok (.ifCond .gt off, 3)) (ht : (pc : Int) + off = (tgt : Int)) (kt : 0 < a → XJ l G B Q d tgt ls (st) S V mc ms) (kf : ¬ (0 < a) → XJ l G B Q d (pc + 3) ls (st) S V mc ms) : XJ l G B Q d pc ls (vi a :: st) S V mc ms :=
  X_br (P := 0 < a) (fun p e R s m args below meth c Z H locs cells slots la hx hb ho kt kf => by
    exact lv_if_gt hx hb hd ht (fun q => kt ((i32_lt inI0 (vok_h ho)).mp q)) (fun q => kf (fun z => q ((i32_lt inI0 (vok_h ho)).mpr z)))) (fun h => vok_t h) kt kf
theorem X_icmp_le {a b off : Int} {tgt : Nat} (hd : decode B.2.1 pc = .ok (.if_icmp .le off, 3)) (ht : (pc : Int) + off = (tgt : Int)) (kt : a ≤ b → XJ l G B Q d tgt ls (st) S V mc ms) (kf : ¬ (a ≤ b) → XJ l G B Q d (pc + 3) ls (st) S V mc ms) : XJ l G B Q d pc ls (vi b :: vi a :: st) S V mc ms :=
  X_br (P := a ≤ b) (fun p e R s m args below meth c Z H locs cells slots la hx hb ho kt kf => by
    exact lv_icmp_le hx hb hd ht (fun q => kt ((i32_le (vok_h (vok_t ho)) (vok_h ho)).mp q)) (fun q => kf (fun z => q ((i32_le (vok_h (vok_t ho)) (vok_h ho)).mpr z)))) (fun h => vok_t (vok_t h)) kt kf
theorem X_if_le {a off : Int} {tgt : Nat} (hd : decode B.2.1 pc = .ok (.ifCond .le off, 3)) (ht : (pc : Int) + off = (tgt : Int)) (kt : a ≤ 0 → XJ l G B Q d tgt ls (st) S V mc ms) (kf : ¬ (a ≤ 0) → XJ l G B Q d (pc + 3) ls (st) S V mc ms) : XJ l G B Q d pc ls (vi a :: st) S V mc ms :=
  X_br (P := a ≤ 0) (fun p e R s m args below meth c Z H locs cells slots la hx hb ho kt kf => by
    exact lv_if_le hx hb hd ht (fun q => kt ((i32_le (vok_h ho) inI0).mp q)) (fun q => kf (fun z => q ((i32_le (vok_h ho) inI0).mpr z)))) (fun h => vok_t h) kt kf
theorem X_ifnull {r off : Int} {tgt : Nat} (hd : decode B.2.1 pc = .ok (.ifnull off, 3)) (ht : (pc : Int) + off = (tgt : Int)) (kt : r = 0 → XJ l G B Q d tgt ls (st) S V mc ms) (kf : ¬ (r = 0) → XJ l G B Q d (pc + 3) ls (st) S V mc ms) : XJ l G B Q d pc ls (vr r :: st) S V mc ms :=
  X_br (P := r = 0) (fun p e R s m args below meth c Z H locs cells slots la hx hb ho kt kf => by
    have h0 : 0 ≤ r := vok_h ho
    by_cases hr : r = 0
    · subst hr; exact lv_ifnullN hx hb hd ht (kt rfl)
    · have e : tv (vr r) = .ref (r - 1).toNat := if_neg (by omega)
      rw [List.map_cons, e]
      exact lv_ifnull hx hb hd (kf hr)) (fun h => vok_t h) kt kf
theorem X_ifnonnull {r off : Int} {tgt : Nat} (hd : decode B.2.1 pc = .ok (.ifnonnull off, 3)) (ht : (pc : Int) + off = (tgt : Int)) (kt : r ≠ 0 → XJ l G B Q d tgt ls (st) S V mc ms) (kf : ¬ (r ≠ 0) → XJ l G B Q d (pc + 3) ls (st) S V mc ms) : XJ l G B Q d pc ls (vr r :: st) S V mc ms :=
  X_br (P := r ≠ 0) (fun p e R s m args below meth c Z H locs cells slots la hx hb ho kt kf => by
    have h0 : 0 ≤ r := vok_h ho
    by_cases hr : r = 0
    · subst hr; exact lv_ifnonnullN hx hb hd (kf (fun q => q rfl))
    · have e : tv (vr r) = .ref (r - 1).toNat := if_neg (by omega)
      rw [List.map_cons, e]
      exact lv_ifnonnull hx hb hd ht (kt hr)) (fun h => vok_t h) kt kf
theorem X_istore {i : Nat} {z : Int} (hd : decode B.2.1 pc = .ok (.istore i, 2)) (hn : i < B.2.2.1) (hn2 : nol ls i = true) (k : XJ l G B Q d (pc + 2) (ls.set i (vi z)) st S V mc ms) : XJ l G B Q d pc ls (vi z :: st) S V mc ms := by
  intro p e R s m args below meth c Z K N C H locs cells slots la X
  have kk : ∀ la' : Array Slot, lv_has la' B.2.2.1 ((i, tv (vi z)) :: (asc 0 ls).filter (fun q => !(q.1 == i) && !(q.1 + 1 == i && q.2.category == 2))) → W p l e R s m args below meth c H locs cells slots Z (F0 m (pc + 2) la' (st.map tv)) := fun la' h' => k p e R s m args below meth c Z K N C H locs cells slots la' ⟨X.1, ⟨am_set1 X.2.1.1 hn2 h', vok_s (vok_h X.2.2) X.2.1.2⟩, vok_t X.2.2⟩
  exact lv_istore C.1.1 C.1.2.1 hd (am_lv X.2.1.1) hn rfl kk
theorem X_istore_n {i : Fin 4} {z : Int} (hd : decode B.2.1 pc = .ok (.istore_n i, 1)) (hn : (i : Nat) < B.2.2.1) (hn2 : nol ls (i : Nat) = true) (k : XJ l G B Q d (pc + 1) (ls.set (i : Nat) (vi z)) st S V mc ms) : XJ l G B Q d pc ls (vi z :: st) S V mc ms := by
  intro p e R s m args below meth c Z K N C H locs cells slots la X
  have kk : ∀ la' : Array Slot, lv_has la' B.2.2.1 (((i : Nat), tv (vi z)) :: (asc 0 ls).filter (fun q => !(q.1 == (i : Nat)) && !(q.1 + 1 == (i : Nat) && q.2.category == 2))) → W p l e R s m args below meth c H locs cells slots Z (F0 m (pc + 1) la' (st.map tv)) := fun la' h' => k p e R s m args below meth c Z K N C H locs cells slots la' ⟨X.1, ⟨am_set1 X.2.1.1 hn2 h', vok_s (vok_h X.2.2) X.2.1.2⟩, vok_t X.2.2⟩
  exact lv_istore_n C.1.1 C.1.2.1 hd rfl (am_lv X.2.1.1) hn rfl kk
theorem X_astore {i : Nat} {r : Int} (hd : decode B.2.1 pc = .ok (.astore i, 2)) (hn : i < B.2.2.1) (hn2 : nol ls i = true) (k : XJ l G B Q d (pc + 2) (ls.set i (vr r)) st S V mc ms) : XJ l G B Q d pc ls (vr r :: st) S V mc ms := by
  intro p e R s m args below meth c Z K N C H locs cells slots la X
  have kk : ∀ la' : Array Slot, lv_has la' B.2.2.1 ((i, tv (vr r)) :: (asc 0 ls).filter (fun q => !(q.1 == i) && !(q.1 + 1 == i && q.2.category == 2))) → W p l e R s m args below meth c H locs cells slots Z (F0 m (pc + 2) la' (st.map tv)) := fun la' h' => k p e R s m args below meth c Z K N C H locs cells slots la' ⟨X.1, ⟨am_set1 X.2.1.1 hn2 h', vok_s (vok_h X.2.2) X.2.1.2⟩, vok_t X.2.2⟩
  rw [List.map_cons]
  by_cases hr : r ≤ 0
  · have e : tv (vr r) = .null := if_pos hr
    rw [e] at kk ⊢
    exact lv_astoreN C.1.1 C.1.2.1 hd (am_lv X.2.1.1) hn rfl kk
  · have e : tv (vr r) = .ref (r - 1).toNat := if_neg hr
    rw [e] at kk ⊢
    exact lv_astore C.1.1 C.1.2.1 hd (am_lv X.2.1.1) hn rfl kk
theorem X_astore_n {i : Fin 4} {r : Int} (hd : decode B.2.1 pc = .ok (.astore_n i, 1)) (hn : (i : Nat) < B.2.2.1) (hn2 : nol ls (i : Nat) = true) (k : XJ l G B Q d (pc + 1) (ls.set (i : Nat) (vr r)) st S V mc ms) : XJ l G B Q d pc ls (vr r :: st) S V mc ms := by
  intro p e R s m args below meth c Z K N C H locs cells slots la X
  have kk : ∀ la' : Array Slot, lv_has la' B.2.2.1 (((i : Nat), tv (vr r)) :: (asc 0 ls).filter (fun q => !(q.1 == (i : Nat)) && !(q.1 + 1 == (i : Nat) && q.2.category == 2))) → W p l e R s m args below meth c H locs cells slots Z (F0 m (pc + 1) la' (st.map tv)) := fun la' h' => k p e R s m args below meth c Z K N C H locs cells slots la' ⟨X.1, ⟨am_set1 X.2.1.1 hn2 h', vok_s (vok_h X.2.2) X.2.1.2⟩, vok_t X.2.2⟩
  rw [List.map_cons]
  by_cases hr : r ≤ 0
  · have e : tv (vr r) = .null := if_pos hr
    rw [e] at kk ⊢
    exact lv_astore_nN C.1.1 C.1.2.1 hd rfl (am_lv X.2.1.1) hn rfl kk
  · have e : tv (vr r) = .ref (r - 1).toNat := if_neg hr
    rw [e] at kk ⊢
    exact lv_astore_n C.1.1 C.1.2.1 hd rfl (am_lv X.2.1.1) hn rfl kk
theorem X_lstore {i : Nat} {z : Int} (hd : decode B.2.1 pc = .ok (.lstore i, 2)) (hn : i + 1 < B.2.2.1) (hn2 : nol ls i = true) (k : XJ l G B Q d (pc + 2) ((ls.set i (vl z)).set (i + 1) vu) st S V mc ms) : XJ l G B Q d pc ls (vl z :: st) S V mc ms := by
  intro p e R s m args below meth c Z K N C H locs cells slots la X
  refine lv_lstore C.1.1 C.1.2.1 hd (am_lv X.2.1.1) hn rfl fun la' h' => ?_
  exact k p e R s m args below meth c Z K N C H locs cells slots la' ⟨X.1, ⟨am_set2 X.2.1.1 hn2 h', vok_s trivial (vok_s (vok_h X.2.2) X.2.1.2)⟩, vok_t X.2.2⟩
theorem X_lstore_n {i : Fin 4} {z : Int} (hd : decode B.2.1 pc = .ok (.lstore_n i, 1)) (hn : (i : Nat) + 1 < B.2.2.1) (hn2 : nol ls (i : Nat) = true) (k : XJ l G B Q d (pc + 1) ((ls.set (i : Nat) (vl z)).set ((i : Nat) + 1) vu) st S V mc ms) : XJ l G B Q d pc ls (vl z :: st) S V mc ms := by
  intro p e R s m args below meth c Z K N C H locs cells slots la X
  refine lv_lstore_n C.1.1 C.1.2.1 hd rfl (am_lv X.2.1.1) hn rfl fun la' h' => ?_
  exact k p e R s m args below meth c Z K N C H locs cells slots la' ⟨X.1, ⟨am_set2 X.2.1.1 hn2 h', vok_s trivial (vok_s (vok_h X.2.2) X.2.1.2)⟩, vok_t X.2.2⟩
theorem X_iinc {i : Nat} {n z : Int} (hd : decode B.2.1 pc = .ok (.iinc i n, 3)) (hz : ls[i]? = some (vi z)) (hn : i < B.2.2.1) (hn2 : nol ls i = true) (k : XJ l G B Q d (pc + 3) (ls.set i (vi (wr (z + n)))) st S V mc ms) : XJ l G B Q d pc ls st S V mc ms := by
  intro p e R s m args below meth c Z K N C H locs cells slots la X
  have hm := asc_mem (k := 0) hz (by simp)
  rw [Nat.zero_add] at hm
  obtain ⟨q, hq⟩ := List.getElem?_of_mem hm
  refine lv_iinc (k := q) C.1.1 C.1.2.1 hd (am_lv X.2.1.1) hq (i32_add z n) hn rfl fun la' h' => ?_
  exact k p e R s m args below meth c Z K N C H locs cells slots la' ⟨X.1, ⟨am_set1 X.2.1.1 hn2 h', vok_s (wr_in _) X.2.1.2⟩, X.2.2⟩
theorem X_table {dflt lo hi z : Int} {offs : Array Int} {len : Nat} (hd : decode B.2.1 pc = .ok (.tableswitch dflt lo hi offs, len)) (tgt : Nat) (off : Int) (ho : (if z < lo ∨ hi < z then some dflt else offs[(z - lo).toNat]?) = some off) (ht : (pc : Int) + off = (tgt : Int)) (k : XJ l G B Q d tgt ls st S V mc ms) : XJ l G B Q d pc ls (vi z :: st) S V mc ms :=
  X_pure (fun p e R s m args below meth c Z H locs cells slots la hx hb hv hl k => by
    have hz : (Int32.ofInt z).toInt = z := i32_toInt (vok_h hv)
    split at ho
    · rename_i hc
      cases ho
      exact lv_tableOut hx hb hd (by rw [hz]; exact hc) ht k
    · rename_i hc
      exact lv_tableIn hx hb hd (by rw [hz]; omega) (by rw [hz]; omega) (by rw [hz]; exact ho) ht k) (fun h _ => vok_t h) k
theorem X_lookup {dflt z : Int} {ps : Array (Int × Int)} {len : Nat} (hd : decode B.2.1 pc = .ok (.lookupswitch dflt ps, len)) (hp : (ps.toList.zip (ps.toList.drop 1)).all (fun (a, next) => a.1 < next.1) = true) (tgt : Nat) (off : Int) (ho : Op.lookupswitch.offset ps.toList dflt z = off) (ht : (pc : Int) + off = (tgt : Int)) (k : XJ l G B Q d tgt ls st S V mc ms) : XJ l G B Q d pc ls (vi z :: st) S V mc ms :=
  X_pure (fun p e R s m args below meth c Z H locs cells slots la hx hb hv hl k => by
    have hz : (Int32.ofInt z).toInt = z := i32_toInt (vok_h hv)
    exact lv_lookup hx hb hd hp (by rw [hz]; exact ho) ht k) (fun h _ => vok_t h) k
end ROWS
