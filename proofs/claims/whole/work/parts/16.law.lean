/-! THE CLAIM OUT OF ONE WALK OF THE LAW'S BODY. Your part is whole_start (and what it stands on); all else here is the same for every law, but numbers. -/
def R_law : String := "SignalBookLaw"
def lw_P (b : Addr) (xs : List Int32) (args : Array Value) (s : State) : Prop := args = #[.ref b] ∧ s.IntsAt b xs ∧ xs.length ≤ 2560 ∧ (Jvm.Cond.and given_1 narrow_1).before args s = true
def lw_Q (_ : Array Value) (s : State) (o : Outcome) (t : State) : Prop := o = .returned (some (.int 1)) ∧ Framed s o t [] 600000 7302250
def lw_Z (below : List Frame) (a : Array Value) (s : State) : State → Prop := fun t => ∃ o, t.status = .running ∧ Ended t below o ∧ lw_Q a s o t
/-- the law's own end, with 1 on the stack, nothing written that was there before, its room as the claim has it -/
theorem lw_ret {p : Program} {l : Launch} {e : Env} {s : State} {m : MethodId} {below : List Frame} {meth : Method} {c : Code} {b : Nat} (hx : p.tables.exec = Jvm.exec) (hb : c.code = code) (hr : meth.sig.returnType = ret) (hlocks : meth.locks = false) {pc : Nat} {H : Heap} {ls : Array Slot} (hdg : decode code pc = .ok (.ireturn, 1)) : W p l e room_1 s m #[Value.ref b] below meth c H [] 600000 7302250 (lw_Z below #[Value.ref b] s) (F0 m pc ls [.int 1]) := by
  intro T hT X
  obtain ⟨fs, hret, hrun, hended, hW, hframe⟩ := X.leave (v := some (.int 1)) (hlocks := hlocks) (fun h => by rw [hr] at h; cases h)
  have hmeth' : T.vm.method? m = some meth := X.method'
  refine ⟨T.setFrames fs, ?_, .returned (some (.int 1)), hrun, hended, rfl, ⟨_, rfl⟩, hW, hframe⟩
  jvm_step X.here [X.here.top, hx, hb, hdg, hmeth', hr, ret, narrow_b1]
  (try refine ⟨rfl, ?_⟩); (try refine ⟨rfl, ?_⟩)
  first | (intro acts; rw [hret _ acts rfl rfl rfl]) | rw [hret _ _ rfl rfl rfl]
  exact Steps.refl _
/-- what holds at the law's entry: the machine, the code, the tables' words (any of lw_tbl by 'hts w (by decide +kernel)'), the script of L ints xs at the cell b, what the Statement gives of the start (any of its parts by flat_of_before) -/
def lw_At (p : Program) (s : State) (m : MethodId) (meth : Method) (c : Code) (b L : Nat) (xs : Nat → Int32) : Prop :=
  p.tables.exec = Jvm.exec ∧ c.code = code ∧ meth.sig.returnType = ret ∧ c.maxLocals = 4 ∧ s.vm.findClass R_law = some m.cls ∧ (∀ w ∈ lw_tbl, w.before #[Value.ref b] s = true) ∧ va_X b L xs s s.heap ∧ b < s.heap.size ∧ meth.locks = false ∧ (Jvm.Cond.and given_1 narrow_1).before #[Value.ref b] s = true ∧ meth.name = "law"
theorem RT_law {l : Launch} {G : GT} {p : Program} {e : Env} {s : State} {m : MethodId} {below : List Frame} {meth : Method} {c : Code} {b : Nat} (hG : G.1 = s.heap.size) (hx : p.tables.exec = Jvm.exec) (hb : c.code = code) (hr : meth.sig.returnType = ret) (hlocks : meth.locks = false) : RT l G bL_law (fun z _ _ => z = 1) p e room_1 s m #[Value.ref b] below meth c (lw_Z below #[Value.ref b] s) 600000 7302250 := by
  intro z S V H locs cells slots la pc hq hRP hVS hrk hc1 hc2 hdg
  subst hq
  refine va_forget (fun q hq => by have := hVS.2.2 q hq; rw [← hG]; exact this) ?_
  refine W.widen hc1 hc2 ?_
  exact lw_ret hx hb hr hlocks hdg
theorem lw_arr {args : Array Value} {s : State} {ty : FieldType} (h : (Cond.arrayClass ty).before args s = true) (hp : ty = .int ∨ ty = .byte ∨ ty = .long) : ∃ cA : ClassId, ArrOfT s cA ty ∧ va_RA s cA ty := by
  obtain ⟨cA, kA, comp, h1, h2, h3⟩ := Cond.arrayClass_spec h
  exact ⟨cA, fun n z => ⟨fun k h => (by cases h), kA, h2, comp, h3⟩, by rcases hp with rfl | rfl | rfl <;> exact h1⟩
theorem lw_arq {s : State} {C : String} (h : va_AO C s) : ∃ cA : ClassId, ArrOfT s cA (.object C) ∧ va_RA s cA (.object C) := by
  obtain ⟨comp, c, k, h1, h2, h3, h4, h5⟩ := Cond.arrayOver_spec h
  exact ⟨c, fun n z => ⟨fun k h => (by cases h), k, h3, comp, h4⟩, k, comp, h3, h4, h1, h5⟩
def js_tm (i : Nat) : Term := .string (js_own i) (js_idx i)
def js_bs : List Nat := [100, 170, 190, 258, 280, 292, 304, 319, 335, 353, 372, 390, 409, 430, 450, 472]
def js_ps : List Nat := [154, 475, 991, 1601, 1607, 1626, 1627, 1628, 1629, 1630, 1631, 1632, 1633, 1634, 1635, 1636]
abbrev js_fl : List Cond := flatC (Jvm.Cond.and given_1 narrow_1)
theorem js_1 : ∀ i, i < 16 → js_fl[js_bs.getD i 0]? = some (Cond.exactly (js_tm i) "java/lang/String") := by decide +kernel
theorem js_2 : ∀ i, i < 16 → js_fl[js_bs.getD i 0 + 1]? = some (Cond.eq (.field (js_tm i) "java/lang/String" "coder" "B") (.int 0)) := by decide +kernel
theorem js_3 : ∀ i, i < 16 → js_fl[js_bs.getD i 0 + 2]? = some (Cond.arrayOf (.field (js_tm i) "java/lang/String" "value" "[B") .byte) := by decide +kernel
theorem js_4 : ∀ i, i < 16 → js_fl[js_bs.getD i 0 + 3]? = some (Cond.eq (.length (.field (js_tm i) "java/lang/String" "value" "[B")) (.int (Int32.ofNat (js_len.getD i 0)))) := by decide +kernel
theorem js_5 : ∀ i, i < 16 → ∀ j, j < js_len.getD i 0 → js_fl[js_bs.getD i 0 + 4 + j]? = some (Cond.eq (.elem (.field (js_tm i) "java/lang/String" "value" "[B") (.int (Int32.ofNat j))) (.int ((js_byt.getD i []).getD j 0))) := by decide +kernel
def js_nt : List (List Nat) := [[0, 189, 256, 277, 288, 299, 313, 328, 345, 363, 380, 398, 418, 437, 458, 481], [0, 0, 257, 278, 289, 300, 314, 329, 346, 364, 381, 399, 419, 438, 459, 482], [0, 0, 0, 279, 290, 301, 315, 330, 347, 365, 382, 400, 420, 439, 460, 483], [0, 0, 0, 0, 291, 302, 316, 331, 348, 366, 383, 401, 421, 440, 461, 484], [0, 0, 0, 0, 0, 303, 317, 332, 349, 367, 384, 402, 422, 441, 462, 485], [0, 0, 0, 0, 0, 0, 318, 333, 350, 368, 385, 403, 423, 442, 463, 486], [0, 0, 0, 0, 0, 0, 0, 334, 351, 369, 386, 404, 424, 443, 464, 487], [0, 0, 0, 0, 0, 0, 0, 0, 352, 370, 387, 405, 425, 444, 465, 488], [0, 0, 0, 0, 0, 0, 0, 0, 0, 371, 388, 406, 426, 445, 466, 489], [0, 0, 0, 0, 0, 0, 0, 0, 0, 0, 389, 407, 427, 446, 467, 490], [0, 0, 0, 0, 0, 0, 0, 0, 0, 0, 0, 408, 428, 447, 468, 491], [0, 0, 0, 0, 0, 0, 0, 0, 0, 0, 0, 0, 429, 448, 469, 492], [0, 0, 0, 0, 0, 0, 0, 0, 0, 0, 0, 0, 0, 449, 470, 493], [0, 0, 0, 0, 0, 0, 0, 0, 0, 0, 0, 0, 0, 0, 471, 494], [0, 0, 0, 0, 0, 0, 0, 0, 0, 0, 0, 0, 0, 0, 0, 495], [0, 0, 0, 0, 0, 0, 0, 0, 0, 0, 0, 0, 0, 0, 0, 0]]
theorem js_6 : ∀ i, i < 16 → ∀ j, j < 16 → i < j → js_fl[(js_nt.getD i []).getD j 0]? = some (Cond.not (Cond.eq (js_tm i) (js_tm j))) := by decide +kernel
theorem js_7 : ∀ i, i < 16 → lw_tbl[js_ps.getD i 0]? = some (Cond.stringRef (js_own i) (js_idx i) (js_txt i)) := by decide +kernel
theorem js_8 : lw_tbl[312]? = some (.methodLinkNest RX11 31 yX10_init RX11) ∧ lw_tbl[358]? = some (.methodLinkNest RX11 57 yX4_init RX11) ∧ lw_tbl[539]? = some (.methodLinkNest RX5 40 yX0_init RX11) := by decide +kernel
theorem js_9 : ∀ C ∈ am_aos, Cond.arrayOver (.object C) ∈ lw_tbl := by decide +kernel
theorem js_10 : lw_tbl[164]? = some (.laysStatic "java/lang/String" "COMPACT_STRINGS" "Z") ∧ Cond.initialized "java/lang/String" ∈ lw_tbl ∧ js_fl[4]? = some (Cond.eq (.static "java/lang/String" "COMPACT_STRINGS" "Z") (.int 1)) := by decide +kernel
theorem js_12 : lw_tbl[180]? = some (.laysStatic "jdk/internal/util/Preconditions" "SIOOBE_FORMATTER" "Ljava/util/function/BiFunction;") ∧ Cond.initialized "jdk/internal/util/Preconditions" ∈ lw_tbl ∧ js_fl[5]? = some (Cond.isRef (.static "jdk/internal/util/Preconditions" "SIOOBE_FORMATTER" "Ljava/util/function/BiFunction;")) := by decide +kernel
theorem js_11 : ∀ i, i < 16 → js_len.getD i 0 < 2 ^ 31 := by decide +kernel
theorem am_sub {w : Cond} (h : w ∈ am_ws) : w ∈ lw_tbl := (List.mem_filter.mp h).1
theorem lw_cls {s : State} {args : Array Value} (ht : ∀ w ∈ am_ws, w.before args s = true) : ∀ c : Nat, ∃ x : ClassId × (Nat → Nat), ∀ q : vw_C, am_cl[c]? = some q → u_Kn s q.1 q.2.1 q.2.2 x.1 x.2 := by
  intro c
  cases hc : am_cl[c]? with
  | none => exact ⟨(0, fun _ => 0), fun q h => by cases h⟩
  | some q =>
    have hi : Cond.instantiable q.1 q.2.2 ∈ am_ws := by
      match c, hc with
      | 0, hc => cases hc; exact kn_0.1
      | 1, hc => cases hc; exact kn_1.1
      | 2, hc => cases hc; exact kn_2.1
      | 3, hc => cases hc; exact kn_3.1
      | 4, hc => cases hc; exact kn_4.1
      | 5, hc => cases hc; exact kn_5.1
      | 6, hc => cases hc; exact kn_6.1
      | 7, hc => cases hc; exact kn_7.1
      | 8, hc => cases hc; exact kn_8.1
      | 9, hc => cases hc; exact kn_9.1
      | 10, hc => cases hc; exact kn_10.1
      | 11, hc => cases hc; exact kn_11.1
      | 12, hc => cases hc; exact kn_12.1
      | n + 13, hc => simp [am_cl] at hc
    obtain ⟨cC, iS, h⟩ := u_known ht (cls_ok c q hc).1 (ht _ hi)
    exact ⟨(cC, iS), fun q' h' => by cases h'; exact h⟩
theorem lw_Kg {p : Program} {s : State} {m : MethodId} {meth : Method} {c : Code} {b L : Nat} {xs : Nat → Int32} (hL : L ≤ 2560) (C0 : lw_At p s m meth c b L xs) : ∃ G : GT, G.1 = s.heap.size ∧ G.2.2.2.2.2.1 = b ∧ G.2.2.2.2.2.2.1 = L ∧ Kg G s := by
  obtain ⟨hx, hb, hr, hml, hown, hts, hX, hbl, hlocks, hgv, hnm⟩ := id C0
  have ht : ∀ w ∈ am_ws, w.before #[Value.ref b] s = true := fun w hw => hts w (am_sub hw)
  have hA : ∀ a : Nat, a < s.heap.size → ¬ (fun q : Nat => s.heap.size ≤ q) a := fun a h q => by omega
  have hfl : ∀ c ∈ js_fl, c.before #[Value.ref b] s = true := flat_of_before _ hgv
  obtain ⟨f, hf⟩ := Classical.axiomOfChoice (lw_cls ht)
  have hao : ∀ C ∈ am_aos, va_AO C s := fun C hC => va_AO.of (hts _ (js_9 C hC))
  have har : ∀ t : Int, ∃ cA : ClassId, t ∈ am_ats → ArrOfT s cA (aty t) ∧ va_RA s cA (aty t) := by
    intro t
    by_cases h : t ∈ am_ats
    · have hq : ∀ C ∈ am_aos, aty t = .object C → ∃ cA : ClassId, t ∈ am_ats → ArrOfT s cA (aty t) ∧ va_RA s cA (aty t) := fun C hC e => by
        obtain ⟨cA, h1⟩ := lw_arq (hao C hC)
        exact ⟨cA, fun _ => by rw [e]; exact h1⟩
      have hp : ∀ ty, aty t = ty → (Cond.arrayClass ty) ∈ am_ws → (ty = .int ∨ ty = .byte ∨ ty = .long) → ∃ cA : ClassId, t ∈ am_ats → ArrOfT s cA (aty t) ∧ va_RA s cA (aty t) := fun ty e hm hty => by
        obtain ⟨cA, h1⟩ := lw_arr (ht _ hm) hty
        exact ⟨cA, fun _ => by rw [e]; exact h1⟩
      simp only [am_ats, List.mem_cons, List.not_mem_nil, or_false] at h
      rcases h with h | h | h | h | h | h | h | h | h | h <;> subst h
      · exact hp .int rfl k_arr.1 (Or.inl rfl)
      · exact hp .byte rfl k_arr.2.1 (Or.inr (Or.inl rfl))
      · exact hp .long rfl k_arr.2.2 (Or.inr (Or.inr rfl))
      · exact hq RX0 (by decide) rfl
      · exact hq RX2 (by decide) rfl
      · exact hq RX3 (by decide) rfl
      · exact hq RX4 (by decide) rfl
      · exact hq RX6 (by decide) rfl
      · exact hq RX7 (by decide) rfl
      · exact hq RX8 (by decide) rfl
    · exact ⟨0, fun q => absurd q h⟩
  obtain ⟨g, hg⟩ := Classical.axiomOfChoice har
  obtain ⟨adK, adV, hS, hev⟩ := vk_Sof (A := fun q : Nat => s.heap.size ≤ q) (args := #[Value.ref b]) (s := s) (N := 16) (tm := js_tm) (len := js_len) (byt := js_byt) js_11
    (fun i hi => hfl _ (List.mem_of_getElem? (js_1 i hi))) (fun i hi => hfl _ (List.mem_of_getElem? (js_2 i hi))) (fun i hi => hfl _ (List.mem_of_getElem? (js_3 i hi))) (fun i hi => hfl _ (List.mem_of_getElem? (js_4 i hi))) (fun i hi j hj => hfl _ (List.mem_of_getElem? (js_5 i hi j hj)))
    (fun i j hi hj hne => by
      rcases Nat.lt_or_gt_of_ne hne with h | h
      · exact Or.inl (hfl _ (List.mem_of_getElem? (js_6 i hi j hj h)))
      · exact Or.inr (hfl _ (List.mem_of_getElem? (js_6 j hj i hi h)))) hA
  refine ⟨(s.heap.size, (fun c => (f c).1, fun c => (f c).2), g, adK, adV, b, L, xs), rfl, rfl, rfl, ⟨fun c q hq => hf c q hq, fun k q h => by simp at h⟩, fun t h => hg t h, fun i hi => vk_R.of (hts _ (List.mem_of_getElem? (js_7 i hi))) (hev i hi), hS, ?_, ?_, hao, hX, hbl, Nat.le_refl _, hL, ?_⟩
  · exact va_Zof (hts _ (List.mem_of_getElem? js_10.1)) (hts _ js_10.2.1) (va_eqi (hfl _ (List.mem_of_getElem? js_10.2.2))) hA
  · exact ⟨va_Nw.of rfl (hts _ (List.mem_of_getElem? js_8.1)), va_Nw.of rfl (hts _ (List.mem_of_getElem? js_8.2.1)), va_Nw.of rfl (hts _ (List.mem_of_getElem? js_8.2.2))⟩
  · exact va_Zqof (hts _ (List.mem_of_getElem? js_12.1)) (hts _ js_12.2.1) (hfl _ (List.mem_of_getElem? js_12.2.2)) hA
/-- the law's own body: what is left to prove -/
def LawOK : Prop := ∀ (l : Launch) (G : GT), G.2.2.2.2.2.2.1 ≤ 2560 → XJ l G bL_law (fun z _ _ => z = 1) 2048 0 [vr ((G.2.2.2.2.2.1 : Int) + 1), vu, vu, vu] [] ((fun _ => 0), (fun _ => 0), (G.1 : Int)) (fun _ _ => 0) 600000 7302250
theorem whole_from (hlaw : LawOK) {p : Program} {e : Env} {s : State} {m : MethodId} {below : List Frame} {meth : Method} {c : Code} (l : Launch) {b L : Nat} {xs : Nat → Int32} (hL : L ≤ 2560) (C0 : lw_At p s m meth c b L xs) : W p l e room_1 s m #[Value.ref b] below meth c s.heap [] 0 0 (lw_Z below #[Value.ref b] s) (entryFrame m ([Value.ref b] : List Value).toArray 4) := by
  obtain ⟨G, hG1, hG2, hG3, hK⟩ := lw_Kg hL C0
  obtain ⟨hx, hb, hr, hml, hown, hts, hX, hbl, hlocks, hgv, hnm⟩ := id C0
  have ht : ∀ w ∈ am_ws, w.before #[Value.ref b] s = true := fun w hw => hts w (am_sub hw)
  rw [lg_entry_eq]
  have h0 := hlaw l G (by rw [hG3]; exact hL) p e room_1 s m #[Value.ref b] below meth c (lw_Z below #[Value.ref b] s) 600000 7302250 ?_ s.heap [] 0 0 ((lg_sl ([Value.ref b] : List Value) ++ List.replicate (4 - (lg_sl ([Value.ref b] : List Value)).length) Slot.unset).toArray) ?_
  · exact h0
  · exact ⟨⟨hx, hb, hml, hown, ht, hnm⟩, hK, ⟨by decide, by decide, by decide, by decide⟩, RT_law hG1 hx hb hr hlocks⟩
  · refine ⟨⟨⟨hG1 ▸ rfl, fun r h => absurd rfl h, fun r ci q hq h => ?_, fun r t ht2 h => ?_⟩, va_S.rf, by decide, by decide⟩, ⟨?_, ?_⟩, fun v h => by cases h⟩
    · exact absurd h (by show ¬ (0 : Int) = _; omega)
    · have := ats_ge ht2; exact absurd h (by show ¬ (0 : Int) = _; omega)
    · have he := am_entry (as := [vr ((G.2.2.2.2.2.1 : Int) + 1)]) (n := 4) (Nat.le_of_ble_eq_true rfl)
      have e1 : ([vr ((G.2.2.2.2.2.1 : Int) + 1)] : List AV).map tv = [Value.ref b] := by
        rw [List.map_cons, List.map_nil, show tv (vr ((G.2.2.2.2.2.1 : Int) + 1)) = rv _ from rfl, rv_pos (by omega), show ((G.2.2.2.2.2.1 : Int) + 1 - 1).toNat = G.2.2.2.2.2.1 by omega, hG2]
      rw [e1] at he
      exact he
    · intro v hv
      simp only [List.mem_cons, List.not_mem_nil, or_false] at hv
      rcases hv with rfl | rfl | rfl | rfl
      · show 0 ≤ _; omega
      · trivial
      · trivial
      · trivial
