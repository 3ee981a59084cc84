/-! ===== calls, and a method's contract out of its body ===== -/
def mOK (B : BT) (n : Nat) : Prop := Cond.code B.1 B.2.1 B.2.2.1 B.2.2.2 ∈ am_ws ∧ Cond.initialized B.1.cls ∈ am_ws ∧ (B.1.cls ≠ "java/lang/invoke/MethodHandle" ∧ B.1.cls ≠ "java/lang/invoke/VarHandle" ∧ (parseMethodDescriptor B.1.desc).map (fun d => d.parameters.length) = some n) ∧ B.2.2.1 ≤ 21 ∧ plainName B.1.cls = true
def mV (B : BT) (n : Nat) : Prop := mOK B n ∧ Cond.instanceMethod B.1 ∈ am_ws ∧ Cond.selects B.1.cls B.1 B.1 ∈ am_ws
def mS (B : BT) (n : Nat) : Prop := mOK B n ∧ Cond.static B.1 ∈ am_ws
def mI (B : BT) (n : Nat) : Prop := mOK B n ∧ Cond.instanceMethod B.1 ∈ am_ws ∧ B.1.name = "<init>" ∧ B.2.2.2 = none
def rav (r : Option FieldType) (z : Int) : List AV := match r with
  | none => []
  | some ty => [av ty z]
theorem rav_map (r : Option FieldType) (z : Int) (st : List AV) : (rav r z ++ st).map tv = (retO r z).toList ++ st.map tv := by
  cases r with
  | none => rfl
  | some ty => simp [rav, retO, tv_av]
theorem rav_ok {r : Option FieldType} {z : Int} (h : retK r z) {st : List AV} (hs : ∀ v ∈ st, vok v) : ∀ v ∈ rav r z ++ st, vok v := by
  cases r with
  | none => exact hs
  | some ty => exact vok_c (vok_av h) hs
theorem Pct_blind {G : GT} {as : List AV} {S : Sh} {V : Mem} : FrameBlind (Pct G as S V) := fun a U g mk h => ⟨h.1, h.2.1.same rfl rfl, h.2.2.1, h.2.2.2⟩
section CALLS
variable {l : Launch} {G : GT} {B : BT} {Q : Int → Sh → Mem → Prop} {d pc : Nat} {ls st : List AV} {S : Sh} {V : Mem} {mc ms : Nat}
theorem Pct_at {s U : State} {as : List AV} {H : Heap} {locs : List Loc} (hK : Kg G s) (hP : RP G S V H) (hVS : va_S (gA G) s.heap H locs) (ho : ∀ v ∈ as, vok v) (hU : U.heap = H) (hW : s.WarmedH U.vm) : Pct G as S V (as.map tv).toArray U :=
  ⟨rfl, hK.warm hW (by rw [hU]; exact hVS.1) (fun q a b => by rw [hU]; exact hVS.2.1 q a b), by rw [hU]; exact hP, ho⟩
theorem X_after {B' : BT} {Q1 : Int → Sh → Mem → Prop} {mc1 ms1 : Nat} {vs : Array Value} {p : Program} {e : Env} {R : Room} {s : State} {m : MethodId} {args : Array Value} {below : List Frame} {meth : Method} {c : Code} {Z : State → Prop} {K N : Nat} {H : Heap} {locs : List Loc} {cells slots : Nat} {la : Array Slot} {stk : List Value}
    (C : CX l G B Q d p e R s m args below meth c Z K N) (hVS : va_S (gA G) s.heap H locs) (hc1 : cells + mc ≤ K) (hc2 : slots + ms ≤ N) (hm1 : mc1 ≤ mc) (hm2 : ms1 ≤ ms) (hL : am_has la B.2.2.1 ls ∧ ∀ v ∈ ls, vok v) (hO : ∀ v ∈ st, vok v)
    (hr : va_Run p l e R s m args below meth c H locs cells slots mc1 ms1 (F0 m pc la stk) (st.map tv) (Qct G B' Q1 vs) (gA G))
    (k : ∀ z S' V', Q1 z S' V' → XJ l G B Q d (pc + 3) ls (rav B'.2.2.2 z ++ st) S' V' (mc - mc1) (ms - ms1)) : W p l e R s m args below meth c H locs cells slots Z (F0 m pc la stk) := by
  intro T hT X
  obtain ⟨v, st₀, t, T', L, h0, X', hL', e1, e2, ⟨z, S', V', hv, hq, hRP, hrk, hF⟩, stp⟩ := hr T hT X
  have hv : v = retO B'.2.2.2 z := Outcome.returned.inj hv
  subst hv
  rw [← e1] at hRP
  have hz : H.size ≤ T'.heap.size := by rw [e1, ← h0]; exact hF.1
  have hk' : ∀ q : Nat, q < H.size → ¬ gA G q → T'.heap[q]? = H[q]? := fun q a b => by rw [e1, ← h0]; exact hF.2 q (by rw [h0]; exact a) b
  have hk := k z S' V' hq p e R s m args below meth c Z K N C T'.heap (locs ++ L) (cells + mc1) (slots + ms1) la ⟨⟨hRP, ⟨Nat.le_trans hVS.1 hz, fun q a b => (hk' q (Nat.lt_of_lt_of_le a hVS.1) b).trans (hVS.2.1 q a b), fun q hq => by
    rcases List.mem_append.mp hq with h | h
    · exact hVS.2.2 q h
    · exact hL' q h⟩, by omega, by omega⟩, hL, rav_ok hrk hO⟩
  rw [rav_map] at hk
  obtain ⟨t2, a1, b1⟩ := hk T' rfl X'
  exact ⟨t2, stp t2 a1, b1⟩
theorem st_room {la : Array Slot} {m : MethodId} {stk : List Value} (h : st.length ≤ 4) : 2 * (F0 m pc la stk).monitorRoom + ((st.map tv).map fun v => v.category).sum ≤ 8 := by
  have := cat_le st
  show 2 * 0 + _ ≤ 8
  omega
theorem split_ok {as : List AV} {v : AV} (h : ∀ w ∈ as.reverse ++ v :: st, vok w) : (∀ w ∈ v :: as, vok w) ∧ ∀ w ∈ st, vok w := by
  refine ⟨fun w hw => h w ?_, fun w hw => h w ?_⟩
  · rcases List.mem_cons.mp hw with rfl | hw
    · simp
    · simp [hw]
  · simp [hw]
theorem X_invV {B' : BT} {r : Int} {as stk : List AV} {n idx ci : Nat} {q : vw_C} (hm : mV B' n) (hd : decode B.2.1 pc = .ok (.invokevirtual idx, 3)) (hl : Cond.methodLink B.1.cls idx B'.1 ∈ am_ws) (hs : stk = as.reverse ++ vr r :: st) (hn : as.length = n) (hst : st.length ≤ 4) (hq : am_cl[ci]? = some q) (hcl : B'.1.cls = q.1) (hT : S.1 r = ci + 1)
    (k : CT l G B' d mc ms (vr r :: as) S V (fun z S' V' mc' ms' => XJ l G B Q d (pc + 3) ls (rav B'.2.2.2 z ++ st) S' V' mc' ms')) : XJ l G B Q d pc ls stk S V mc ms := by
  subst hs
  intro p e R s m args below meth c Z K N C H locs cells slots la X
  obtain ⟨⟨hx, hb, hml, hown, hts, hnm⟩, hK, hR, hRt⟩ := id C
  obtain ⟨⟨hP, hVS, hc1, hc2⟩, hL, hO⟩ := X
  obtain ⟨d1, mc1, ms1, Q1, hd1, hm1, hm2, hct, kk⟩ := k
  obtain ⟨⟨w1, w2, w3, w4, w5⟩, w6, w7⟩ := hm
  obtain ⟨ho1, ho2⟩ := split_ok hO
  have hpos := hP.pos (r := r) (by rw [hT]; omega)
  obtain ⟨⟨cell, g1, g2, g3, -⟩, -⟩ := hP.2.2.1 r ci q hq hT
  have hG : GoodIn am_ws (wsV B.1.cls idx B'.1.cls B'.1 (Cond.code B'.1 B'.2.1 B'.2.2.1 B'.2.2.2 :: am_ws)) := am_good fun w hw => by
    simp only [wsV, List.cons_append, List.nil_append, List.mem_cons] at hw
    rcases hw with rfl | rfl | rfl | rfl | rfl | hw
    · exact hl
    · exact w6
    · exact w7
    · exact w2
    · exact w1
    · exact hw
  have hrv : tv (vr r) = .ref (r - 1).toNat := rv_pos hpos
  refine X_after C hVS hc1 hc2 hm1 hm2 hL ho2 (va_runV (C := B'.1.cls) (As := as.map tv) (b := (r - 1).toNat) (rest := st.map tv) ⟨hx, hb, hml, hown, hts⟩ hct (cwV n hts hG rfl rfl rfl ⟨rfl, w3⟩ ⟨by show d1 + 1 ≤ _; omega, by show 8 + _ + 40 * d1 ≤ _; omega⟩) ⟨Pct_blind, ⟨cell, g1, by rw [g3]; rfl, by rw [g2, hcl]; exact (hK.1.1 ci q hq).2.1⟩, fun U hU hW => ?_⟩ rfl (by simpa using hn) hL.1.1 (by simp [hrv]) (st_room hst) hd ⟨by omega, by omega⟩) kk
  have := Pct_at hK hP hVS ho1 hU hW
  rw [List.map_cons, hrv] at this
  exact this
theorem X_invStr {B' : BT} {i : Nat} {as stk : List AV} {n idx : Nat} (hm : mV B' n) (hd : decode B.2.1 pc = .ok (.invokevirtual idx, 3)) (hl : Cond.methodLink B.1.cls idx B'.1 ∈ am_ws) (hs : stk = as.reverse ++ vr ((G.2.2.2.1 i : Int) + 1) :: st) (hn : as.length = n) (hst : st.length ≤ 4) (hi : i < 16) (hcl : B'.1.cls = "java/lang/String")
    (k : CT l G B' d mc ms (vr ((G.2.2.2.1 i : Int) + 1) :: as) S V (fun z S' V' mc' ms' => XJ l G B Q d (pc + 3) ls (rav B'.2.2.2 z ++ st) S' V' mc' ms')) : XJ l G B Q d pc ls stk S V mc ms := by
  subst hs
  intro p e R s m args below meth c Z K N C H locs cells slots la X
  obtain ⟨⟨hx, hb, hml, hown, hts, hnm⟩, hK, hR, hRt⟩ := id C
  obtain ⟨⟨hP, hVS, hc1, hc2⟩, hL, hO⟩ := X
  obtain ⟨d1, mc1, ms1, Q1, hd1, hm1, hm2, hct, kk⟩ := k
  obtain ⟨⟨w1, w2, w3, w4, w5⟩, w6, w7⟩ := hm
  obtain ⟨ho1, ho2⟩ := split_ok hO
  have hG : GoodIn am_ws (wsV B.1.cls idx B'.1.cls B'.1 (Cond.code B'.1 B'.2.1 B'.2.2.1 B'.2.2.2 :: am_ws)) := am_good fun w hw => by
    simp only [wsV, List.cons_append, List.nil_append, List.mem_cons] at hw
    rcases hw with rfl | rfl | rfl | rfl | rfl | hw
    · exact hl
    · exact w6
    · exact w7
    · exact w2
    · exact w1
    · exact hw
  have hrv : tv (vr ((G.2.2.2.1 i : Int) + 1)) = .ref (G.2.2.2.1 i) := by
    show rv _ = _
    rw [rv_pos (by omega), show ((G.2.2.2.1 i : Int) + 1 - 1).toNat = G.2.2.2.1 i by omega]
  have hrec := vk_recv hK.2.2.2.1 hi hVS
  refine X_after C hVS hc1 hc2 hm1 hm2 hL ho2 (va_runV (C := B'.1.cls) (As := as.map tv) (b := G.2.2.2.1 i) (rest := st.map tv) ⟨hx, hb, hml, hown, hts⟩ hct (cwV n hts hG rfl rfl rfl ⟨rfl, w3⟩ ⟨by show d1 + 1 ≤ _; omega, by show 8 + _ + 40 * d1 ≤ _; omega⟩) ⟨Pct_blind, by rw [hcl]; exact hrec, fun U hU hW => ?_⟩ rfl (by simpa using hn) hL.1.1 (by simp [hrv]) (st_room hst) hd ⟨by omega, by omega⟩) kk
  have := Pct_at hK hP hVS ho1 hU hW
  rw [List.map_cons, hrv] at this
  exact this
theorem X_invS {B' : BT} {as stk : List AV} {n idx : Nat} (hm : mS B' n) (hd : decode B.2.1 pc = .ok (.invokestatic idx, 3)) (hl : Cond.methodLink B.1.cls idx B'.1 ∈ am_ws) (hs : stk = as.reverse ++ st) (hn : as.length = n) (hst : st.length ≤ 4)
    (k : CT l G B' d mc ms as S V (fun z S' V' mc' ms' => XJ l G B Q d (pc + 3) ls (rav B'.2.2.2 z ++ st) S' V' mc' ms')) : XJ l G B Q d pc ls stk S V mc ms := by
  subst hs
  intro p e R s m args below meth c Z K N C H locs cells slots la X
  obtain ⟨⟨hx, hb, hml, hown, hts, hnm⟩, hK, hR, hRt⟩ := id C
  obtain ⟨⟨hP, hVS, hc1, hc2⟩, hL, hO⟩ := X
  obtain ⟨d1, mc1, ms1, Q1, hd1, hm1, hm2, hct, kk⟩ := k
  obtain ⟨⟨w1, w2, w3, w4, w5⟩, w6⟩ := hm
  have ho1 : ∀ w ∈ as, vok w := fun w hw => hO w (by simp [hw])
  have ho2 : ∀ w ∈ st, vok w := fun w hw => hO w (by simp [hw])
  have hG : GoodIn am_ws (Cond.code B'.1 B'.2.1 B'.2.2.1 B'.2.2.2 :: am_ws) := am_good fun w hw => by
    rcases List.mem_cons.mp hw with rfl | hw
    · exact w1
    · exact hw
  refine X_after C hVS hc1 hc2 hm1 hm2 hL ho2 (va_runS (As := as.map tv) (rest := st.map tv) ⟨hx, hb, hml, hown, hts⟩ hct ⟨callB_of n hts hG rfl rfl rfl (hts _ w2) (hts _ hl) w3 ⟨by show d1 + 1 ≤ _; omega, by show 8 + _ + 40 * d1 ≤ _; omega⟩, hts _ w6⟩ ⟨Pct_blind, fun U hU hW => Pct_at hK hP hVS ho1 hU hW⟩ rfl (by simpa using hn) hL.1.1 (by simp) (st_room hst) hd ⟨by omega, by omega⟩) kk
theorem X_invI {B' : BT} {r : Int} {as stk : List AV} {n idx : Nat} (hm : mI B' n) (hd : decode B.2.1 pc = .ok (.invokespecial idx, 3)) (hl : Cond.methodLink B.1.cls idx B'.1 ∈ am_ws) (hs : stk = as.reverse ++ vr r :: st) (hn : as.length = n) (hst : st.length ≤ 4) (hr : r ≠ 0)
    (k : CT l G B' d mc ms (vr r :: as) S V (fun _ S' V' mc' ms' => XJ l G B Q d (pc + 3) ls st S' V' mc' ms')) : XJ l G B Q d pc ls stk S V mc ms := by
  subst hs
  intro p e R s m args below meth c Z K N C H locs cells slots la X
  obtain ⟨⟨hx, hb, hml, hown, hts, hnm⟩, hK, hR, hRt⟩ := id C
  obtain ⟨⟨hP, hVS, hc1, hc2⟩, hL, hO⟩ := X
  obtain ⟨d1, mc1, ms1, Q1, hd1, hm1, hm2, hct, kk⟩ := k
  obtain ⟨⟨w1, w2, w3, w4, w5⟩, w6, w7, w8⟩ := hm
  obtain ⟨ho1, ho2⟩ := split_ok hO
  have hG : GoodIn am_ws (Cond.code B'.1 B'.2.1 B'.2.2.1 B'.2.2.2 :: am_ws) := am_good fun w hw => by
    rcases List.mem_cons.mp hw with rfl | hw
    · exact w1
    · exact hw
  have h0 : 0 ≤ r := vok_h ho1
  have hrv : tv (vr r) = .ref (r - 1).toNat := rv_pos (by omega)
  have hcw := callB_of (R := R) (args := args) (s := s) (own := B.1.cls) (index := idx) (y := B'.1) n hts hG rfl (rm := { frames := d1, cells := mc1, slots := ms1, locals := 40 * d1 }) rfl rfl (hts _ w2) (hts _ hl) w3 ⟨by show d1 + 1 ≤ _; omega, by show 8 + _ + 40 * d1 ≤ _; omega⟩
  have k' : ∀ z S' V', Q1 z S' V' → XJ l G B Q d (pc + 3) ls (rav B'.2.2.2 z ++ st) S' V' (mc - mc1) (ms - ms1) := fun z S' V' h => by
    rw [w8]; exact kk z S' V' h
  unfold Ct at hct
  rw [w8] at hct hcw
  refine X_after (B' := B') C hVS hc1 hc2 hm1 hm2 hL ho2 (va_runI (As := as.map tv) (b := (r - 1).toNat) (rest := st.map tv) ⟨hx, hb, hml, hown, hts⟩ hct ⟨hcw, w7, hts _ w6⟩ ⟨Pct_blind, fun U hU hW => ?_⟩ rfl (by simpa using hn) hL.1.1 (by simp [hrv]) (st_room hst) hd ⟨by omega, by omega⟩) k'
  have := Pct_at hK hP hVS ho1 hU hW
  rw [List.map_cons, hrv] at this
  exact this
theorem X_invIN {B' : BT} {r : Int} {as stk : List AV} {n idx : Nat} {host : String} (hm : mI B' n) (hd : decode B.2.1 pc = .ok (.invokespecial idx, 3)) (hl : ∀ U : State, Kg G U → va_Nw (.methodLinkNest B.1.cls idx B'.1 host) U) (hs : stk = as.reverse ++ vr r :: st) (hn : as.length = n) (hst : st.length ≤ 4) (hr : r ≠ 0)
    (k : CT l G B' d mc ms (vr r :: as) S V (fun _ S' V' mc' ms' => XJ l G B Q d (pc + 3) ls st S' V' mc' ms')) : XJ l G B Q d pc ls stk S V mc ms := by
  subst hs
  intro p e R s m args below meth c Z K N C H locs cells slots la X
  obtain ⟨⟨hx, hb, hml, hown, hts, hnm⟩, hK, hR, hRt⟩ := id C
  obtain ⟨⟨hP, hVS, hc1, hc2⟩, hL, hO⟩ := X
  obtain ⟨d1, mc1, ms1, Q1, hd1, hm1, hm2, hct, kk⟩ := k
  obtain ⟨⟨w1, w2, w3, w4, w5⟩, w6, w7, w8⟩ := hm
  obtain ⟨ho1, ho2⟩ := split_ok hO
  have hG : GoodIn am_ws (Cond.code B'.1 B'.2.1 B'.2.2.1 B'.2.2.2 :: am_ws) := am_good fun w hw => by
    rcases List.mem_cons.mp hw with rfl | hw
    · exact w1
    · exact hw
  have h0 : 0 ≤ r := vok_h ho1
  have hrv : tv (vr r) = .ref (r - 1).toNat := rv_pos (by omega)
  have hcw := va_cnB (R := R) (args := args) (s := s) (own := B.1.cls) (index := idx) (y := B'.1) n hts hG rfl (rm := { frames := d1, cells := mc1, slots := ms1, locals := 40 * d1 }) rfl rfl (hl s hK) (hts _ w2) w3 ⟨by show d1 + 1 ≤ _; omega, by show 8 + _ + 40 * d1 ≤ _; omega⟩
  have k' : ∀ z S' V', Q1 z S' V' → XJ l G B Q d (pc + 3) ls (rav B'.2.2.2 z ++ st) S' V' (mc - mc1) (ms - ms1) := fun z S' V' h => by
    rw [w8]; exact kk z S' V' h
  unfold Ct at hct
  rw [w8] at hct hcw
  refine X_after (B' := B') C hVS hc1 hc2 hm1 hm2 hL ho2 (va_runIN (As := as.map tv) (b := (r - 1).toNat) (rest := st.map tv) ⟨hx, hb, hml, hown, hts⟩ hct ⟨hcw, w7, hts _ w6⟩ ⟨Pct_blind, fun U hU hW => ?_⟩ rfl (by simpa using hn) hL.1.1 (by simp [hrv]) (st_room hst) hd ⟨by omega, by omega⟩) k'
  have := Pct_at hK hP hVS ho1 hU hW
  rw [List.map_cons, hrv] at this
  exact this
end CALLS
