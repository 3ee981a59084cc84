def swp (V : Mem) (r : Int) (f : Int → Int) : Mem := fun a b => if a = r then f b else V a b
theorem swp_eq {V : Mem} {r b : Int} {f : Int → Int} : swp V r f r b = f b := if_pos rfl
theorem swp_ne {V : Mem} {r a b : Int} {f : Int → Int} (h : a ≠ r) : swp V r f a b = V a b := if_neg h
theorem rv_or (z : Int) : rv z = .null ∨ ∃ a, rv z = .ref a := by
  unfold rv; split
  · exact Or.inl rfl
  · exact Or.inr ⟨_, rfl⟩
def ent0 : List AV → List AV
  | [] => []
  | .inr (.inl z) :: t => vl z :: vu :: ent0 t
  | .inl z :: t => vi z :: ent0 t
  | .inr (.inr x) :: t => .inr (.inr x) :: ent0 t
def ent (n : Nat) (as : List AV) : List AV := ent0 as ++ List.replicate (n - (ent0 as).length) vu
theorem lg_cons (v : Value) (vs : List Value) : lg_sl (v :: vs) = (if v.category = 2 then [.val v, .second] else [.val v]) ++ lg_sl vs := by simp [lg_sl]
theorem ent_len : ∀ as : List AV, (lg_sl (as.map tv)).length = (ent0 as).length
  | [] => rfl
  | .inr (.inl z) :: t => by
    rw [List.map_cons, lg_cons, if_pos (show (tv (vl z)).category = 2 from rfl)]
    simp [ent0, ent_len t]
  | .inl z :: t => by
    rw [List.map_cons, lg_cons, if_neg (by simp [tv, Value.category])]
    simp [ent0, ent_len t]
  | .inr (.inr (.inl r)) :: t => by
    rw [List.map_cons, lg_cons, if_neg (by show ¬ (rv r).category = 2; rw [rv_cat]; decide)]
    simp [ent0, ent_len t]
  | .inr (.inr (.inr _)) :: t => by
    rw [List.map_cons, lg_cons, if_neg (by simp [tv, Value.category])]
    simp [ent0, ent_len t]
theorem ent_at : ∀ {as : List AV} {i : Nat} {v : AV}, (ent0 as)[i]? = some v → v ≠ vu → (lg_sl (as.map tv))[i]? = some (.val (tv v))
  | [], _, _, h, _ => by simp [ent0] at h
  | .inr (.inl z) :: t, i, v, h, hv => by
    rw [List.map_cons, lg_cons, if_pos (show (tv (vl z)).category = 2 from rfl)]
    match i, h with
    | 0, h => have : vl z = v := by simpa [ent0] using h
              subst this; rfl
    | 1, h => have : vu = v := by simpa [ent0] using h
              exact absurd this.symm hv
    | i + 2, h => have h' : (ent0 t)[i]? = some v := by simpa [ent0] using h
                  simpa using ent_at h' hv
  | .inl z :: t, i, v, h, hv => by
    rw [List.map_cons, lg_cons, if_neg (by simp [tv, Value.category])]
    match i, h with
    | 0, h => have : vi z = v := by simpa [ent0] using h
              subst this; rfl
    | i + 1, h => have h' : (ent0 t)[i]? = some v := by simpa [ent0] using h
                  simpa using ent_at h' hv
  | .inr (.inr (.inl r)) :: t, i, v, h, hv => by
    rw [List.map_cons, lg_cons, if_neg (by show ¬ (rv r).category = 2; rw [rv_cat]; decide)]
    match i, h with
    | 0, h => have : vr r = v := by simpa [ent0] using h
              subst this; rfl
    | i + 1, h => have h' : (ent0 t)[i]? = some v := by simpa [ent0] using h
                  simpa using ent_at h' hv
  | .inr (.inr (.inr u)) :: t, i, v, h, hv => by
    rw [List.map_cons, lg_cons, if_neg (by simp [tv, Value.category])]
    match i, h with
    | 0, h => have : (.inr (.inr (.inr u)) : AV) = v := by simpa [ent0] using h
              subst this; rfl
    | i + 1, h => have h' : (ent0 t)[i]? = some v := by simpa [ent0] using h
                  simpa using ent_at h' hv
theorem ent_ok : ∀ {as : List AV}, (∀ v ∈ as, vok v) → ∀ v ∈ ent0 as, vok v
  | [], _ => fun v h => by simp [ent0] at h
  | .inr (.inl z) :: t, h => by
    show ∀ v ∈ vl z :: vu :: ent0 t, vok v
    exact vok_c (vok_h h) (vok_c trivial (ent_ok (vok_t h)))
  | .inl z :: t, h => by
    show ∀ v ∈ vi z :: ent0 t, vok v
    exact vok_c (vok_h h) (ent_ok (vok_t h))
  | .inr (.inr x) :: t, h => by
    show ∀ v ∈ .inr (.inr x) :: ent0 t, vok v
    exact vok_c (vok_h h) (ent_ok (vok_t h))
theorem am_entry {as : List AV} {n : Nat} (h : (ent0 as).length ≤ n) : am_has ((lg_sl (as.map tv) ++ List.replicate (n - (lg_sl (as.map tv)).length) Slot.unset).toArray) n (ent n as) := by
  have hl := lv_entry (as.map tv) (n := n) (by rw [ent_len]; exact h)
  refine ⟨hl.1, hl.2.1, by simp [ent]; omega, fun i v hi hv => ?_⟩
  unfold ent at hi
  by_cases hlt : i < (ent0 as).length
  · rw [List.getElem?_append_left hlt] at hi
    have h1 := ent_at hi hv
    rw [List.getElem?_toArray, List.getElem?_append_left (by rw [ent_len]; exact hlt)]
    exact h1
  · rw [List.getElem?_append_right (by omega)] at hi
    exact absurd (List.eq_of_mem_replicate (List.mem_of_getElem? hi)) hv
section BODY
variable {l : Launch} {G : GT} {B : BT} {Q : Int → Sh → Mem → Prop} {d : Nat} {S : Sh} {V : Mem} {mc ms : Nat}
def retOK (r : Option FieldType) : Prop := match r with
  | none => True
  | some .int => True
  | some .long => True
  | some .boolean => True
  | some .byte => True
  | some .char => True
  | some (.object _) => True
  | some (.array _) => True
  | _ => False
theorem RT_of {p : Program} {e : Env} {R : Room} {s : State} {m : MethodId} {args : Array Value} {below : List Frame} {meth : Method} {c : Code} {K N : Nat} (hr : retOK B.2.2.2) (hx : p.tables.exec = Jvm.exec) (hb : c.code = B.2.1) (hret : meth.sig.returnType = B.2.2.2) (hlocks : meth.locks = false) : RT l G B Q p e R s m args below meth c (MQ below (Qct G B Q) args s K N (gA G)) K N := by
  intro z S V H locs cells slots la pc hq hRP hVS hrk hc1 hc2 hdg
  refine W.widen hc1 hc2 ?_
  have hQ : ∀ t : State, t.heap = H → s.WarmedH t.vm → Qct G B Q args s (.returned (retO B.2.2.2 z)) t := fun t ht _ => ⟨z, S, V, rfl, hq, by rw [ht]; exact hRP, hrk, hVS.F ht⟩
  have hf : ∀ q ∈ locs, gA G q.base := hVS.2.2
  obtain ⟨y, cc, nL, rt⟩ := B
  dsimp only at *
  match rt, hr, hret, hrk, hdg, hQ with
  | none, _, hret, _, hdg, hQ => exact W.vret hx hb hret hQ hf hdg hlocks
  | some .int, _, hret, _, hdg, hQ => exact W.iret hx hb hret hQ hf hdg hlocks
  | some .long, _, hret, _, hdg, hQ => exact W.lret hx hb hret hQ hf hdg hlocks
  | some .boolean, _, hret, hrk, hdg, hQ => exact W.zret hx hb hret (by rcases hrk with h | h <;> subst h <;> rfl) hQ hf hdg hlocks
  | some .byte, _, hret, hrk, hdg, hQ =>
    have h1 : wb z = z := wb_id hrk.1 hrk.2
    exact W.zret hx hb hret (by rw [narrow_byte, i32_wb, h1]) hQ hf hdg hlocks
  | some .char, _, hret, hrk, hdg, hQ =>
    have h1 : wc z = z := by unfold wc; have := hrk.1; have := hrk.2; omega
    exact W.zret hx hb hret (by have := pk_nc (Int32.ofInt z); rw [i32_wc, h1] at this; exact this) hQ hf hdg hlocks
  | some (.object n), _, hret, _, hdg, hQ => exact W.aret hx hb hret (Or.inl ⟨n, rfl⟩) (rv_or z) hQ hf hdg hlocks
  | some (.array t), _, hret, _, hdg, hQ => exact W.aret hx hb hret (Or.inr ⟨t, rfl⟩) (rv_or z) hQ hf hdg hlocks
theorem Ct.of {n : Nat} {as : List AV} (hm : mOK B n) (hr : retOK B.2.2.2) (hlen : (ent0 as).length ≤ B.2.2.1) (k : (∀ v ∈ as, vok v) → XJ l G B Q d 0 (ent B.2.2.1 as) [] S V mc ms) : Ct l G B Q d mc ms as S V := by
  unfold Ct
  refine Met.ofW (cc := B.2.1) (maxL := B.2.2.1) (ret := B.2.2.2) hm.2.2.2.2 rfl ?_
  intro p e s m args below meth c s₁ Bd hml hv
  obtain ⟨rfl, hK, hP, hO⟩ := hv
  have hts := atoms_spec (ws := Cond.code B.1 B.2.1 B.2.2.1 B.2.2.2 :: am_ws) Bd.pre
  rw [lg_entry_eq]
  have C : CX l G B Q d p e (headSpec (Cond.code B.1 B.2.1 B.2.2.1 B.2.2.2 :: am_ws) { frames := d, cells := mc, slots := ms, locals := 40 * d }).room s m (as.map tv).toArray below meth c (MQ below (Qct G B Q) (as.map tv).toArray s mc ms (gA G)) mc ms :=
    ⟨⟨Bd.exec, Bd.bytes, hml, findClass_of_methodNamed Bd.named, fun w hw => hts w (List.mem_cons_of_mem _ hw), (name_of_methodNamed Bd.named Bd.method).1⟩, hK, ⟨Nat.le_refl d, Nat.le_refl (40 * d), Nat.le_refl mc, Nat.le_refl ms⟩, RT_of hr Bd.exec Bd.bytes Bd.returns Bd.notSynchronized⟩
  refine k hO p e _ s m _ below meth c _ mc ms C s.heap [] 0 0 _ ⟨⟨hP, va_S.rf, by omega, by omega⟩, ⟨am_entry hlen, fun v hv => ?_⟩, fun v h => by cases h⟩
  rcases List.mem_append.mp hv with h | h
  · exact ent_ok hO v h
  · rw [List.eq_of_mem_replicate h]; trivial
variable {ls st : List AV} {pc : Nat}
theorem X_aastore {r i z t : Int} {ci : Nat} {q : vw_C} (hq : am_cl[ci]? = some q) (hd : decode B.2.1 pc = .ok (.aastore, 1)) (ht : t ∈ am_ats) (hty : aty t = .object q.1) (hT : S.1 r = t) (hz : S.1 z = ci + 1) (h0 : 0 ≤ i) (h1 : i < S.2.1 r) (kk : XJ l G B Q d (pc + 1) ls st S (up V r i z) mc ms) : XJ l G B Q d pc ls (vr z :: vi i :: vr r :: st) S V mc ms := by
  intro p e R s m args below meth c Z K N C H locs cells slots la X
  obtain ⟨⟨hx, hb, hml, hown, hts, hnm⟩, hK, hR, hRt⟩ := id C
  obtain ⟨⟨hP, hVS, hc1, hc2⟩, hL, hO⟩ := X
  obtain ⟨o1, o2, o3, o4⟩ := hP.2.2.2 r _ ht hT
  have hge := ats_ge ht
  obtain ⟨hin, hix⟩ := ix_in (vok_h (vok_t hO)) h0 h1
  have hpos := hP.pos (r := r) (by rw [hT]; omega)
  have hposz := hP.pos (r := z) (by rw [hz]; omega)
  obtain ⟨⟨cell, g1, g2, g3, -⟩, -⟩ := hP.2.2.1 z ci q hq hz
  have hcls := (hK.1.1 ci q hq).2
  have hra := (hK.2.1 t ht).2
  rw [hty] at hra
  obtain ⟨kA, comp, k1, k2, k3, -⟩ := hra
  have hcomp : comp = G.2.1.1 ci := Option.some.inj (k3.symm.trans hcls.1)
  subst hcomp
  obtain ⟨kC, hkC, -⟩ := hcls.2
  refine W.aast hx hb o3 (fun q h => by cases h) (fun h => by cases h) k1 k2 rfl hkC ⟨fun h => hin (Or.inl h), Nat.not_le.mp fun h => hin (Or.inr (by rw [arrV_size] at h; exact h))⟩ g1 (fun q h => by rw [g3] at h; cases h) (by rw [g2]; exact hkC) (by rw [g2]; exact va_assign hcls) rfl (rest := st.map tv) (by show rv z :: tv (vi i) :: rv r :: _ = _; rw [rv_pos hpos, rv_pos hposz]; rfl) hd fun H' e1 e2 e3 => ?_
  rw [hix] at e1 ⊢
  have hcz : cvt (aty t) z = .ref (z - 1).toNat := by rw [hty]; exact rv_pos hposz
  exact kk p e R s m args below meth c Z K N C H' _ cells slots la ⟨⟨hP.arr ht hT h0 (by rw [hty]; show 0 ≤ z; omega) (by rw [hcz]; exact e1) e2 e3, hVS.put e2 e3 (hP.own (by rw [hT]; omega)), hc1, hc2⟩, hL, vok_t (vok_t (vok_t hO))⟩
theorem RP.swapA {H H' : Heap} (h : RP G S V H) {r t : Int} (ht : t ∈ am_ats) (hT : S.1 r = t) {f : Int → Int} (hf : ∀ j, rok (aty t) (f j)) (e1 : H'[(r - 1).toNat]? = some (arrV (G.2.2.1 t) (S.2.1 r).toNat (fun j => cvt (aty t) (f j)))) (e2 : H'.size = H.size) (e3 : ∀ x, x ≠ (r - 1).toNat → H'[x]? = H[x]?) : RP G S (swp V r f) H' := by
  have hge := ats_ge ht
  have hr0 := h.pos (r := r) (by rw [hT]; omega)
  refine ⟨by rw [e2]; exact h.1, h.2.1, fun r' ci' q' hq' hT' => ?_, fun r' t' ht' hT' => ?_⟩
  · have hc13 := cl_lt hq'
    have hrr : r' ≠ r := fun q => by subst q; rw [hT] at hT'; omega
    obtain ⟨o1, o2⟩ := h.2.2.1 r' ci' q' hq' hT'
    have hr1 : 0 < r' := h.pos (by rw [hT']; omega)
    refine ⟨(o1.kept (e3 _ (by omega))).to (fun j _ => by rw [swp_ne hrr]), fun j hj => by rw [swp_ne hrr]; exact o2 j hj⟩
  · have hge' := ats_ge ht'
    obtain ⟨o1, o2, o3, o4⟩ := h.2.2.2 r' t' ht' hT'
    have hr1 : 0 < r' := h.pos (by rw [hT']; omega)
    by_cases hrr : r' = r
    · subst hrr
      have htt : t' = t := hT'.symm.trans hT
      subst htt
      refine ⟨o1, o2, ?_, fun j => by rw [swp_eq]; exact hf j⟩
      rw [e1]
      congr 2
      funext j
      rw [swp_eq]
    · refine ⟨o1, o2, ?_, fun j => by rw [swp_ne hrr]; exact o4 j⟩
      rw [e3 _ (by omega), o3]
      congr 2
      funext j
      rw [swp_ne hrr]
/-- System.arraycopy of ints, from 0 to 0 -/
theorem X_copy {r0 r1 n : Int} {idx : Nat} (hd : decode B.2.1 pc = .ok (.invokestatic idx, 3)) (hw : Cond.methodLink B.1.cls idx arraycopyName ∈ am_ws ∧ Cond.native arraycopyName ∈ am_ws ∧ Cond.static arraycopyName ∈ am_ws ∧ Cond.initialized "java/lang/System" ∈ am_ws) (hT0 : S.1 r0 = 20) (hT1 : S.1 r1 = 20) (h0 : 0 ≤ n) (h1 : n ≤ S.2.1 r0) (h2 : n ≤ S.2.1 r1) (hst : st.length ≤ 4) (hd1 : 2 ≤ d)
    (kk : XJ l G B Q d (pc + 3) ls st S (swp V r1 (fun b => if 0 ≤ b ∧ b < n then V r0 b else V r1 b)) mc ms) : XJ l G B Q d pc ls (vi n :: vi 0 :: vr r1 :: vi 0 :: vr r0 :: st) S V mc ms := by
  intro p e R s m args below meth c Z K N C H locs cells slots la X
  obtain ⟨⟨hx, hb, hml, hown, hts, hnm⟩, hK, hR, hRt⟩ := id C
  obtain ⟨⟨hP, hVS, hc1, hc2⟩, hL, hO⟩ := X
  have ht : (20 : Int) ∈ am_ats := by decide
  obtain ⟨a1, a2, a3, a4⟩ := hP.2.2.2 r0 _ ht hT0
  obtain ⟨b1, b2, b3, b4⟩ := hP.2.2.2 r1 _ ht hT1
  have p0 := hP.pos (r := r0) (by rw [hT0]; decide)
  have p1 := hP.pos (r := r1) (by rw [hT1]; decide)
  have hI : inI n := vok_h hO
  have en : (Int32.ofInt n).toNatClampNeg = n.toNat := by
    show (Int32.ofInt n).toInt.toNat = _
    rw [i32_toInt hI]
  have hcat := cat_le st
  have hnf : nativeFrameWords "java/lang/System" "arraycopy" 5 ≤ 60 := by decide
  intro T hT X
  obtain ⟨-, k0, hk0, cm0, hkk0⟩ := (hK.2.1 20 ht).1 (S.2.1 r0).toNat (fun j => cvt (aty 20) (V r0 j))
  obtain ⟨-, k1, hk1, cm1, hkk1⟩ := (hK.2.1 20 ht).1 (S.2.1 r1).toNat (fun j => cvt (aty 20) (V r1 j))
  obtain ⟨vm', X', step⟩ := X.arraycopy hx hown (hts _ hw.1) (hts _ hw.2.1) (hts _ hw.2.2.1) (hts _ hw.2.2.2) (src := (r0 - 1).toNat) (dst := (r1 - 1).toNat) (cs := arrV (G.2.2.1 20) (S.2.1 r0).toNat (fun j => cvt (aty 20) (V r0 j))) (cd := arrV (G.2.2.1 20) (S.2.1 r1).toNat (fun j => cvt (aty 20) (V r1 j))) (srcPos := 0) (destPos := 0) (n := Int32.ofInt n) (by rw [hT]; exact a3) (by rw [hT]; exact b3)
    (fun _ h => by cases h) (fun _ h => by cases h) (fun h => by cases h) (fun h => by cases h) hk0 hk1 hkk0 hkk1 (by rfl) (by decide) (by decide) (fun h => by have := (i32_lt hI inI0).mp h; omega)
    (by rw [i32_toInt hI, arrV_size]; show ¬ 0 + n > _; omega)
    (by rw [i32_toInt hI, arrV_size]; show ¬ 0 + n > _; omega)
    (fun vm₁ _ i hi => by
      rw [en] at hi
      have e : (arrV (G.2.2.1 20) (S.2.1 r0).toNat (fun j => cvt (aty 20) (V r0 j))).slots.getD ((0 : Int32).toNatClampNeg + i) .null = .int (Int32.ofInt (V r0 i)) := by
        rw [show (0 : Int32).toNatClampNeg + i = i from Nat.zero_add i, Array.getD_eq_getD_getElem?, arrV_read _ _ (by omega)]
        rfl
      refine ⟨?_, ?_⟩
      · rw [e]; rfl
      · rw [e]; exact trivial)
    (g := F0 m pc la ((vi n :: vi 0 :: vr r1 :: vi 0 :: vr r0 :: st).map tv)) rfl (by rw [hml]; exact hL.1.1) (rest := st.map tv) (by show tv (vi n) :: tv (vi 0) :: rv r1 :: tv (vi 0) :: rv r0 :: _ = _; rw [rv_pos p0, rv_pos p1]; rfl) (by rw [hb]; exact hd) (by omega) (by show 2 * 0 + _ + (nativeFrameWords "java/lang/System" "arraycopy" 5 + 11) ≤ _; omega)
  have e1 : copied (arrV (G.2.2.1 20) (S.2.1 r0).toNat (fun j => cvt (aty 20) (V r0 j))) (arrV (G.2.2.1 20) (S.2.1 r1).toNat (fun j => cvt (aty 20) (V r1 j))) 0 0 (Int32.ofInt n) = arrV (G.2.2.1 20) (S.2.1 r1).toNat (fun j => cvt (aty 20) (if 0 ≤ (j : Int) ∧ (j : Int) < n then V r0 j else V r1 j)) := by
    have := va_copied (fun z : Int => cvt (aty 20) z) (G.2.2.1 20) (G.2.2.1 20) (n0 := (S.2.1 r0).toNat) (n1 := (S.2.1 r1).toNat) (sp := 0) (dp := 0) (n := n.toNat) (fun j => V r0 j) (fun j => V r1 j) (by omega)
    refine Eq.trans ?_ (this.trans ?_)
    · unfold copied
      rw [en]
      rfl
    · congr 1
      funext j
      unfold va_cpy
      by_cases hj : j < n.toNat
      · rw [if_pos ⟨Nat.zero_le _, by omega⟩, if_pos ⟨by omega, by omega⟩]; simp
      · rw [if_neg (by omega), if_neg (by omega)]
  rw [e1] at X' step
  have hl1 : (r1 - 1).toNat < H.size := (Array.getElem?_eq_some_iff.mp b3).1
  generalize hcell : arrV (G.2.2.1 20) (S.2.1 r1).toNat (fun j => cvt (aty 20) (if 0 ≤ (j : Int) ∧ (j : Int) < n then V r0 j else V r1 j)) = cl at X' step
  have hheap : ((T.setVm vm').setCell (r1 - 1).toNat cl).heap = H.setIfInBounds (r1 - 1).toNat cl := by rw [← hT]; rfl
  have oq : ∀ q : Nat, q ≠ (r1 - 1).toNat → (H.setIfInBounds (r1 - 1).toNat cl)[q]? = H[q]? := fun q hq => Array.getElem?_setIfInBounds_ne (Ne.symm hq)
  have hRP := hP.swapA (H' := H.setIfInBounds (r1 - 1).toNat cl) ht hT1 (f := fun b => if 0 ≤ b ∧ b < n then V r0 b else V r1 b) (fun j => by split; exact a4 j; exact b4 j) (by rw [hcell, Array.getElem?_setIfInBounds, if_pos rfl, if_pos hl1]) (by simp) oq
  obtain ⟨t, q1, q2⟩ := kk p e R s m args below meth c Z K N C _ _ cells slots la ⟨⟨hRP, ⟨by simp; exact hVS.1, fun q g1 g2 => by
      rw [oq q (fun e => g2 (by rw [e]; exact hP.own (by rw [hT1]; decide)))]
      exact hVS.2.1 q g1 g2, fun q hq => by
      rcases List.mem_append.mp hq with h | h
      · exact hVS.2.2 q h
      · obtain ⟨z, -, hz⟩ := List.mem_map.mp h
        rw [← hz]
        exact hP.own (by rw [hT1]; decide)⟩, hc1, hc2⟩, hL, vok_t (vok_t (vok_t (vok_t (vok_t hO))))⟩ _ hheap X'
  exact ⟨t, step t q1, q2⟩
end BODY
