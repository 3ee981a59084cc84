section RESTROWS
variable {l : Launch} {G : GT} {B : BT} {Q : Int → Sh → Mem → Prop} {d pc : Nat} {ls st : List AV} {S : Sh} {V : Mem} {mc ms : Nat}
theorem X_alen {r t : Int} (ht : t ∈ am_ats) (hd : decode B.2.1 pc = .ok (.arraylength, 1)) (hT : S.1 r = t) (kk : XJ l G B Q d (pc + 1) ls (vi (S.2.1 r) :: st) S V mc ms) : XJ l G B Q d pc ls (vr r :: st) S V mc ms := by
  intro p e R s m args below meth c Z K N C H locs cells slots la X
  obtain ⟨⟨hx, hb, hml, hown, hts, hnm⟩, hK, hR, hRt⟩ := id C
  obtain ⟨o1, o2, o3, o4⟩ := X.1.1.2.2.2 r _ ht hT
  have hge := ats_ge ht
  have hpos := X.1.1.pos (r := r) (by rw [hT]; omega)
  refine W.alen (n := Int32.ofInt (S.2.1 r)) hx hb o3 ((hK.2.1 _ ht).1 _ _) (by rw [arrV_size]; show Int32.ofNat _ = _; rw [← Int32.ofInt_eq_ofNat, show (((S.2.1 r).toNat : Nat) : Int) = S.2.1 r by omega]) rfl (by show rv r :: _ = _; rw [rv_pos hpos]) hd ?_
  exact kk p e R s m args below meth c Z K N C H locs cells slots la ⟨X.1, X.2.1, vok_c (v := vi (S.2.1 r)) (by show inI _; unfold inI; omega) (vok_t X.2.2)⟩
theorem X_newarr {t n : Int} {atype : ArrayType} (hd : decode B.2.1 pc = .ok (.newarray atype, 2)) (hw : Cond.arrayClass (newarray.typeOf atype) ∈ am_ws) (hty : newarray.typeOf atype = aty t) (ht : t ∈ am_ats) (hpr : aty t = .int ∨ aty t = .byte ∨ aty t = .long) (h0 : 0 ≤ n) (h1 : n ≤ 60000) (hmc : 1 ≤ mc) (hms : n.toNat ≤ ms)
    (kk : XJ l G B Q d (pc + 2) ls (vr (S.2.2 + 1) :: st) (nw S t n) (clr V (S.2.2 + 1)) (mc - 1) (ms - n.toNat)) : XJ l G B Q d pc ls (vi n :: st) S V mc ms := by
  intro p e R s m args below meth c Z K N C H locs cells slots la X
  obtain ⟨⟨hx, hb, hml, hown, hts, hnm⟩, hK, hR, hRt⟩ := id C
  obtain ⟨⟨hP, hVS, hc1, hc2⟩, hL, hO⟩ := X
  have hI : inI n := vok_h hO
  have en : (Int32.ofInt n).toNatClampNeg = n.toNat := by
    show (Int32.ofInt n).toInt.toNat = _
    rw [i32_toInt hI]
  have hsz := hP.1
  refine va_newaK hx hb (hts _ hw) rfl hd (n := Int32.ofInt n) rfl (fun h => by have := (i32_lt hI inI0).mp h; omega) en (by rw [hty]; rcases hpr with h | h | h <;> rw [h] <;> simp only [componentBytes] <;> omega) (by omega) (by omega) rfl fun H' cA e1 e2 e3 e4 e5 => ?_
  have hcA : cA = G.2.2.1 t := by
    have h2 := (hK.2.1 t ht).2
    rw [hty] at e5
    have h3 : s.vm.findClass ("[" ++ (aty t).toString) = some (G.2.2.1 t) := by
      rcases hpr with h | h | h <;> rw [h] at h2 ⊢ <;> exact h2
    exact Option.some.inj (e5.symm.trans h3)
  have hdv : defaultValue (newarray.typeOf atype) = cvt (aty t) 0 := by
    rw [hty]; rcases hpr with h | h | h <;> rw [h] <;> rfl
  rw [hdv, hcA] at e1
  have hge := ats_ge ht
  have hr := hP.grow (t := t) (n := n) (Nat.le_trans hK.2.2.2.2.2.2.2.2.2.1 hVS.1) e2 e3 (fun ci q hq h => by have := cl_lt hq; omega) (fun _ => ⟨h0, by omega, e1⟩)
  have h0 := kk p e R s m args below meth c Z K N C H' locs (cells + 1) (slots + n.toNat) la ⟨⟨hr, ⟨Nat.le_trans hVS.1 (by omega), fun q a b => (e3 q (Nat.lt_of_lt_of_le a hVS.1)).trans (hVS.2.1 q a b), hVS.2.2⟩, by omega, by omega⟩, hL, vok_c (v := vr (S.2.2 + 1)) (by show 0 ≤ S.2.2 + 1; omega) (vok_t hO)⟩
  rw [List.map_cons, show tv (vr (S.2.2 + 1)) = rv (S.2.2 + 1) from rfl, rv_pos (by omega), show (S.2.2 + 1 - 1).toNat = H.size by omega] at h0
  exact h0
theorem X_anewarr {n t : Int} {idx : Nat} {Cn : String} (hd : decode B.2.1 pc = .ok (.anewarray idx, 3)) (hw : Cond.classLink B.1.cls idx Cn ∈ am_ws) (hao : Cn ∈ am_aos) (hty : aty t = .object Cn) (ht : t ∈ am_ats) (h0 : 0 ≤ n) (h1 : n ≤ 60000) (hmc : 1 ≤ mc) (hms : n.toNat ≤ ms)
    (kk : XJ l G B Q d (pc + 3) ls (vr (S.2.2 + 1) :: st) (nw S t n) (clr V (S.2.2 + 1)) (mc - 1) (ms - n.toNat)) : XJ l G B Q d pc ls (vi n :: st) S V mc ms := by
  intro p e R s m args below meth c Z K N C H locs cells slots la X
  obtain ⟨⟨hx, hb, hml, hown, hts, hnm⟩, hK, hR, hRt⟩ := id C
  obtain ⟨⟨hP, hVS, hc1, hc2⟩, hL, hO⟩ := X
  have hI : inI n := vok_h hO
  have en : (Int32.ofInt n).toNatClampNeg = n.toNat := by
    show (Int32.ofInt n).toInt.toNat = _
    rw [i32_toInt hI]
  have hsz := hP.1
  refine W.anew hx hb hown (hts _ hw) (va_AO.use (hK.2.2.2.2.2.2.1 Cn hao)) rfl hd (n := Int32.ofInt n) rfl (fun h => by have := (i32_lt hI inI0).mp h; omega) (by rw [en]; omega) (by omega) (by rw [en]; omega) fun cA kA comp f1 f2 f3 f4 => ?_
  rw [en]
  generalize hH1 : H.push ({ cls := cA, slots := Array.replicate n.toNat .null, vm := .none } : Cell) = H'
  have e2 : H'.size = H.size + 1 := by rw [← hH1, Array.size_push]
  have e1 : H'[H.size]? = some (arrV cA n.toNat (fun _ => .null)) := by rw [← hH1, Array.getElem?_push_size, ← arrV_new]
  have e3 : ∀ q : Nat, q < H.size → H'[q]? = H[q]? := fun q hq => by rw [← hH1, Array.getElem?_push, if_neg (Nat.ne_of_lt hq)]
  have hcA : cA = G.2.2.1 t := by
    have h2 := (hK.2.1 t ht).2
    rw [hty] at h2
    obtain ⟨_, _, _, _, _, h4⟩ := h2
    exact Option.some.inj (f1.symm.trans h4)
  rw [hcA] at e1
  have hdv : cvt (aty t) 0 = .null := by rw [hty]; rfl
  have hge := ats_ge ht
  have hr := hP.grow (t := t) (n := n) (Nat.le_trans hK.2.2.2.2.2.2.2.2.2.1 hVS.1) e2 e3 (fun ci q hq h => by have := cl_lt hq; omega) (fun _ => ⟨h0, by omega, by rw [hdv]; exact e1⟩)
  have h0 := kk p e R s m args below meth c Z K N C H' locs (cells + 1) (slots + n.toNat) la ⟨⟨hr, ⟨Nat.le_trans hVS.1 (by omega), fun q a b => (e3 q (Nat.lt_of_lt_of_le a hVS.1)).trans (hVS.2.1 q a b), hVS.2.2⟩, by omega, by omega⟩, hL, vok_c (v := vr (S.2.2 + 1)) (by show 0 ≤ S.2.2 + 1; omega) (vok_t hO)⟩
  rw [List.map_cons, show tv (vr (S.2.2 + 1)) = rv (S.2.2 + 1) from rfl, rv_pos (by omega), show (S.2.2 + 1 - 1).toNat = H.size by omega] at h0
  exact h0
theorem X_new {ci idx : Nat} {q : vw_C} (hd : decode B.2.1 pc = .ok (.new idx, 3)) (hq : am_cl[ci]? = some q) (hw : Cond.classLink B.1.cls idx q.1 ∈ am_ws ∧ Cond.instantiable q.1 q.2.2 ∈ am_ws ∧ Cond.initialized q.1 ∈ am_ws) (hdf : ∀ k, k < q.2.2 → defaultValue (tyOf ci k) = cvt (tyOf ci k) 0) (hmc : 1 ≤ mc) (hms : q.2.2 ≤ ms)
    (kk : XJ l G B Q d (pc + 3) ls (vr (S.2.2 + 1) :: st) (nw S (ci + 1) 0) (clr V (S.2.2 + 1)) (mc - 1) (ms - q.2.2)) : XJ l G B Q d pc ls st S V mc ms := by
  intro p e R s m args below meth c Z K N C H locs cells slots la X
  obtain ⟨⟨hx, hb, hml, hown, hts, hnm⟩, hK, hR, hRt⟩ := id C
  obtain ⟨⟨hP, hVS, hc1, hc2⟩, hL, hO⟩ := X
  have hsz := hP.1
  have hKn := hK.1.1 ci q hq
  have hok := cls_ok ci q hq
  refine W.newcK hx hb hown (hts _ hw.1) (hts _ hw.2.1) (hts _ hw.2.2) rfl hd (by omega) (by omega) hKn.2.1 rfl fun H' kC hkC e1 e2 e3 => ?_
  have hc13 := cl_lt hq
  have hr := hP.grow (t := (ci : Int) + 1) (n := 0) (Nat.le_trans hK.2.2.2.2.2.2.2.2.2.1 hVS.1) e2 e3 (fun ci' q' hq' h => by
    have hcc : ci' = ci := by omega
    subst hcc
    cases hq.symm.trans hq'
    exact (u_born (tyOf ci') hts hok.1 hKn hkC e1 hok.2.1).to hdf) (fun h => by have := ats_ge h; omega)
  have h0 := kk p e R s m args below meth c Z K N C H' locs (cells + 1) (slots + q.2.2) la ⟨⟨hr, ⟨Nat.le_trans hVS.1 (by omega), fun q a b => (e3 q (Nat.lt_of_lt_of_le a hVS.1)).trans (hVS.2.1 q a b), hVS.2.2⟩, by omega, by omega⟩, hL, vok_c (v := vr (S.2.2 + 1)) (by show 0 ≤ S.2.2 + 1; omega) hO⟩
  rw [List.map_cons, show tv (vr (S.2.2 + 1)) = rv (S.2.2 + 1) from rfl, rv_pos (by omega), show (S.2.2 + 1 - 1).toNat = H.size by omega] at h0
  exact h0
theorem cat_le : ∀ st : List AV, ((st.map tv).map fun v => v.category).sum ≤ 2 * st.length
  | [] => by simp
  | v :: t => by
    have := cat_le t
    have h2 := lv_cat (tv v)
    simp only [List.map_cons, List.sum_cons, List.length_cons] at this ⊢
    omega
theorem X_objInit {r : Int} {idx : Nat} (hd : decode B.2.1 pc = .ok (.invokespecial idx, 3)) (hw : Cond.methodLink B.1.cls idx Lib.objectInit ∈ am_ws ∧ Cond.instanceMethod Lib.objectInit ∈ am_ws ∧ Cond.code Lib.objectInit ⟨#[0xb1]⟩ 1 none ∈ am_ws) (hr : r ≠ 0) (hst : st.length ≤ 4) (hd1 : 1 ≤ d) (kk : XJ l G B Q d (pc + 3) ls st S V mc ms) : XJ l G B Q d pc ls (vr r :: st) S V mc ms := by
  intro p e R s m args below meth c Z K N C H locs cells slots la X
  obtain ⟨⟨hx, hb, hml, hown, hts, hnm⟩, hK, hR, hRt⟩ := id C
  have h0 : 0 ≤ r := vok_h X.2.2
  have hc := cat_le st
  refine W.objInit hx hb hown (hts _ hw.1) (hts _ hw.2.1) (hts _ hw.2.2) rfl (by rw [hml]; exact X.2.1.1.1) (a := (r - 1).toNat) (rest := st.map tv) (by show rv r :: _ = _; rw [rv_pos (by omega)]) hd (by omega) (by show 2 * 0 + _ + 12 ≤ _; omega) ?_
  exact kk p e R s m args below meth c Z K N C H locs cells slots la ⟨X.1, X.2.1, vok_t X.2.2⟩
theorem X_ldc {idx : Nat} {n : Int} (hd : decode B.2.1 pc = .ok (.ldc idx, 2)) (hw : Cond.constant B.1.cls idx (Int32.ofInt n) ∈ am_ws) (hn : inI n) (kk : XJ l G B Q d (pc + 2) ls (vi n :: st) S V mc ms) : XJ l G B Q d pc ls st S V mc ms := by
  intro p e R s m args below meth c Z K N C H locs cells slots la X
  exact lv_ldc C.1.1 C.1.2.1 C.1.2.2.2.1 (C.1.2.2.2.2.1 _ hw) hd (kk p e R s m args below meth c Z K N C H locs cells slots la ⟨X.1, X.2.1, vok_c (v := vi n) hn X.2.2⟩)
theorem X_ldcw {idx : Nat} {n : Int} (hd : decode B.2.1 pc = .ok (.ldc_w idx, 3)) (hw : Cond.constant B.1.cls idx (Int32.ofInt n) ∈ am_ws) (hn : inI n) (kk : XJ l G B Q d (pc + 3) ls (vi n :: st) S V mc ms) : XJ l G B Q d pc ls st S V mc ms := by
  intro p e R s m args below meth c Z K N C H locs cells slots la X
  exact lv_ldcw C.1.1 C.1.2.1 C.1.2.2.2.1 (C.1.2.2.2.2.1 _ hw) hd (kk p e R s m args below meth c Z K N C H locs cells slots la ⟨X.1, X.2.1, vok_c (v := vi n) hn X.2.2⟩)
theorem X_ldc2 {idx : Nat} {n : Int} (hd : decode B.2.1 pc = .ok (.ldc2_w idx, 3)) (hw : Cond.constantLong B.1.cls idx (Int64.ofInt n) ∈ am_ws) (hn : inL n) (kk : XJ l G B Q d (pc + 3) ls (vl n :: st) S V mc ms) : XJ l G B Q d pc ls st S V mc ms := by
  intro p e R s m args below meth c Z K N C H locs cells slots la X
  exact lv_ldc2 C.1.1 C.1.2.1 C.1.2.2.2.1 (C.1.2.2.2.2.1 _ hw) hd (kk p e R s m args below meth c Z K N C H locs cells slots la ⟨X.1, X.2.1, vok_c (v := vl n) hn X.2.2⟩)
/-- a text: its place i -/
theorem X_ldcS {idx i : Nat} (hd : decode B.2.1 pc = .ok (.ldc idx, 2)) (hi : i < 16) (hw : js_own i = B.1.cls ∧ js_idx i = idx) (kk : XJ l G B Q d (pc + 2) ls (vr ((G.2.2.2.1 i : Int) + 1) :: st) S V mc ms) : XJ l G B Q d pc ls st S V mc ms := by
  intro p e R s m args below meth c Z K N C H locs cells slots la X
  have h1 := C.2.1.2.2.1 i hi
  rw [hw.1, hw.2] at h1
  refine va_ldcS C.1.1 C.1.2.1 C.1.2.2.2.1 h1 hd ?_
  have h0 := kk p e R s m args below meth c Z K N C H locs cells slots la ⟨X.1, X.2.1, vok_c (v := vr ((G.2.2.2.1 i : Int) + 1)) (by show 0 ≤ _; omega) X.2.2⟩
  rw [List.map_cons, show tv (vr ((G.2.2.2.1 i : Int) + 1)) = rv _ from rfl, rv_pos (by omega), show ((G.2.2.2.1 i : Int) + 1 - 1).toNat = G.2.2.2.1 i by omega] at h0
  exact h0
theorem X_sval {idx i : Nat} (hd : decode B.2.1 pc = .ok (.getfield idx, 3)) (hw : Cond.fieldLink B.1.cls idx "java/lang/String" "value" "[B" ∈ am_ws) (hi : i < 16) (kk : XJ l G B Q d (pc + 3) ls (vr ((G.2.2.2.2.1 i : Int) + 1) :: st) S V mc ms) : XJ l G B Q d pc ls (vr ((G.2.2.2.1 i : Int) + 1) :: st) S V mc ms := by
  intro p e R s m args below meth c Z K N C H locs cells slots la X
  have h1 := (C.2.1.2.2.2.1.1 i hi).2.2.1
  have h0 := kk p e R s m args below meth c Z K N C H locs cells slots la ⟨X.1, X.2.1, vok_c (v := vr ((G.2.2.2.2.1 i : Int) + 1)) (by show 0 ≤ _; omega) (vok_t X.2.2)⟩
  rw [List.map_cons, show tv (vr ((G.2.2.2.2.1 i : Int) + 1)) = rv _ from rfl, rv_pos (by omega), show ((G.2.2.2.2.1 i : Int) + 1 - 1).toNat = G.2.2.2.2.1 i by omega] at h0
  rw [List.map_cons, show tv (vr ((G.2.2.2.1 i : Int) + 1)) = rv _ from rfl, rv_pos (by omega), show ((G.2.2.2.1 i : Int) + 1 - 1).toNat = G.2.2.2.1 i by omega]
  exact vk_getf C.1.1 C.1.2.1 h1 X.1.2.1 C.1.2.2.2.1 (C.1.2.2.2.2.1 _ hw) (fun x h => h) hd h0
theorem X_scoder {idx i : Nat} (hd : decode B.2.1 pc = .ok (.getfield idx, 3)) (hw : Cond.fieldLink B.1.cls idx "java/lang/String" "coder" "B" ∈ am_ws) (hi : i < 16) (kk : XJ l G B Q d (pc + 3) ls (vi 0 :: st) S V mc ms) : XJ l G B Q d pc ls (vr ((G.2.2.2.1 i : Int) + 1) :: st) S V mc ms := by
  intro p e R s m args below meth c Z K N C H locs cells slots la X
  have h1 := (C.2.1.2.2.2.1.1 i hi).2.1
  have h0 := kk p e R s m args below meth c Z K N C H locs cells slots la ⟨X.1, X.2.1, vok_c (v := vi 0) inI0 (vok_t X.2.2)⟩
  rw [List.map_cons, show tv (vr ((G.2.2.2.1 i : Int) + 1)) = rv _ from rfl, rv_pos (by omega), show ((G.2.2.2.1 i : Int) + 1 - 1).toNat = G.2.2.2.1 i by omega]
  exact vk_getf C.1.1 C.1.2.1 h1 X.1.2.1 C.1.2.2.2.1 (C.1.2.2.2.2.1 _ hw) (fun x h => h) hd h0
theorem X_compact {idx : Nat} (hd : decode B.2.1 pc = .ok (.getstatic idx, 3)) (hw : Cond.fieldLink B.1.cls idx "java/lang/String" "COMPACT_STRINGS" "Z" ∈ am_ws) (kk : XJ l G B Q d (pc + 3) ls (vi 1 :: st) S V mc ms) : XJ l G B Q d pc ls st S V mc ms := by
  intro p e R s m args below meth c Z K N C H locs cells slots la X
  have h0 := kk p e R s m args below meth c Z K N C H locs cells slots la ⟨X.1, X.2.1, vok_c (v := vi 1) (by decide : inI 1) X.2.2⟩
  exact va_gets C.1.1 C.1.2.1 C.2.1.2.2.2.2.1 X.1.2.1 C.1.2.2.2.1 (C.1.2.2.2.2.1 _ hw) (fun x h => h) hd h0
theorem X_fmt {idx : Nat} (hd : decode B.2.1 pc = .ok (.getstatic idx, 3)) (hw : Cond.fieldLink B.1.cls idx "jdk/internal/util/Preconditions" "SIOOBE_FORMATTER" "Ljava/util/function/BiFunction;" ∈ am_ws) (kk : ∀ r : Int, 0 ≤ r → XJ l G B Q d (pc + 3) ls (vr r :: st) S V mc ms) : XJ l G B Q d pc ls st S V mc ms := by
  intro p e R s m args below meth c Z K N C H locs cells slots la X
  have hz := C.2.1.2.2.2.2.2.2.2.2.2.2.2
  rcases hz with hz | ⟨t, hz⟩
  · have h0 := kk 0 (Int.le_refl 0) p e R s m args below meth c Z K N C H locs cells slots la ⟨X.1, X.2.1, vok_c (v := vr 0) (Int.le_refl 0) X.2.2⟩
    exact va_gets C.1.1 C.1.2.1 hz X.1.2.1 C.1.2.2.2.1 (C.1.2.2.2.2.1 _ hw) (fun x h => h) hd h0
  · have h0 := kk ((t : Int) + 1) (by omega) p e R s m args below meth c Z K N C H locs cells slots la ⟨X.1, X.2.1, vok_c (v := vr ((t : Int) + 1)) (by show 0 ≤ _; omega) X.2.2⟩
    rw [List.map_cons, show tv (vr ((t : Int) + 1)) = rv _ from rfl, rv_pos (by omega), show ((t : Int) + 1 - 1).toNat = t by omega] at h0
    exact va_gets C.1.1 C.1.2.1 hz X.1.2.1 C.1.2.2.2.1 (C.1.2.2.2.2.1 _ hw) (fun x h => h) hd h0
theorem js_lt : ∀ i, i < 16 → js_len.getD i 0 < 100 := by decide
theorem X_slen {i : Nat} (hd : decode B.2.1 pc = .ok (.arraylength, 1)) (hi : i < 16) (kk : XJ l G B Q d (pc + 1) ls (vi (js_len.getD i 0 : Nat) :: st) S V mc ms) : XJ l G B Q d pc ls (vr ((G.2.2.2.2.1 i : Int) + 1) :: st) S V mc ms := by
  intro p e R s m args below meth c Z K N C H locs cells slots la X
  obtain ⟨cell, h1, h2, h3, h4, h5, h6, h7⟩ := (C.2.1.2.2.2.1.1 i hi).2.2.2
  have hlt := js_lt i hi
  have h0 := kk p e R s m args below meth c Z K N C H locs cells slots la ⟨X.1, X.2.1, vok_c (v := vi (js_len.getD i 0 : Nat)) (by show inI _; unfold inI; omega) (vok_t X.2.2)⟩
  rw [List.map_cons, show tv (vr ((G.2.2.2.2.1 i : Int) + 1)) = rv _ from rfl, rv_pos (by omega), show ((G.2.2.2.2.1 i : Int) + 1 - 1).toNat = G.2.2.2.2.1 i by omega]
  refine W.alen (n := Int32.ofInt (js_len.getD i 0 : Nat)) C.1.1 C.1.2.1 (by rw [X.1.2.1.2.1 _ (Array.getElem?_eq_some_iff.mp h1).1 h7]; exact h1) h2 (by rw [h5, ← Int32.ofInt_eq_ofNat]) rfl rfl hd h0
def js_b (i k : Nat) : Int := ((js_byt.getD i []).getD k 0).toInt
theorem X_sbyte {i : Nat} {k : Int} (hd : decode B.2.1 pc = .ok (.baload, 1)) (hi : i < 16) (h0 : 0 ≤ k) (h1 : k < (js_len.getD i 0 : Nat)) (kk : XJ l G B Q d (pc + 1) ls (vi (js_b i k.toNat) :: st) S V mc ms) : XJ l G B Q d pc ls (vi k :: vr ((G.2.2.2.2.1 i : Int) + 1) :: st) S V mc ms := by
  intro p e R s m args below meth c Z K N C H locs cells slots la X
  have hT := (C.2.1.2.2.2.1.1 i hi).2.2.2
  obtain ⟨hin, hix⟩ := ix_in (vok_h X.2.2) h0 h1
  rw [Int.toNat_natCast] at hin
  have hh := kk p e R s m args below meth c Z K N C H locs cells slots la ⟨X.1, X.2.1, vok_c (v := vi (js_b i k.toNat)) (i32_in _) (vok_t (vok_t X.2.2))⟩
  rw [List.map_cons, show tv (vi (js_b i k.toNat)) = _ from congrArg Value.int (i32_of _)] at hh
  rw [List.map_cons, List.map_cons, show tv (vr ((G.2.2.2.2.1 i : Int) + 1)) = rv _ from rfl, rv_pos (by omega), show ((G.2.2.2.2.1 i : Int) + 1 - 1).toNat = G.2.2.2.2.1 i by omega]
  exact va_tb C.1.1 C.1.2.1 hT X.1.2.1 hin (by rw [hix]) hd hh
/-- the script -/
theorem X_xlen (hd : decode B.2.1 pc = .ok (.arraylength, 1)) (kk : XJ l G B Q d (pc + 1) ls (vi (G.2.2.2.2.2.2.1 : Nat) :: st) S V mc ms) : XJ l G B Q d pc ls (vr ((G.2.2.2.2.2.1 : Int) + 1) :: st) S V mc ms := by
  intro p e R s m args below meth c Z K N C H locs cells slots la X
  obtain ⟨-, -, -, -, -, -, -, hX, hlt, hsz, hL, -⟩ := C.2.1
  have h0 := kk p e R s m args below meth c Z K N C H locs cells slots la ⟨X.1, X.2.1, vok_c (v := vi (G.2.2.2.2.2.2.1 : Nat)) (by show inI _; unfold inI; omega) (vok_t X.2.2)⟩
  rw [List.map_cons, show tv (vi (G.2.2.2.2.2.2.1 : Nat)) = .int (Int32.ofNat G.2.2.2.2.2.2.1) from congrArg Value.int (Int32.ofInt_eq_ofNat)] at h0
  rw [List.map_cons, show tv (vr ((G.2.2.2.2.2.1 : Int) + 1)) = rv _ from rfl, rv_pos (by omega), show ((G.2.2.2.2.2.1 : Int) + 1 - 1).toNat = G.2.2.2.2.2.1 by omega]
  exact va_slen C.1.1 C.1.2.1 hX (by omega) (by show ¬ G.1 ≤ _; omega) X.1.2.1 hd h0
theorem X_xget {k : Int} (hd : decode B.2.1 pc = .ok (.iaload, 1)) (h0 : 0 ≤ k) (h1 : k < (G.2.2.2.2.2.2.1 : Nat)) (kk : XJ l G B Q d (pc + 1) ls (vi (G.2.2.2.2.2.2.2 k.toNat).toInt :: st) S V mc ms) : XJ l G B Q d pc ls (vi k :: vr ((G.2.2.2.2.2.1 : Int) + 1) :: st) S V mc ms := by
  intro p e R s m args below meth c Z K N C H locs cells slots la X
  obtain ⟨-, -, -, -, -, -, -, hX, hlt, hsz, hL, -⟩ := C.2.1
  obtain ⟨hin, hix⟩ := ix_in (vok_h X.2.2) h0 h1
  rw [Int.toNat_natCast] at hin
  have hh := kk p e R s m args below meth c Z K N C H locs cells slots la ⟨X.1, X.2.1, vok_c (v := vi (G.2.2.2.2.2.2.2 k.toNat).toInt) (i32_in _) (vok_t (vok_t X.2.2))⟩
  rw [List.map_cons, show tv (vi (G.2.2.2.2.2.2.2 k.toNat).toInt) = _ from congrArg Value.int (i32_of _)] at hh
  rw [List.map_cons, List.map_cons, show tv (vr ((G.2.2.2.2.2.1 : Int) + 1)) = rv _ from rfl, rv_pos (by omega), show ((G.2.2.2.2.2.1 : Int) + 1 - 1).toNat = G.2.2.2.2.2.1 by omega]
  refine va_sld C.1.1 C.1.2.1 hX (by omega) (by show ¬ G.1 ≤ _; omega) X.1.2.1 hin hd ?_
  rw [hix]
  exact hh
/-- a return -/
theorem X_ret {z : Int} {vs : List AV} (hd : decode B.2.1 pc = .ok (retI B.2.2.2, 1)) (hv : vs.map tv = retS B.2.2.2 z) (hk : (∀ v ∈ vs, vok v) → retK B.2.2.2 z) (hq : Q z S V) : XJ l G B Q d pc ls vs S V mc ms := by
  intro p e R s m args below meth c Z K N C H locs cells slots la X
  rw [hv]
  exact C.2.2.2 z S V H locs cells slots la pc hq X.1.1 X.1.2.1 (hk X.2.2) (by have := X.1.2.2.1; omega) (by have := X.1.2.2.2; omega) hd
/-- what holds of ranges -/
def RG (S : Sh) (V : Mem) : Prop := (∀ (r : Int) (ci : Nat) (q : vw_C), am_cl[ci]? = some q → S.1 r = ci + 1 → ∀ k : Nat, k < q.2.2 → rok (tyOf ci k) (V r k)) ∧ (∀ (r : Int) (t : Int), t ∈ am_ats → S.1 r = t → 0 ≤ S.2.1 r ∧ S.2.1 r ≤ 2147483647 ∧ ∀ j : Int, rok (aty t) (V r j)) ∧ (∀ r, S.1 r ≠ 0 → 0 < r ∧ r ≤ S.2.2)
theorem RP.rg {H : Heap} (h : RP G S V H) : RG S V := ⟨fun r ci q hq hT => (h.2.2.1 r ci q hq hT).2, fun r t ht hT => ⟨(h.2.2.2 r t ht hT).1, (h.2.2.2 r t ht hT).2.1, (h.2.2.2 r t ht hT).2.2.2⟩, fun r hr => ⟨h.pos hr, (h.2.1 r hr).2⟩⟩
theorem X_range (k : RG S V → (∀ v ∈ ls, vok v) → (∀ v ∈ st, vok v) → XJ l G B Q d pc ls st S V mc ms) : XJ l G B Q d pc ls st S V mc ms := by
  intro p e R s m args below meth c Z K N C H locs cells slots la X
  exact k X.1.1.rg X.2.1.2 X.2.2 p e R s m args below meth c Z K N C H locs cells slots la X
theorem X_less {mc' ms' : Nat} (h1 : mc' ≤ mc) (h2 : ms' ≤ ms) (k : XJ l G B Q d pc ls st S V mc' ms') : XJ l G B Q d pc ls st S V mc ms := by
  intro p e R s m args below meth c Z K N C H locs cells slots la X
  exact k p e R s m args below meth c Z K N C H locs cells slots la ⟨⟨X.1.1, X.1.2.1, by have := X.1.2.2.1; omega, by have := X.1.2.2.2; omega⟩, X.2⟩
end RESTROWS
