section MEMROWS
variable {l : Launch} {G : GT} {B : BT} {Q : Int → Sh → Mem → Prop} {d pc : Nat} {ls st : List AV} {S : Sh} {V : Mem} {mc ms : Nat}
theorem X_getfield {r : Int} {ci k idx : Nat} {q : vw_C} {v : AV} (hd : decode B.2.1 pc = .ok (.getfield idx, 3)) (hq : am_cl[ci]? = some q) (hk : k < q.2.2) (hlink : Cond.fieldLink B.1.cls idx (q.2.1 k).1 (q.2.1 k).2.1 (q.2.1 k).2.2.1 ∈ am_ws) (hv : av (tyOf ci k) (V r k) = v) (hT : S.1 r = ci + 1)
    (kk : XJ l G B Q d (pc + 3) ls (v :: st) S V mc ms) : XJ l G B Q d pc ls (vr r :: st) S V mc ms := by
  intro p e R s m args below meth c Z K N C H locs cells slots la X
  obtain ⟨⟨hx, hb, hml, hown, hts, hnm⟩, hK, hR, hRt⟩ := id C
  have hP := X.1.1
  obtain ⟨⟨cell, q1, q2, q3, q4⟩, hr⟩ := hP.2.2.1 r ci q hq hT
  obtain ⟨hS, hfc, kC, hkC, hkind⟩ := hK.1.1 ci q hq
  obtain ⟨cf, kf, fi, f, hi, hsl⟩ := hS k hk
  have hpos := hP.pos (r := r) (by rw [hT]; omega)
  refine W.getf hx hb hown (hts _ hlink) hi (u_facts hfc hkC (u_lays hts (cls_ok ci q hq).1 hk) hi).1 q1 (by rw [q3]; exact fun h => by cases h) (v := cvt (tyOf ci k) (V r k)) (by rw [hsl, q4 k hk]) rfl (by show (rv r) :: _ = _; rw [rv_pos hpos]) hd ?_
  have h0 := kk p e R s m args below meth c Z K N C H locs cells slots la ⟨X.1, X.2.1, vok_c (by rw [← hv]; exact vok_av (hr k hk)) (vok_t X.2.2)⟩
  rw [List.map_cons, ← hv, tv_av] at h0
  exact h0
theorem nar_ok {ty : FieldType} {z : Int} (h : rok ty z) (hy : ty = .int ∨ ty = .long ∨ ty = .boolean ∨ (∃ n, ty = .object n) ∨ ∃ t, ty = .array t) : narrow ty (cvt ty z) = cvt ty z ∧ fits ty (cvt ty z) = true := by
  rcases hy with rfl | rfl | rfl | ⟨n, rfl⟩ | ⟨t, rfl⟩
  · exact ⟨rfl, rfl⟩
  · exact ⟨rfl, rfl⟩
  · rcases h with h | h <;> subst h <;> exact ⟨rfl, rfl⟩
  · simp only [cvt]; unfold rv; split <;> exact ⟨rfl, rfl⟩
  · simp only [cvt]; unfold rv; split <;> exact ⟨rfl, rfl⟩
theorem X_putfield {r z : Int} {ci k idx : Nat} {q : vw_C} {v : AV} (hd : decode B.2.1 pc = .ok (.putfield idx, 3)) (hq : am_cl[ci]? = some q) (hk : k < q.2.2) (hlink : Cond.fieldLink B.1.cls idx (q.2.1 k).1 (q.2.1 k).2.1 (q.2.1 k).2.2.1 ∈ am_ws) (hty : tyOf ci k = .int ∨ tyOf ci k = .long ∨ tyOf ci k = .boolean ∨ (∃ n, tyOf ci k = .object n) ∨ ∃ t, tyOf ci k = .array t)
    (hfin : (q.2.1 k).2.2.2 = false ∨ ((q.2.1 k).2.2.2 = true ∧ B.1.name = "<init>" ∧ (q.2.1 k).1 = B.1.cls)) (hv : av (tyOf ci k) z = v) (hrk : vok v → rok (tyOf ci k) z) (hT : S.1 r = ci + 1) (kk : XJ l G B Q d (pc + 3) ls st S (up V r k z) mc ms) : XJ l G B Q d pc ls (v :: vr r :: st) S V mc ms := by
  intro p e R s m args below meth c Z K N C H locs cells slots la X
  obtain ⟨⟨hx, hb, hml, hown, hts, hnm⟩, hK, hR, hRt⟩ := id C
  obtain ⟨⟨hP, hVS, hc1, hc2⟩, hL, hO⟩ := X
  obtain ⟨⟨cell, q1, q2, q3, q4⟩, hr⟩ := hP.2.2.1 r ci q hq hT
  have hKn := hK.1.1 ci q hq
  obtain ⟨hS, hfc, kC, hkC, hkind⟩ := id hKn
  obtain ⟨cf, kf, fi, f, hi, hsl⟩ := hS k hk
  have hpos := hP.pos (r := r) (by rw [hT]; omega)
  have hok := cls_ok ci q hq
  have hrz : rok (tyOf ci k) z := hrk (vok_h hO)
  obtain ⟨hn, hfit⟩ := nar_ok hrz hty
  have hap := va_apart (own := B.1.cls) hts hok.1 (tyOf ci) hok.2.1 hok.2.2 hK.1 hq
  have hlay := hts _ (hok.1 _ (u_in_lay hk))
  have hst := (u_facts hfc hkC (u_lays hts hok.1 hk) hi).1
  have hstk : (v :: vr r :: st).map tv = cvt (tyOf ci k) z :: .ref (r - 1).toNat :: st.map tv := by
    rw [List.map_cons, List.map_cons, ← hv, tv_av, show tv (vr r) = rv r from rfl, rv_pos hpos]
  have key : ∀ H' : Heap, H'[(r - 1).toNat]? = some (cell.setSlot f.slot (cvt (tyOf ci k) z)) → H'.size = H.size → (∀ x, x ≠ (r - 1).toNat → H'[x]? = H[x]?) → W p l e R s m args below meth c H' (locs ++ [⟨(r - 1).toNat, f.slot⟩]) cells slots Z (F0 m (pc + 3) la (st.map tv)) := by
    intro H' e1 e2 e3
    rw [hsl] at e1
    exact kk p e R s m args below meth c Z K N C H' _ cells slots la ⟨⟨hP.put hq hT hk hrz q2 q3 q4 hap e1 e2 e3, hVS.put e2 e3 (hP.own (by rw [hT]; omega)), hc1, hc2⟩, hL, vok_t (vok_t hO)⟩
  rw [hstk]
  rcases hfin with hf | ⟨hf, hf2, hf3⟩
  · unfold u_lay at hlay
    rw [if_neg (by rw [hf]; decide)] at hlay
    have h6 := u_store hfc hkC hkind hlay hi (hok.2.1 k hk) hn hfit
    exact W.putK hx hb (f := f) ⟨hown, hts _ hlink, ⟨_, _, _, hi⟩, hst⟩ (by rw [q2]; exact h6) q1 q3 (by rw [hsl]; exact k2_hasslot (q4 k hk)) rfl rfl hd key
  · unfold u_lay at hlay
    rw [if_pos hf] at hlay
    have hcf : m.cls = cf := by
      obtain ⟨_, _, c', _, _, _, -, -, hf', -, -, -, hown2, -⟩ := Cond.laysFinal_spec hlay
      have e1 : c' = cf := by have := hi.symm.trans hf'; simp at this; exact this.1.symm
      rw [hf3] at hown2
      rw [← e1]; exact Option.some.inj (hown.symm.trans hown2)
    have h6 := u_fits hfc hkC hkind (Or.inr hlay) hi (hok.2.1 k hk) hn hfit
    exact W.putFinK hx hb hown (hts _ hlink) hi hst hcf (hnm.trans hf2) (by rw [q2]; exact h6) q1 q3 (by rw [hsl]; exact k2_hasslot (q4 k hk)) rfl rfl hd key
theorem ix_in {i n : Int} (hI : inI i) (h0 : 0 ≤ i) (h1 : i < n) : ¬ (Int32.ofInt i < 0 ∨ n.toNat ≤ (Int32.ofInt i).toNatClampNeg) ∧ (Int32.ofInt i).toNatClampNeg = i.toNat := by
  have e : (Int32.ofInt i).toNatClampNeg = i.toNat := by
    show (Int32.ofInt i).toInt.toNat = _
    rw [i32_toInt hI]
  refine ⟨?_, e⟩
  rintro (h | h)
  · have := (i32_lt hI inI0).mp h; omega
  · rw [e] at h; omega
theorem X_iaload {r i : Int} (hd : decode B.2.1 pc = .ok (.iaload, 1)) (hT : S.1 r = 20) (h0 : 0 ≤ i) (h1 : i < S.2.1 r) (kk : XJ l G B Q d (pc + 1) ls (vi (V r i) :: st) S V mc ms) : XJ l G B Q d pc ls (vi i :: vr r :: st) S V mc ms := by
  intro p e R s m args below meth c Z K N C H locs cells slots la X
  obtain ⟨⟨hx, hb, hml, hown, hts, hnm⟩, hK, hR, hRt⟩ := id C
  have ht : (20 : Int) ∈ am_ats := by decide
  obtain ⟨o1, o2, o3, o4⟩ := X.1.1.2.2.2 r _ ht hT
  obtain ⟨hin, hix⟩ := ix_in (vok_h X.2.2) h0 h1
  have hpos := X.1.1.pos (r := r) (by rw [hT]; decide)
  have hlt : i.toNat < (S.2.1 r).toNat := by omega
  refine W.iald hx hb o3 ((hK.2.1 _ ht).1 _ _) (fun h => by cases h) (by rw [arrV_size]; exact hin) (v := cvt (aty 20) (V r i)) (by rw [hix, arrV_read _ _ hlt, show ((i.toNat : Nat) : Int) = i by omega]) rfl (by show tv (vi i) :: rv r :: _ = _; rw [rv_pos hpos]; rfl) hd ?_
  exact kk p e R s m args below meth c Z K N C H locs cells slots la ⟨X.1, X.2.1, vok_c (v := vi (V r i)) (o4 i) (vok_t (vok_t X.2.2))⟩
theorem X_baload {r i : Int} (hd : decode B.2.1 pc = .ok (.baload, 1)) (hT : S.1 r = 21) (h0 : 0 ≤ i) (h1 : i < S.2.1 r) (kk : XJ l G B Q d (pc + 1) ls (vi (V r i) :: st) S V mc ms) : XJ l G B Q d pc ls (vi i :: vr r :: st) S V mc ms := by
  intro p e R s m args below meth c Z K N C H locs cells slots la X
  obtain ⟨⟨hx, hb, hml, hown, hts, hnm⟩, hK, hR, hRt⟩ := id C
  have ht : (21 : Int) ∈ am_ats := by decide
  obtain ⟨o1, o2, o3, o4⟩ := X.1.1.2.2.2 r _ ht hT
  obtain ⟨hin, hix⟩ := ix_in (vok_h X.2.2) h0 h1
  have hpos := X.1.1.pos (r := r) (by rw [hT]; decide)
  have hlt : i.toNat < (S.2.1 r).toNat := by omega
  refine W.bald hx hb o3 ((hK.2.1 _ ht).1 _ _) (fun h => by cases h) (by rw [arrV_size]; exact hin) (v := cvt (aty 21) (V r i)) (by rw [hix, arrV_read _ _ hlt, show ((i.toNat : Nat) : Int) = i by omega]) rfl (by show tv (vi i) :: rv r :: _ = _; rw [rv_pos hpos]; rfl) hd ?_
  exact kk p e R s m args below meth c Z K N C H locs cells slots la ⟨X.1, X.2.1, vok_c (v := vi (V r i)) (by have := o4 i; simp only [aty, rok] at this; show inI _; unfold inI; simp at this; omega) (vok_t (vok_t X.2.2))⟩
theorem X_laload {r i : Int} (hd : decode B.2.1 pc = .ok (.laload, 1)) (hT : S.1 r = 22) (h0 : 0 ≤ i) (h1 : i < S.2.1 r) (kk : XJ l G B Q d (pc + 1) ls (vl (V r i) :: st) S V mc ms) : XJ l G B Q d pc ls (vi i :: vr r :: st) S V mc ms := by
  intro p e R s m args below meth c Z K N C H locs cells slots la X
  obtain ⟨⟨hx, hb, hml, hown, hts, hnm⟩, hK, hR, hRt⟩ := id C
  have ht : (22 : Int) ∈ am_ats := by decide
  obtain ⟨o1, o2, o3, o4⟩ := X.1.1.2.2.2 r _ ht hT
  obtain ⟨hin, hix⟩ := ix_in (vok_h X.2.2) h0 h1
  have hpos := X.1.1.pos (r := r) (by rw [hT]; decide)
  have hlt : i.toNat < (S.2.1 r).toNat := by omega
  refine W.lald hx hb o3 ((hK.2.1 _ ht).1 _ _) (fun h => by cases h) (by rw [arrV_size]; exact hin) (v := cvt (aty 22) (V r i)) (by rw [hix, arrV_read _ _ hlt, show ((i.toNat : Nat) : Int) = i by omega]) rfl (by show tv (vi i) :: rv r :: _ = _; rw [rv_pos hpos]; rfl) hd ?_
  exact kk p e R s m args below meth c Z K N C H locs cells slots la ⟨X.1, X.2.1, vok_c (v := vl (V r i)) (o4 i) (vok_t (vok_t X.2.2))⟩
theorem X_aaload30 {r i : Int} (hd : decode B.2.1 pc = .ok (.aaload, 1)) (hT : S.1 r = 30) (h0 : 0 ≤ i) (h1 : i < S.2.1 r) (kk : XJ l G B Q d (pc + 1) ls (vr (V r i) :: st) S V mc ms) : XJ l G B Q d pc ls (vi i :: vr r :: st) S V mc ms := by
  intro p e R s m args below meth c Z K N C H locs cells slots la X
  obtain ⟨⟨hx, hb, hml, hown, hts, hnm⟩, hK, hR, hRt⟩ := id C
  have ht : (30 : Int) ∈ am_ats := by decide
  obtain ⟨o1, o2, o3, o4⟩ := X.1.1.2.2.2 r _ ht hT
  obtain ⟨hin, hix⟩ := ix_in (vok_h X.2.2) h0 h1
  have hpos := X.1.1.pos (r := r) (by rw [hT]; decide)
  have hlt : i.toNat < (S.2.1 r).toNat := by omega
  refine W.aald hx hb o3 ((hK.2.1 _ ht).1 _ _) rfl (fun h => by cases h) (by rw [arrV_size]; exact hin) (v := cvt (aty 30) (V r i)) (by rw [hix, arrV_read _ _ hlt, show ((i.toNat : Nat) : Int) = i by omega]) rfl (by show tv (vi i) :: rv r :: _ = _; rw [rv_pos hpos]; rfl) hd ?_
  exact kk p e R s m args below meth c Z K N C H locs cells slots la ⟨X.1, X.2.1, vok_c (v := vr (V r i)) (o4 i) (vok_t (vok_t X.2.2))⟩
theorem X_aaload32 {r i : Int} (hd : decode B.2.1 pc = .ok (.aaload, 1)) (hT : S.1 r = 32) (h0 : 0 ≤ i) (h1 : i < S.2.1 r) (kk : XJ l G B Q d (pc + 1) ls (vr (V r i) :: st) S V mc ms) : XJ l G B Q d pc ls (vi i :: vr r :: st) S V mc ms := by
  intro p e R s m args below meth c Z K N C H locs cells slots la X
  obtain ⟨⟨hx, hb, hml, hown, hts, hnm⟩, hK, hR, hRt⟩ := id C
  have ht : (32 : Int) ∈ am_ats := by decide
  obtain ⟨o1, o2, o3, o4⟩ := X.1.1.2.2.2 r _ ht hT
  obtain ⟨hin, hix⟩ := ix_in (vok_h X.2.2) h0 h1
  have hpos := X.1.1.pos (r := r) (by rw [hT]; decide)
  have hlt : i.toNat < (S.2.1 r).toNat := by omega
  refine W.aald hx hb o3 ((hK.2.1 _ ht).1 _ _) rfl (fun h => by cases h) (by rw [arrV_size]; exact hin) (v := cvt (aty 32) (V r i)) (by rw [hix, arrV_read _ _ hlt, show ((i.toNat : Nat) : Int) = i by omega]) rfl (by show tv (vi i) :: rv r :: _ = _; rw [rv_pos hpos]; rfl) hd ?_
  exact kk p e R s m args below meth c Z K N C H locs cells slots la ⟨X.1, X.2.1, vok_c (v := vr (V r i)) (o4 i) (vok_t (vok_t X.2.2))⟩
theorem X_aaload33 {r i : Int} (hd : decode B.2.1 pc = .ok (.aaload, 1)) (hT : S.1 r = 33) (h0 : 0 ≤ i) (h1 : i < S.2.1 r) (kk : XJ l G B Q d (pc + 1) ls (vr (V r i) :: st) S V mc ms) : XJ l G B Q d pc ls (vi i :: vr r :: st) S V mc ms := by
  intro p e R s m args below meth c Z K N C H locs cells slots la X
  obtain ⟨⟨hx, hb, hml, hown, hts, hnm⟩, hK, hR, hRt⟩ := id C
  have ht : (33 : Int) ∈ am_ats := by decide
  obtain ⟨o1, o2, o3, o4⟩ := X.1.1.2.2.2 r _ ht hT
  obtain ⟨hin, hix⟩ := ix_in (vok_h X.2.2) h0 h1
  have hpos := X.1.1.pos (r := r) (by rw [hT]; decide)
  have hlt : i.toNat < (S.2.1 r).toNat := by omega
  refine W.aald hx hb o3 ((hK.2.1 _ ht).1 _ _) rfl (fun h => by cases h) (by rw [arrV_size]; exact hin) (v := cvt (aty 33) (V r i)) (by rw [hix, arrV_read _ _ hlt, show ((i.toNat : Nat) : Int) = i by omega]) rfl (by show tv (vi i) :: rv r :: _ = _; rw [rv_pos hpos]; rfl) hd ?_
  exact kk p e R s m args below meth c Z K N C H locs cells slots la ⟨X.1, X.2.1, vok_c (v := vr (V r i)) (o4 i) (vok_t (vok_t X.2.2))⟩
theorem X_aaload34 {r i : Int} (hd : decode B.2.1 pc = .ok (.aaload, 1)) (hT : S.1 r = 34) (h0 : 0 ≤ i) (h1 : i < S.2.1 r) (kk : XJ l G B Q d (pc + 1) ls (vr (V r i) :: st) S V mc ms) : XJ l G B Q d pc ls (vi i :: vr r :: st) S V mc ms := by
  intro p e R s m args below meth c Z K N C H locs cells slots la X
  obtain ⟨⟨hx, hb, hml, hown, hts, hnm⟩, hK, hR, hRt⟩ := id C
  have ht : (34 : Int) ∈ am_ats := by decide
  obtain ⟨o1, o2, o3, o4⟩ := X.1.1.2.2.2 r _ ht hT
  obtain ⟨hin, hix⟩ := ix_in (vok_h X.2.2) h0 h1
  have hpos := X.1.1.pos (r := r) (by rw [hT]; decide)
  have hlt : i.toNat < (S.2.1 r).toNat := by omega
  refine W.aald hx hb o3 ((hK.2.1 _ ht).1 _ _) rfl (fun h => by cases h) (by rw [arrV_size]; exact hin) (v := cvt (aty 34) (V r i)) (by rw [hix, arrV_read _ _ hlt, show ((i.toNat : Nat) : Int) = i by omega]) rfl (by show tv (vi i) :: rv r :: _ = _; rw [rv_pos hpos]; rfl) hd ?_
  exact kk p e R s m args below meth c Z K N C H locs cells slots la ⟨X.1, X.2.1, vok_c (v := vr (V r i)) (o4 i) (vok_t (vok_t X.2.2))⟩
theorem X_aaload36 {r i : Int} (hd : decode B.2.1 pc = .ok (.aaload, 1)) (hT : S.1 r = 36) (h0 : 0 ≤ i) (h1 : i < S.2.1 r) (kk : XJ l G B Q d (pc + 1) ls (vr (V r i) :: st) S V mc ms) : XJ l G B Q d pc ls (vi i :: vr r :: st) S V mc ms := by
  intro p e R s m args below meth c Z K N C H locs cells slots la X
  obtain ⟨⟨hx, hb, hml, hown, hts, hnm⟩, hK, hR, hRt⟩ := id C
  have ht : (36 : Int) ∈ am_ats := by decide
  obtain ⟨o1, o2, o3, o4⟩ := X.1.1.2.2.2 r _ ht hT
  obtain ⟨hin, hix⟩ := ix_in (vok_h X.2.2) h0 h1
  have hpos := X.1.1.pos (r := r) (by rw [hT]; decide)
  have hlt : i.toNat < (S.2.1 r).toNat := by omega
  refine W.aald hx hb o3 ((hK.2.1 _ ht).1 _ _) rfl (fun h => by cases h) (by rw [arrV_size]; exact hin) (v := cvt (aty 36) (V r i)) (by rw [hix, arrV_read _ _ hlt, show ((i.toNat : Nat) : Int) = i by omega]) rfl (by show tv (vi i) :: rv r :: _ = _; rw [rv_pos hpos]; rfl) hd ?_
  exact kk p e R s m args below meth c Z K N C H locs cells slots la ⟨X.1, X.2.1, vok_c (v := vr (V r i)) (o4 i) (vok_t (vok_t X.2.2))⟩
theorem X_aaload37 {r i : Int} (hd : decode B.2.1 pc = .ok (.aaload, 1)) (hT : S.1 r = 37) (h0 : 0 ≤ i) (h1 : i < S.2.1 r) (kk : XJ l G B Q d (pc + 1) ls (vr (V r i) :: st) S V mc ms) : XJ l G B Q d pc ls (vi i :: vr r :: st) S V mc ms := by
  intro p e R s m args below meth c Z K N C H locs cells slots la X
  obtain ⟨⟨hx, hb, hml, hown, hts, hnm⟩, hK, hR, hRt⟩ := id C
  have ht : (37 : Int) ∈ am_ats := by decide
  obtain ⟨o1, o2, o3, o4⟩ := X.1.1.2.2.2 r _ ht hT
  obtain ⟨hin, hix⟩ := ix_in (vok_h X.2.2) h0 h1
  have hpos := X.1.1.pos (r := r) (by rw [hT]; decide)
  have hlt : i.toNat < (S.2.1 r).toNat := by omega
  refine W.aald hx hb o3 ((hK.2.1 _ ht).1 _ _) rfl (fun h => by cases h) (by rw [arrV_size]; exact hin) (v := cvt (aty 37) (V r i)) (by rw [hix, arrV_read _ _ hlt, show ((i.toNat : Nat) : Int) = i by omega]) rfl (by show tv (vi i) :: rv r :: _ = _; rw [rv_pos hpos]; rfl) hd ?_
  exact kk p e R s m args below meth c Z K N C H locs cells slots la ⟨X.1, X.2.1, vok_c (v := vr (V r i)) (o4 i) (vok_t (vok_t X.2.2))⟩
theorem X_aaload38 {r i : Int} (hd : decode B.2.1 pc = .ok (.aaload, 1)) (hT : S.1 r = 38) (h0 : 0 ≤ i) (h1 : i < S.2.1 r) (kk : XJ l G B Q d (pc + 1) ls (vr (V r i) :: st) S V mc ms) : XJ l G B Q d pc ls (vi i :: vr r :: st) S V mc ms := by
  intro p e R s m args below meth c Z K N C H locs cells slots la X
  obtain ⟨⟨hx, hb, hml, hown, hts, hnm⟩, hK, hR, hRt⟩ := id C
  have ht : (38 : Int) ∈ am_ats := by decide
  obtain ⟨o1, o2, o3, o4⟩ := X.1.1.2.2.2 r _ ht hT
  obtain ⟨hin, hix⟩ := ix_in (vok_h X.2.2) h0 h1
  have hpos := X.1.1.pos (r := r) (by rw [hT]; decide)
  have hlt : i.toNat < (S.2.1 r).toNat := by omega
  refine W.aald hx hb o3 ((hK.2.1 _ ht).1 _ _) rfl (fun h => by cases h) (by rw [arrV_size]; exact hin) (v := cvt (aty 38) (V r i)) (by rw [hix, arrV_read _ _ hlt, show ((i.toNat : Nat) : Int) = i by omega]) rfl (by show tv (vi i) :: rv r :: _ = _; rw [rv_pos hpos]; rfl) hd ?_
  exact kk p e R s m args below meth c Z K N C H locs cells slots la ⟨X.1, X.2.1, vok_c (v := vr (V r i)) (o4 i) (vok_t (vok_t X.2.2))⟩
theorem X_iastore {r i z : Int} (hd : decode B.2.1 pc = .ok (.iastore, 1)) (hT : S.1 r = 20) (h0 : 0 ≤ i) (h1 : i < S.2.1 r) (kk : XJ l G B Q d (pc + 1) ls st S (up V r i z) mc ms) : XJ l G B Q d pc ls (vi z :: vi i :: vr r :: st) S V mc ms := by
  intro p e R s m args below meth c Z K N C H locs cells slots la X
  obtain ⟨⟨hx, hb, hml, hown, hts, hnm⟩, hK, hR, hRt⟩ := id C
  obtain ⟨⟨hP, hVS, hc1, hc2⟩, hL, hO⟩ := X
  have ht : (20 : Int) ∈ am_ats := by decide
  obtain ⟨o1, o2, o3, o4⟩ := hP.2.2.2 r _ ht hT
  obtain ⟨hin, hix⟩ := ix_in (vok_h (vok_t hO)) h0 h1
  have hpos := hP.pos (r := r) (by rw [hT]; decide)
  have hz : rok (aty 20) z := vok_h hO
  refine W.iast hx hb o3 ((hK.2.1 _ ht).1 _ _) (fun h => by cases h) (by rw [arrV_size]; exact hin) rfl (by show tv (vi z) :: tv (vi i) :: rv r :: _ = _; rw [rv_pos hpos]; rfl) hd fun H' e1 e2 e3 => ?_
  rw [hix] at e1 ⊢
  exact kk p e R s m args below meth c Z K N C H' _ cells slots la ⟨⟨hP.arr ht hT h0 hz (e1) e2 e3, hVS.put e2 e3 (hP.own (by rw [hT]; decide)), hc1, hc2⟩, hL, vok_t (vok_t (vok_t hO))⟩
theorem X_bastore {r i z : Int} (hd : decode B.2.1 pc = .ok (.bastore, 1)) (hT : S.1 r = 21) (h0 : 0 ≤ i) (h1 : i < S.2.1 r) (kk : XJ l G B Q d (pc + 1) ls st S (up V r i (wb z)) mc ms) : XJ l G B Q d pc ls (vi z :: vi i :: vr r :: st) S V mc ms := by
  intro p e R s m args below meth c Z K N C H locs cells slots la X
  obtain ⟨⟨hx, hb, hml, hown, hts, hnm⟩, hK, hR, hRt⟩ := id C
  obtain ⟨⟨hP, hVS, hc1, hc2⟩, hL, hO⟩ := X
  have ht : (21 : Int) ∈ am_ats := by decide
  obtain ⟨o1, o2, o3, o4⟩ := hP.2.2.2 r _ ht hT
  obtain ⟨hin, hix⟩ := ix_in (vok_h (vok_t hO)) h0 h1
  have hpos := hP.pos (r := r) (by rw [hT]; decide)
  have hz : rok (aty 21) (wb z) := by show -128 ≤ wb z ∧ wb z ≤ 127; unfold wb; omega
  refine W.bast hx hb o3 ((hK.2.1 _ ht).1 _ _) (fun h => by cases h) (by rw [arrV_size]; exact hin) rfl (by show tv (vi z) :: tv (vi i) :: rv r :: _ = _; rw [rv_pos hpos]; rfl) hd fun H' e1 e2 e3 => ?_
  rw [hix] at e1 ⊢
  exact kk p e R s m args below meth c Z K N C H' _ cells slots la ⟨⟨hP.arr ht hT h0 hz (by rw [e1]; congr 2; exact congrArg Value.int (i32_wb z)) e2 e3, hVS.put e2 e3 (hP.own (by rw [hT]; decide)), hc1, hc2⟩, hL, vok_t (vok_t (vok_t hO))⟩
theorem X_lastore {r i z : Int} (hd : decode B.2.1 pc = .ok (.lastore, 1)) (hT : S.1 r = 22) (h0 : 0 ≤ i) (h1 : i < S.2.1 r) (kk : XJ l G B Q d (pc + 1) ls st S (up V r i z) mc ms) : XJ l G B Q d pc ls (vl z :: vi i :: vr r :: st) S V mc ms := by
  intro p e R s m args below meth c Z K N C H locs cells slots la X
  obtain ⟨⟨hx, hb, hml, hown, hts, hnm⟩, hK, hR, hRt⟩ := id C
  obtain ⟨⟨hP, hVS, hc1, hc2⟩, hL, hO⟩ := X
  have ht : (22 : Int) ∈ am_ats := by decide
  obtain ⟨o1, o2, o3, o4⟩ := hP.2.2.2 r _ ht hT
  obtain ⟨hin, hix⟩ := ix_in (vok_h (vok_t hO)) h0 h1
  have hpos := hP.pos (r := r) (by rw [hT]; decide)
  have hz : rok (aty 22) z := vok_h hO
  refine W.last hx hb o3 ((hK.2.1 _ ht).1 _ _) (fun h => by cases h) (by rw [arrV_size]; exact hin) rfl (by show tv (vl z) :: tv (vi i) :: rv r :: _ = _; rw [rv_pos hpos]; rfl) hd fun H' e1 e2 e3 => ?_
  rw [hix] at e1 ⊢
  exact kk p e R s m args below meth c Z K N C H' _ cells slots la ⟨⟨hP.arr ht hT h0 hz (e1) e2 e3, hVS.put e2 e3 (hP.own (by rw [hT]; decide)), hc1, hc2⟩, hL, vok_t (vok_t (vok_t hO))⟩
end MEMROWS
