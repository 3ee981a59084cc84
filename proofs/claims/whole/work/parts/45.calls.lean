/-! ===== calls that use an item ===== -/
theorem ev_lab {c : Int → Int} {S : Sh} {V V' M M' : Mem} {b : Int} (F : EvF b (Wv c S V) M (Wv c S V') M') : ∀ L j, L = 80 ∨ L % 128 = 81 → V' (c L) j = V (c L) j := fun L j q => Wv_inj (fun j => F.1 L j (by omega) (by unfold bkL; omega)) j
theorem EvF.m0 {N M N' M' : Mem} {b j : Int} (F : EvF b N M N' M') (h : ¬ (j = 9 ∨ j = 64 ∨ j = 65 ∨ j = 68)) : M' 0 j = M 0 j := F.2.1 0 j (by unfold dM; omega)
theorem pm_uses {d : Nat} {M M1 : Mem} {Q : Int → Mem → Prop} {b it : Int} (run : RunM (d + 1) n_use_0 [it] (mGo M b) 0 M1) (h0 : M1 0 65 = 0 → Q 0 M1) (h1 : M1 0 65 ≠ 0 → Q (-3) M1) : PM (d + 2) n_uses_0 [b, it] M Q := by
  refine st_uses_0 ?_
  show PM (d + 1) n_begin_0 [b] M _
  refine st_begin_0 ?_
  exact run _ ⟨h0, h1⟩
section UW
variable {l : Launch} {G : GT} {Q : Int → Sh → Mem → Prop} {c : Int → Int} {S : Sh} {V M : Mem} {b it : Int} {d dm : Nat}
theorem ct_usedWell (hc : Cn c S) (hR : Rel c (Wv c S V) M) (b0 : 0 ≤ b) (b1 : b < M 0 8) (ok : itOK M b it) (hd : 140 ≤ d) (hdm : 1300 ≤ dm) (h1 : ∀ V' M' gm U', RunM dm n_uses_0 [b, it] M 0 M' → EvI c (Wv c S V') M' gm U' b → EvF b (Wv c S V) M (Wv c S V') M' → NU b M' → M' 0 64 = 0 → M' 0 65 = 0 → Wv c S V' 30 3 = 0 → M' 52 (160 * b + it) = 1 → Q 1 S V') (h2 : ∀ V' M' gm U', RunM dm n_uses_0 [b, it] M (-3) M' → EvI c (Wv c S V') M' gm U' b → EvF b (Wv c S V) M (Wv c S V') M' → NU b M' → M' 0 65 ≠ 0 → Q 0 S V') : Ct l G bX11_usedWell Q d 0 0 [vr (c 60), vi b, vi it] S V := qX11_usedWell fun _ _ _ => vX11_usedWell_0 <| by
  have t := hR.top
  have k := hR.wk
  obtain ⟨⟨gm, U, E⟩, nu, F⟩ := hR.ev0 b0 b1
  obtain ⟨dm', rfl⟩ : ∃ k, dm = k + 2 := ⟨dm - 2, by omega⟩
  refine ⟨t.vg60, CT.pu (by omega) (fun d1 hd1 => ct_bookAt hR (fun _ _ => ⟨rfl, rfl, fun z => absurd z (hc.2 _).1, fun _ => ?_⟩) (fun h => absurd ⟨b0, b1⟩ h))⟩
  rw [t.vr4]
  refine ⟨t.vg60, k.vg30, CT.im (by omega) (fun d2 hd2 => qX10_beginWith fun _ _ _ => vX10_beginWith_0 ⟨k.vg30, CT.im (by omega) (fun d3 hd3 => ?_)⟩)⟩
  have hW : Wv c S (up (up (up (up V (c 30) 0 (c (128 * b + 1))) (c 30) 1 0) (c 30) 3 0) (c 30) 5 0) = nGo (Wv c S V) (c (128 * b + 1)) := by
    rw [Wv_up hc (by decide), Wv_up hc (by decide), Wv_up hc (by decide), Wv_up hc (by decide)]
    rfl
  have ok' : itOK (mGo M b) b it := by
    unfold itOK at *
    rw [mGo_ne (by omega), mGo_ne (by omega)]
    exact ok
  have hU := use_all (gm := gm) (b := b) hc 12 0 (by decide)
  refine hU l G _ d3 (dm' + 1) it _ _ (mGo M b) U hW E mGo_2 mGo_1 (fun _ => nu) ok' (by rw [nGo_2]; decide) (by omega) (by omega) (fun V1 N1 M1 U1 hW1 run s n9 n10 hs => ?_)
  subst hW1
  have E1 := s.1
  have F1 := F.tr s.2.1
  have nu1 := nu.st s.2.2.2.1
  have e64 : M1 0 64 = 0 := s.2.2.1.trans mGo_2
  obtain ⟨v, tg, ln⟩ := Wr (rfl : Wv c S V1 = Wv c S V1)
  simp (disch := omega) only [v, tg, E1.wk.g30, E1.fl]
  have q0 : M1 0 65 = 0 → Q 1 S V1 := fun f => h1 V1 M1 gm U1 (fun Q hq => pm_uses run (fun _ => hq) (fun z => absurd f z)) E1 F1 nu1 e64 f ((hs f).1.trans nGo_2) (by
    rcases (hs f).2 with r | r
    · exact r
    · exact absurd r.2 (nu it (by rcases ok with o | o <;> omega) (by have := (hR.bk b0 b1).bk.ne1; rcases ok with o | ⟨o1, o2, o3⟩ <;> omega)))
  have q1 : M1 0 65 ≠ 0 → Q 0 S V1 := fun f => h2 V1 M1 gm U1 (fun Q hq => pm_uses run (fun z => absurd z f) (fun _ => hq)) E1 F1 nu1 f
  exact ⟨trivial, fun f => ⟨fun _ => q1 f, fun z => absurd trivial z⟩, fun f => ⟨fun z => absurd z (by decide), fun _ => q0 (by omega)⟩⟩
end UW
theorem call_use (b e : Int) : CallOK CI bX11_use n_use__0 [vi b, vi e] [b, e] := call_upd fun l G c S V M Q hc hR hk => qX11_use fun _ _ _ => vX11_use_0 <| by
  have t := hR.top
  have n1 := t.nb1
  have tl := t.tl0
  refine ⟨t.vg60, CT.pu (by decide) (fun d1 hd1 => ct_enumOf hc hR (by omega) (fun b0 b1 e0 e1 => ⟨rfl, rfl, fun _ => ⟨t.vg60, CT.im (by decide) (fun d2 hd2 => ?_)⟩, fun z => absurd (hc.2 _).1 z⟩) (fun h => ⟨rfl, rfl, fun z => absurd rfl z, fun _ => hk (-1) V M (fun Q hq => st_use__0 (pm_isEnum n1 (fun a1 a2 a3 a4 => absurd ⟨a1, a2, a3, a4⟩ h) (fun _ => ⟨fun _ => hq, fun z => absurd rfl z⟩))) (fun _ _ _ => rfl) hR (by omega)⟩))⟩
  have ne1 := (hR.bk b0 b1).bk.ne1
  refine ct_usedWell (dm := 2046) hc hR b0 b1 (Or.inl ⟨by omega, e0, e1⟩) (by omega) (by decide) (fun V' M' gm U' run E F nu d0 f0 t0 w1 => ⟨fun z => absurd z (by decide), fun _ => hk 0 V' M' (fun Q hq => st_use__0 (pm_isEnum n1 (fun _ _ _ _ => ⟨fun z => absurd z (by decide), fun _ => run _ hq⟩) (fun h => absurd ⟨b0, b1, e0, e1⟩ h))) (ev_lab F) (hR.ev F E nu) (by rw [F.m0 (by omega)]; omega)⟩) (fun V' M' gm U' run E F nu f => ⟨fun _ => hk (-3) V' M' (fun Q hq => st_use__0 (pm_isEnum n1 (fun _ _ _ _ => ⟨fun z => absurd z (by decide), fun _ => run _ hq⟩) (fun h => absurd ⟨b0, b1, e0, e1⟩ h))) (ev_lab F) (hR.ev F E nu) (by rw [F.m0 (by omega)]; omega), fun z => absurd rfl z⟩)
theorem up_out {c : Int → Int} {S : Sh} {V M : Mem} {v : Int} (hc : Cn c S) (h : Rel c (Wv c S V) M) : Rel c (Wv c S (up V (c 60) 8 v)) (up M 0 69 v) := by
  rw [Wv_up hc (by decide)]
  exact h.out
theorem call_argument (b e i : Int) : CallOK CI bX11_argument n_argument_0 [vi b, vi e, vi i] [b, e, i] := call_upd fun l G c S V M Q hc hR hk => qX11_argument fun _ _ _ _ => vX11_argument_0 <| by
  have t := hR.top
  have n1 := t.nb1
  have tl := t.tl0
  have he12 : ∀ b, 0 ≤ b → b < M 0 8 → M 10 b ≤ 12 := fun b b0 b1 => (hR.bk b0 b1).bk.ne1
  have no : ¬ (0 ≤ b ∧ b < M 0 8 ∧ 0 ≤ e ∧ e < M 10 b ∧ 0 ≤ i ∧ i < M 14 (12 * b + e)) → Q (-1) S V := fun h => hk (-1) V M (fun Q hq => st_argument_0 (pm_isConstant n1 he12 (fun a1 a2 a3 a4 a5 a6 => absurd ⟨a1, a2, a3, a4, a5, a6⟩ h) (fun _ => ⟨fun z => absurd rfl z, fun _ => hq⟩))) (fun _ _ _ => rfl) hR (by omega)
  refine ⟨t.vg60, CT.pu (by decide) (fun d1 hd1 => ct_enumOf hc hR (by omega) (fun b0 b1 e0 e1 => ⟨rfl, rfl, fun _ => ⟨((hR.bk b0 b1).be e0 e1).en.vg3, CT.pu (by decide) (fun d2 hd2 => ct_constantAt ((hR.bk b0 b1).be e0 e1) (fun i0 i1 => ⟨rfl, rfl, fun _ => ⟨t.vg60, CT.im (by decide) (fun d3 hd3 => ?_)⟩, fun z => absurd (hc.2 _).1 z⟩) (fun h => ⟨rfl, rfl, fun z => absurd rfl z, fun _ => no (by omega)⟩))⟩, fun z => absurd (hc.2 _).1 z⟩) (fun h => ⟨rfl, rfl, fun z => absurd rfl z, fun _ => no (by omega)⟩))⟩
  have ne1 := (hR.bk b0 b1).bk.ne1
  have nc1 := ((hR.bk b0 b1).be e0 e1).en.nc1
  refine ct_usedWell (dm := 2046) hc hR b0 b1 (Or.inl ⟨by omega, e0, e1⟩) (by omega) (by decide) (fun V' M' gm U' run E F nu d0 f0 t0 w1 => ⟨fun _ => ?_, fun z => absurd (by decide) z⟩) (fun V' M' gm U' run E F nu f => ⟨fun z => absurd rfl z, fun _ => ?_⟩)
  · have R' := hR.ev F E nu
    have m10 : M' 10 b = M 10 b := F.st (by omega)
    have m14 : M' 14 (12 * b + e) = M 14 (12 * b + e) := F.st (by omega)
    have he := E.bh.be e0 (by omega : e < M' 10 b)
    have wc := E.bd.wc e e0 (by omega) w1
    have ar := E.bd.ar e i e0 (by omega) i0 (by omega)
    rw [Wv_el (by decide)] at ar
    rw [ar]
    refine ⟨(he.cn i0 (by omega)).vg5, R'.top.vg60, hk 0 _ (up M' 0 69 (M' 54 (24 * (12 * b + e) + i))) (fun Q hq => st_argument_0 (pm_isConstant n1 he12 (fun _ _ _ _ _ _ => ⟨fun _ => run _ ⟨by omega, by omega, by omega, by omega, by omega, by omega, by omega, by omega, by omega, by omega, st_ends_0 ⟨fun _ => hq, fun z => absurd f0 z⟩⟩, fun z => absurd (by decide) z⟩) (fun h => absurd ⟨b0, b1, e0, e1, i0, i1⟩ h))) (fun L j q => (upc_ne hc (by omega)).trans (ev_lab F L j q)) (up_out hc R') (by rw [up_ne (by omega), F.m0 (by omega)]; omega)⟩
  · exact hk (-3) V' M' (fun Q hq => st_argument_0 (pm_isConstant n1 he12 (fun _ _ _ _ _ _ => ⟨fun _ => run _ ⟨by omega, by omega, by omega, by omega, by omega, by omega, by omega, by omega, by omega, by omega, st_ends_0 ⟨fun z => absurd z f, fun _ => hq⟩⟩, fun z => absurd (by decide) z⟩) (fun h => absurd ⟨b0, b1, e0, e1, i0, i1⟩ h))) (ev_lab F) (hR.ev F E nu) (by rw [F.m0 (by omega)]; omega)

