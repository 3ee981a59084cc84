/-! ===== act, branch ===== -/
theorem EvI.nine {c : Int → Int} {b y : Int} {N M gm : Mem} {U : Int → Int} (h : EvI c N M gm U b) : EvI c (up N 30 9 y) M gm U b := by
  have k := h.wk
  refine h.wch (fun L j hL => up_ne (by omega)) (fun _ _ _ => rfl) rfl (k.ch (fun L j _ _ _ => up_ne (by omega)) (up_ne (by omega)) (up_ne (by omega)) (up_ne (by omega)) (up_ne (by omega)) ?_ k.cc0 k.cc1 (fun j j0 j1 => ?_) (fun j j0 j1 => ?_)) (up_ne (by omega)) rfl ?_ h.f01 ?_ h.dp0 h.dp1 (fun j j0 j1 => ?_) ?_ ?_ h.fc
  · rw [up_ne (by omega)]; exact k.cc
  · rw [up_ne (by omega)]; exact k.ck j j0 j1
  · rw [up_ne (by omega)]; exact k.ci j j0 j1
  · rw [up_ne (by omega)]; exact h.fl
  · rw [up_ne (by omega)]; exact h.dp
  · rw [up_ne (by omega)]; exact h.uw j j0 j1
  · rw [up_ne (by omega)]; exact h.tp0
  · rw [up_ne (by omega)]; exact h.tp1
theorem EvF.nine {b y : Int} {N M : Mem} (b0 : 0 ≤ b) : EvF b N M (up N 30 9 y) M := ⟨fun L j a _ => up_ne (by omega), fun _ _ _ => rfl, fun j => up_ne (by omega)⟩
theorem pm_act {b e i a : Int} {M M' : Mem} {Q : Int → Mem → Prop} (n1 : M 0 8 ≤ 10) (he12 : ∀ b, 0 ≤ b → b < M 0 8 → M 10 b ≤ 12) (b0 : 0 ≤ b) (b1 : b < M 0 8) (e0 : 0 ≤ e) (e1 : e < M 10 b) (i0 : 0 ≤ i) (i1 : i < M 14 (12 * b + e)) (i24 : M 14 (12 * b + e) ≤ 24) (a0 : 0 ≤ a) (a1 : a < M 11 b) (a4 : M 11 b ≤ 4) (run : RunM 2046 n_uses_0 [b, e] M 0 M') (h1 : M' 22 (4 * (24 * (12 * b + e) + i) + a) ≠ -1 → PM 2046 n_value_0 [M' 22 (4 * (24 * (12 * b + e) + i) + a), 24 * (12 * b + e) + i, a] M' (fun z M2 => PM 2046 n_ends_0 [z] M2 Q)) (h2 : M' 22 (4 * (24 * (12 * b + e) + i) + a) = -1 → M' 19 (4 * (12 * b + e) + a) ≠ -1 → PM 2046 n_value_0 [M' 19 (4 * (12 * b + e) + a), 24 * (12 * b + e) + i, a] M' (fun z M2 => PM 2046 n_ends_0 [z] M2 Q)) (h3 : M' 22 (4 * (24 * (12 * b + e) + i) + a) = -1 → M' 19 (4 * (12 * b + e) + a) = -1 → PM 2046 n_failing_0 [5, -1] M' (fun z M2 => PM 2046 n_ends_0 [z] M2 Q)) : PM 2047 n_act_0 [b, e, i, a] M Q := by
  have q1 := he12 b b0 b1
  refine st_act_0 (pm_isConstant n1 he12 (fun _ _ _ _ _ _ => ⟨fun z => absurd z (by decide), fun _ => ⟨fun z => absurd z (by omega), fun _ => ⟨by omega, by omega, fun _ => ⟨by omega, by omega, by omega, by omega, by omega, by omega, by omega, by omega, run _ ⟨fun _ => ⟨by omega, by omega, by omega, by omega, by omega, by omega, fun y => ⟨by omega, by omega, by omega, by omega, by omega, by omega, by omega, by omega, by omega, by omega, h2 y, fun y2 => h3 y (by omega)⟩, fun y => ⟨h1, fun y2 => absurd y y2⟩⟩, fun z => absurd (by decide) z⟩⟩, fun z => absurd a1 z⟩⟩⟩) (fun h => absurd ⟨b0, b1, e0, e1, i0, i1⟩ h))
theorem call_act (b e i a : Int) : CallOK CI bX11_act n_act_0 [vi b, vi e, vi i, vi a] [b, e, i, a] := call_upd fun l G c S V M Q hc hR hk => qX11_act fun _ _ _ _ _ => vX11_act_0 <| by
  have tp := hR.top
  have n1 := tp.nb1
  have tl := tp.tl0
  have he12 : ∀ b, 0 ≤ b → b < M 0 8 → M 10 b ≤ 12 := fun b b0 b1 => (hR.bk b0 b1).bk.ne1
  have no : ¬ (0 ≤ b ∧ b < M 0 8 ∧ 0 ≤ e ∧ e < M 10 b ∧ 0 ≤ i ∧ i < M 14 (12 * b + e) ∧ 0 ≤ a ∧ a < M 11 b) → Q (-1) S V := fun h => hk (-1) V M (fun Q hq => st_act_0 (pm_isConstant n1 he12 (fun a1 a2 a3 a4 a5 a6 => ⟨fun z => absurd z (by decide), fun _ => ⟨fun _ => hq, fun y1 => ⟨by omega, by omega, fun y2 => absurd ⟨a1, a2, a3, a4, a5, a6, by omega, y2⟩ h, fun _ => hq⟩⟩⟩) (fun _ => ⟨fun _ => hq, fun z => absurd rfl z⟩))) (fun _ _ _ => rfl) hR (by omega)
  refine ⟨tp.vg60, CT.pu (by decide) (fun d1 hd1 => ct_enumOf hc hR (by omega) (fun b0 b1 e0 e1 => ⟨rfl, rfl, fun z => absurd z (hc.2 _).1, fun _ => ⟨((hR.bk b0 b1).be e0 e1).en.vg3, CT.pu (by decide) (fun d2 hd2 => ct_constantAt ((hR.bk b0 b1).be e0 e1) (fun i0 i1 => ⟨rfl, rfl, fun z => absurd z (hc.2 _).1, fun _ => ⟨tp.vg60, CT.pu (by decide) (fun d3 hd3 => ct_hasAct hc hR (by omega) (fun _ _ a0 a1 => ⟨rfl, rfl, fun _ => ⟨tp.vg60, CT.im (by decide) (fun d4 hd4 => ?_)⟩, fun z => absurd (by decide) z⟩) (fun h => ⟨rfl, rfl, fun z => absurd rfl z, fun _ => no (by omega)⟩))⟩⟩) (fun h => ⟨rfl, rfl, fun _ => no (by omega), fun z => absurd rfl z⟩))⟩⟩) (fun h => ⟨rfl, rfl, fun _ => no (by omega), fun z => absurd rfl z⟩))⟩
  have ne1 := (hR.bk b0 b1).bk.ne1
  have na1 := (hR.bk b0 b1).bk.na1
  have nc1 := ((hR.bk b0 b1).be e0 e1).en.nc1
  refine ct_usedWell (dm := 2046) hc hR b0 b1 (Or.inl ⟨by omega, e0, e1⟩) (by omega) (by decide) (fun V' M' gm U' run E F nu d0 f0 t0' w1 => ⟨fun _ => ?_, fun z => absurd (by decide) z⟩) (fun V' M' gm U' run E F nu f => ⟨fun z => absurd rfl z, fun _ => ?_⟩)
  rotate_left
  · exact hk (-3) V' M' (fun Q hq => st_act_0 (pm_isConstant n1 he12 (fun _ _ _ _ _ _ => ⟨fun z => absurd z (by decide), fun _ => ⟨fun z => absurd z (by omega), fun _ => ⟨by omega, by omega, fun _ => ⟨by omega, by omega, by omega, by omega, by omega, by omega, by omega, by omega, run _ ⟨fun z => absurd rfl z, fun _ => hq⟩⟩, fun z => absurd a1 z⟩⟩⟩) (fun h => absurd ⟨b0, b1, e0, e1, i0, i1⟩ h))) (ev_lab F) (hR.ev F E nu) (by rw [F.m0 (by omega)]; omega)
  have R' := hR.ev F E nu
  have m10 : M' 10 b = M 10 b := F.st (by omega)
  have m14 : M' 14 (12 * b + e) = M 14 (12 * b + e) := F.st (by omega)
  have he := E.bh.be e0 (by omega : e < M' 10 b)
  have hcn := he.cn i0 (by omega : i < M' 14 (12 * b + e))
  have hT := E.bt e e0 (by omega)
  have tail : ∀ (d' : Nat) V3 M3 U3 z, EvI c (Wv c S V3) M3 gm U3 b → EvF b (Wv c S V) M (Wv c S V3) M3 → NU b M3 → (∀ Qr : Int → Mem → Prop, PM 2046 n_ends_0 [z] M3 Qr → PM 2047 n_act_0 [b, e, i, a] M Qr) → 1 ≤ d' → S.1 (c 60) = 12 ∧ CT l G bX11_giveOut d' 0 0 [vr (c 60), vi z] S V3 (fun z15 S15 V15 _ _ => Q z15 S15 V15) := by
    intro d' V3 M3 U3 z E3 F3 nu3 rf hd'
    have R3 := hR.ev F3 E3 nu3
    have fl := E3.fl
    rw [Wv_el (by decide)] at fl
    refine ⟨tp.vg60, CT.im hd' (fun d5 hd5 => qX11_giveOut fun _ _ => vX11_giveOut_0 ?_)⟩
    rw [R3.top.vr4, fl]
    refine ⟨tp.vg60, R3.wk.vg30, fun f => hk 0 _ (up M3 0 69 z) (fun Q hq => rf Q (st_ends_0 ⟨fun _ => hq, fun z => absurd f z⟩)) (fun L j q => (upc_ne hc (by omega)).trans (ev_lab F3 L j q)) (up_out hc R3) (by rw [up_ne (by omega), F3.m0 (by omega)]; omega), fun f => hk (-3) V3 M3 (fun Q hq => rf Q (st_ends_0 ⟨fun z => absurd z f, fun _ => hq⟩)) (ev_lab F3) R3 (by rw [F3.m0 (by omega)]; omega)⟩
  have E2 := E.nine (y := 0)
  have F2 : EvF b (Wv c S V) M (up (Wv c S V') 30 9 0) M' := F.tr (EvF.nine b0)
  have hW2 : Wv c S (up V' (c 30) 9 0) = up (Wv c S V') 30 9 0 := Wv_up hc (by decide)
  have he2 := E2.bh.be e0 (by omega : e < M' 10 b)
  have hcn2 := he2.cn i0 (by omega : i < M' 14 (12 * b + e))
  have hT2 := E2.bt e e0 (by omega)
  have tp2 : up (Wv c S V') 30 9 0 30 3 = 0 := by rw [up_ne (by omega)]; exact t0'
  have pre : ∀ (Qr : Int → Mem → Prop), (M' 22 (4 * (24 * (12 * b + e) + i) + a) ≠ -1 → PM 2046 n_value_0 [M' 22 (4 * (24 * (12 * b + e) + i) + a), 24 * (12 * b + e) + i, a] M' (fun z M2 => PM 2046 n_ends_0 [z] M2 Qr)) → (M' 22 (4 * (24 * (12 * b + e) + i) + a) = -1 → M' 19 (4 * (12 * b + e) + a) ≠ -1 → PM 2046 n_value_0 [M' 19 (4 * (12 * b + e) + a), 24 * (12 * b + e) + i, a] M' (fun z M2 => PM 2046 n_ends_0 [z] M2 Qr)) → (M' 22 (4 * (24 * (12 * b + e) + i) + a) = -1 → M' 19 (4 * (12 * b + e) + a) = -1 → PM 2046 n_failing_0 [5, -1] M' (fun z M2 => PM 2046 n_ends_0 [z] M2 Qr)) → PM 2047 n_act_0 [b, e, i, a] M Qr := fun Qr k1 k2 k3 => pm_act n1 he12 b0 b1 e0 e1 i0 i1 nc1 a0 a1 na1 run k1 k2 k3
  have cx : ∀ lv, CXt b M' lv (12 * b + e) i (24 * (12 * b + e) + i) := fun lv => ⟨fun _ => ⟨rfl, i0, by omega, by omega, by omega⟩, fun _ => by rw [show 12 * b + e - 12 * b = e from by omega]; exact w1⟩
  have shared : M' 22 (4 * (24 * (12 * b + e) + i) + a) = -1 → ∀ d5 : Nat, 2000 ≤ d5 → Ct l G bX10_performShared (fun z S' V3 => S'.1 (c 60) = 12 ∧ CT l G bX11_giveOut 2047 0 0 [vr (c 60), vi z] S' V3 (fun z15 S15 V15 _ _ => Q z15 S15 V15)) d5 0 0 [vr (c 30), vr (c (128 * (12 * b + e) + 3)), vi i, vi a] S (up V' (c 30) 9 0) := by
    intro m22 d5 hd5
    refine qX10_performShared fun _ _ _ _ => vX10_performShared_0 ?_
    obtain ⟨v, tg, ln⟩ := Wr hW2
    have hbd := he2.en.bd a a0 (by omega)
    simp (disch := omega) only [v, tg, ln, E2.wk.g30, he2.en.g3, he2.en.r6, he2.en.g7, he2.en.n7]
    refine ⟨fun z => absurd z (by omega), fun _ => ⟨trivial, trivial, a0, by omega, fun nb => ⟨trivial, CT.im (by omega) (fun d6 hd6 => ?_)⟩, fun nb => ⟨trivial, CT.im (by omega) (fun d6 hd6 => ?_)⟩⟩⟩
    · have nb' : M' 19 (4 * (12 * b + e) + a) ≠ -1 := fun z => nb (hbd.2 z)
      have rt := hT2.eb a a0 (by omega) nb'
      refine ct_wo (dm := 2046) (ra := a) (cst := 24 * (12 * b + e) + i) (v3_all hc).1 hc hW2 E2 d0 f0 (fun _ => nu) rt (by decide) (fun z => absurd z (by decide)) (cx 2) (fun z => absurd rfl z) (by omega) (by omega) (by decide) (fun V3 N3 M3 U3 z hW3 vp _ _ => ?_)
      subst hW3
      obtain ⟨rn, s3, _, _⟩ := vp
      have q := tail 2047 V3 M3 U3 z s3.1 (F2.tr s3.2.1) (nu.st s3.2.2.2.1) (fun Qr q => pre Qr (fun y => absurd m22 y) (fun _ _ => rn _ q) (fun _ y => absurd y nb')) (by omega)
      rw [tg] at q
      exact q
    · have nb' : M' 19 (4 * (12 * b + e) + a) = -1 := hbd.1 (by omega)
      refine ct_fail E2 hc hW2 (fun V3 hW3 => ?_)
      have s3 := EvS.fail (lo := 0) (hi := 0) (x := 5) (y := -1) E2
      rw [← hW3] at s3
      have q := tail 2047 V3 _ U' 0 s3.1 (F2.tr s3.2.1) (nu.st s3.2.2.2.1) (fun Qr q => pre Qr (fun y => absurd m22 y) (fun _ y => absurd nb' y) (fun _ _ => pm_failing q)) (by omega)
      rw [tg] at q
      exact q
  refine ⟨tp.vg60, ?_⟩
  rw [R'.top.vr4]
  refine ⟨R'.wk.vg30, CT.im (by omega) (fun d5 hd5 => qX10_perform fun _ _ _ _ => vX10_perform_0 ⟨R'.wk.vg30, he.en.vg3, CT.pu (by omega) (fun d6 hd6 => ?_)⟩)⟩
  refine ct_constantAt (hW2 ▸ he2) (fun _ _ => ⟨rfl, rfl, fun z => absurd z (hc.2 _).1, fun _ => ?_⟩) (fun h => absurd ⟨i0, by omega⟩ h)
  obtain ⟨v, tg, ln⟩ := Wr hW2
  have hbd := hcn2.bd a a0 (by omega)
  have tg60 : S.1 (c 60) = 12 := tp.vg60
  have tg30 : S.1 (c 30) = 11 := R'.wk.vg30
  have tg5 : S.1 (c (128 * (24 * (12 * b + e) + i) + 5)) = 3 := by rw [tg]; exact hcn2.g5
  have tg6 : S.1 (c (128 * (24 * (12 * b + e) + i) + 6)) = 20 := by rw [tg]; exact hcn2.g6
  have ln6 : S.2.1 (c (128 * (24 * (12 * b + e) + i) + 6)) = 4 := by rw [ln]; exact hcn2.n6
  rw [v _ _ (by decide), hcn2.r3, v _ _ a0, tg6, ln6]
  refine ⟨tg5, rfl, a0, by omega, fun nb => ⟨tg30, CT.im (by omega) (fun d7 hd7 => ?_)⟩, fun nb => ⟨tg30, CT.im (by omega) (fun d7 hd7 => shared (hbd.1 (by omega)) d7 (by omega))⟩⟩
  have nb' : M' 22 (4 * (24 * (12 * b + e) + i) + a) ≠ -1 := fun z => nb (hbd.2 z)
  have rt := hT2.ob i a i0 (by omega) a0 (by omega) nb'
  refine ct_wo (dm := 2046) (ra := a) (cst := 24 * (12 * b + e) + i) (v3_all hc).2 hc hW2 E2 d0 f0 (fun _ => nu) rt (by decide) (fun _ => ⟨Or.inl up_eq, rfl, a0, by omega, by decide, by omega, by omega⟩) (cx 3) (fun z => absurd rfl z) (by omega) (by omega) (by decide) (fun V3 N3 M3 U3 z hW3 vp _ _ => ?_)
  subst hW3
  obtain ⟨rn, s3, _, _⟩ := vp
  exact tail 2047 V3 M3 U3 z s3.1 (F2.tr s3.2.1) (nu.st s3.2.2.2.1) (fun Qr q => pre Qr (fun _ => rn _ q) (fun y => absurd y nb') (fun y => absurd y nb')) (by omega)
theorem ct_switchAt {l : Launch} {G : GT} {Q : Int → Sh → Mem → Prop} {c : Int → Int} {S : Sh} {V N M : Mem} {d mc ms : Nat} {g i : Int} (hE : BkE c N M g) (hW : Wv c S V = N) (h1 : 0 ≤ i → i < M 18 g → Q (c (128 * (3 * g + i) + 17)) S V) (h2 : ¬ (0 ≤ i ∧ i < M 18 g) → Q 0 S V) : Ct l G bX3_switchAt Q d mc ms [vr (c (128 * g + 3)), vi i] S V :=
  qX3_switchAt fun _ _ => vX3_switchAt_0 <| by
    obtain ⟨v, tg, ln⟩ := Wr hW
    have t := hE.en
    have e1 := t.nw1
    simp (disch := omega) only [v, tg, ln, t.nw, t.r15, t.g3, t.g16, t.n16]
    refine ⟨fun _ => h2 (by omega), fun _ => ⟨trivial, fun _ => ⟨trivial, by omega, by omega, ?_⟩, fun _ => h2 (by omega)⟩⟩
    rw [v _ _ (by omega), t.rs i (by omega) (by omega)]
    exact h1 (by omega) (by omega)
theorem pm_br_none {d : Nat} {M : Mem} {Q : Int → Mem → Prop} {b e s i w x : Int} (w0 : 0 ≤ w) (w1 : w < 360) (hc1 : M 30 w ≤ 12) (h : PM d n_value_0 [x, -1, -1] M (fun z M2 => PM d n_ends_0 [z] M2 Q)) : ∀ (n : Nat) (k : Int), 0 ≤ k → M 30 w - k ≤ n → (∀ k', k ≤ k' → k' < M 30 w → M 32 (12 * w + k') ≠ i) → PM (d + 1) n_branch_70 [b, e, s, i, w, x, k] M Q := by
  intro n
  induction n with
  | zero => intro k k0 hn hne; exact st_branch_70 ⟨w0, w1, fun _ => h, fun z => absurd (by omega) z⟩
  | succ n ih =>
    intro k k0 hn hne
    refine st_branch_70 ⟨w0, w1, fun _ => h, fun z => ⟨by omega, by omega, by omega, by omega, by omega, by omega, fun _ => ⟨by omega, by omega, ih (k + 1) (by omega) (by omega) (fun k' a1 a2 => hne k' (by omega) a2)⟩, fun y => absurd (hne k (by omega) (by omega)) y⟩⟩
theorem choose_loop {l : Launch} {G : GT} {Q : Int → Sh → Mem → Prop} {c : Int → Int} {S : Sh} {V N M gm : Mem} {U : Int → Int} {b e s i : Int} {d : Nat} (hc : Cn c S) (hW : Wv c S V = N) (E : EvI c N M gm U b) (d0 : M 0 64 = 0) (f0 : M 0 65 = 0) (t0 : N 30 3 = 0) (nu : NU b M) (e0 : 0 ≤ e) (e1 : e < M 10 b) (s0 : 0 ≤ s) (s1 : s < M 18 (12 * b + e)) (hd : 140 ≤ d) (hk : ∀ V' M' U' z, EvS c b gm 0 0 N M U (Wv c S V') M' U' → (∀ Qr : Int → Mem → Prop, PM 2046 n_ends_0 [z] M' Qr → PM 2047 n_branch_70 [b, e, s, i, 3 * (12 * b + e) + s, M 34 (3 * (12 * b + e) + s), 0] M Qr) → Q z S V') : ∀ (n : Nat) (k : Int), 0 ≤ k → M 30 (3 * (12 * b + e) + s) - k = n → (∀ k', 0 ≤ k' → k' < k → M 32 (12 * (3 * (12 * b + e) + s) + k') ≠ i) → (∀ Qr : Int → Mem → Prop, PM 2047 n_branch_70 [b, e, s, i, 3 * (12 * b + e) + s, M 34 (3 * (12 * b + e) + s), k] M Qr → PM 2047 n_branch_70 [b, e, s, i, 3 * (12 * b + e) + s, M 34 (3 * (12 * b + e) + s), 0] M Qr) → XJ l G bX10_choose Q d 3 [vr (c 30), vr (c (128 * (12 * b + e) + 3)), vr (c (128 * (3 * (12 * b + e) + s) + 17)), vi i, vi k, vu] [] S V 0 0 := by
  have he := E.bh.be e0 e1
  have hs := he.sw s0 s1
  have nc1 := hs.nc1
  have nw1 := he.en.nw1
  have ne1 := E.bh.bk.ne1
  have b0 := E.b0
  have b1 := E.b1
  have hT := E.bt e e0 e1
  have q := E.bh.bk
  have cl := q.cl1
  intro n
  induction n with
  | zero =>
    intro k k0 hn hne reach
    have rt := hT.el s s0 s1
    refine vX10_choose_3 ?_
    obtain ⟨v, tg, ln⟩ := Wr hW
    simp (disch := omega) only [v, tg, hs.g17, hs.nc, E.wk.g30]
    refine ⟨trivial, fun _ => ⟨trivial, CT.im (by omega) (fun d1 hd1 => ct_wo (dm := 2046) (ra := -1) (cst := -1) (v3_all hc).1 hc hW E d0 f0 (fun _ => nu) rt (by decide) (fun z => absurd z (by decide)) ⟨fun z => absurd z (by decide), fun z => absurd z (by decide)⟩ (fun z => absurd rfl z) (by omega) (by omega) (by decide) (fun V3 N3 M3 U3 z hW3 vp _ _ => ?_))⟩, fun z => absurd (by omega) z⟩
    subst hW3
    obtain ⟨rn, s3, _, _⟩ := vp
    exact hk V3 M3 U3 z (s3.none rt.2.2.2.2) (fun Qr q => reach Qr (pm_br_none (by omega) (by omega) nc1 (rn _ q) 0 k k0 (by omega) (fun k' a1 a2 => by omega)))
  | succ n ih =>
    intro k k0 hn hne reach
    obtain ⟨rt, p0, pa⟩ := hT.ca s k s0 s1 k0 (by omega)
    have lnx := E.ln rt.1
    have pos := (E.bn.2 _ rt.1).2.2.2.1
    have q1 := rt.2.1
    refine vX10_choose_3 ?_
    obtain ⟨v, tg, ln⟩ := Wr hW
    simp (disch := omega) only [v, tg, ln, hs.g17, hs.nc, hs.r2, hs.g19, hs.n19, E.wk.g30, E.wb, q.g1, q.r3, q.g20, q.r21, q.g22, q.n22, pa]
    refine ⟨trivial, fun z => absurd z (by omega), fun _ => ⟨trivial, k0, by omega, fun z => absurd z (by omega), fun _ => ⟨trivial, trivial, trivial, fun z => absurd z (by omega), fun _ => ⟨trivial, p0, by omega, fun ni => ⟨by omega, by omega, ?_⟩, fun ei => ⟨by omega, by omega, CT.im (by omega) (fun d1 hd1 => ?_)⟩⟩⟩⟩⟩
    · exact ih (k + 1) (by omega) (by omega) (fun k' a1 a2 => by
        by_cases y : k' = k
        · rw [y]; exact ni
        · exact hne k' a1 (by omega)) (fun Qr q => reach Qr (st_branch_70 ⟨by omega, by omega, fun z => absurd z (by omega), fun _ => ⟨by omega, by omega, by omega, by omega, by omega, by omega, fun _ => ⟨by omega, by omega, q⟩, fun y => absurd ni y⟩⟩))
    · have ei' : M 32 (12 * (3 * (12 * b + e) + s) + k) = i := by omega
      refine ct_wo (dm := 2046) (ra := -1) (cst := -1) (v3_all hc).1 hc hW E d0 f0 (fun _ => nu) rt (by decide) (fun z => absurd z (by decide)) ⟨fun z => absurd z (by decide), fun z => absurd z (by decide)⟩ (fun z => absurd rfl z) (by omega) (by omega) (by decide) (fun V3 N3 M3 U3 z hW3 vp _ _ => ?_)
      subst hW3
      obtain ⟨rn, s3, _, _⟩ := vp
      refine hk V3 M3 U3 z (s3.none rt.2.2.2.2) (fun Qr q => reach Qr (st_branch_70 ⟨by omega, by omega, fun z => absurd z (by omega), fun _ => ⟨by omega, by omega, by omega, by omega, by omega, by omega, fun y => absurd ei' y, fun _ => ⟨by omega, by omega, ?_⟩⟩⟩))
      exact pm_br_none (by omega) (by omega) nc1 (rn _ q) n (k + 1) (by omega) (by omega) (fun k' a1 a2 => by
        have := hT.cd s k' k s0 s1 k0 (by omega) a2
        omega)
theorem call_branch (b e s i : Int) : CallOK CI bX11_branch n_branch_0 [vi b, vi e, vi s, vi i] [b, e, s, i] := call_upd fun l G c S V M Q hc hR hk => qX11_branch fun _ _ _ _ _ => vX11_branch_0 <| by
  have tp := hR.top
  have n1 := tp.nb1
  have tl := tp.tl0
  have he12 : ∀ b, 0 ≤ b → b < M 0 8 → M 10 b ≤ 12 := fun b b0 b1 => (hR.bk b0 b1).bk.ne1
  have no : ¬ (0 ≤ b ∧ b < M 0 8 ∧ 0 ≤ e ∧ e < M 10 b ∧ 0 ≤ i ∧ i < M 14 (12 * b + e) ∧ 0 ≤ s ∧ s < M 18 (12 * b + e)) → Q (-1) S V := fun h => hk (-1) V M (fun Q hq => st_branch_0 (pm_isConstant n1 he12 (fun a1 a2 a3 a4 a5 a6 => ⟨fun z => absurd z (by decide), fun _ => ⟨fun _ => hq, fun y1 => by
      have q1 := he12 b a1 a2
      exact ⟨by omega, by omega, by omega, by omega, by omega, by omega, fun y2 => absurd ⟨a1, a2, a3, a4, a5, a6, by omega, y2⟩ h, fun _ => hq⟩⟩⟩) (fun _ => ⟨fun _ => hq, fun z => absurd rfl z⟩))) (fun _ _ _ => rfl) hR (by omega)
  refine ⟨tp.vg60, CT.pu (by decide) (fun d1 hd1 => ct_enumOf hc hR (by omega) (fun b0 b1 e0 e1 => ⟨rfl, rfl, fun _ => ⟨((hR.bk b0 b1).be e0 e1).en.vg3, CT.pu (by decide) (fun d2 hd2 => ct_switchAt ((hR.bk b0 b1).be e0 e1) rfl (fun s0 s1 => ⟨rfl, rfl, fun z => absurd z (hc.2 _).1, fun _ => ⟨fun z => absurd z (hc.2 _).1, fun _ => ⟨((hR.bk b0 b1).be e0 e1).en.vg3, CT.pu (by decide) (fun d3 hd3 => ct_constantAt ((hR.bk b0 b1).be e0 e1) (fun i0 i1 => ⟨rfl, rfl, fun _ => ⟨tp.vg60, CT.im (by decide) (fun d4 hd4 => ?_)⟩, fun z => absurd (hc.2 _).1 z⟩) (fun h => ⟨rfl, rfl, fun z => absurd rfl z, fun _ => no (by omega)⟩))⟩⟩⟩) (fun h => ⟨rfl, rfl, fun z => absurd z (hc.2 _).1, fun _ => ⟨fun _ => no (by omega), fun z => absurd rfl z⟩⟩))⟩, fun z => absurd (hc.2 _).1 z⟩) (fun h => ⟨rfl, rfl, fun z => absurd rfl z, fun _ => ⟨fun _ => no (by omega), fun z => absurd rfl z⟩⟩))⟩
  have ne1 := (hR.bk b0 b1).bk.ne1
  have nc1 := ((hR.bk b0 b1).be e0 e1).en.nc1
  have nw1 := ((hR.bk b0 b1).be e0 e1).en.nw1
  refine ct_usedWell (dm := 2046) hc hR b0 b1 (Or.inl ⟨by omega, e0, e1⟩) (by omega) (by decide) (fun V' M' gm U' run E F nu d0 f0 t0' w1 => ⟨fun _ => ?_, fun z => absurd (by decide) z⟩) (fun V' M' gm U' run E F nu f => ⟨fun z => absurd rfl z, fun _ => ?_⟩)
  rotate_left
  · exact hk (-3) V' M' (fun Q hq => st_branch_0 (pm_isConstant n1 he12 (fun _ _ _ _ _ _ => ⟨fun z => absurd z (by decide), fun _ => ⟨fun z => absurd z (by omega), fun _ => ⟨by omega, by omega, by omega, by omega, by omega, by omega, fun _ => run _ ⟨fun z => absurd rfl z, fun _ => hq⟩, fun z => absurd s1 z⟩⟩⟩) (fun h => absurd ⟨b0, b1, e0, e1, i0, i1⟩ h))) (ev_lab F) (hR.ev F E nu) (by rw [F.m0 (by omega)]; omega)
  have R' := hR.ev F E nu
  have m10 : M' 10 b = M 10 b := F.st (by omega)
  have m18 : M' 18 (12 * b + e) = M 18 (12 * b + e) := F.st (by omega)
  have hsw := (E.bh.be e0 (by omega : e < M' 10 b)).sw s0 (by omega : s < M' 18 (12 * b + e))
  have nc0 := hsw.nc0
  refine ⟨tp.vg60, ?_⟩
  rw [R'.top.vr4]
  refine ⟨R'.wk.vg30, CT.im (by omega) (fun d5 hd5 => qX10_choose fun _ _ _ _ => vX10_choose_0 (choose_loop hc rfl E d0 f0 t0' nu e0 (by omega) s0 (by omega) (by omega) (fun V3 M3 U3 z s3 reach => ?_) (M' 30 (3 * (12 * b + e) + s)).toNat 0 (by decide) (by omega) (fun k' a1 a2 => by omega) (fun Qr q => q)))⟩
  have E3 := s3.1
  have F3 := F.tr s3.2.1
  have R3 := hR.ev F3 E3 (nu.st s3.2.2.2.1)
  have fl := E3.fl
  rw [Wv_el (by decide)] at fl
  have rf : ∀ Qr : Int → Mem → Prop, PM 2046 n_ends_0 [z] M3 Qr → PM 2047 n_branch_0 [b, e, s, i] M Qr := fun Qr q => st_branch_0 (pm_isConstant n1 he12 (fun _ _ _ _ _ _ => ⟨fun z => absurd z (by decide), fun _ => ⟨fun z => absurd z (by omega), fun _ => ⟨by omega, by omega, by omega, by omega, by omega, by omega, fun _ => run _ ⟨fun _ => ⟨by omega, by omega, by omega, by omega, by omega, by omega, by omega, by omega, by omega, by omega, reach Qr q⟩, fun z => absurd (by decide) z⟩, fun z => absurd s1 z⟩⟩⟩) (fun h => absurd ⟨b0, b1, e0, e1, i0, i1⟩ h))
  refine ⟨tp.vg60, CT.im (by decide) (fun d5 hd5 => qX11_giveOut fun _ _ => vX11_giveOut_0 ?_)⟩
  rw [R3.top.vr4, fl]
  exact ⟨tp.vg60, R3.wk.vg30, fun f => hk 0 _ (up M3 0 69 z) (fun Q hq => rf Q (st_ends_0 ⟨fun _ => hq, fun z => absurd f z⟩)) (fun L j q => (upc_ne hc (by omega)).trans (ev_lab F3 L j q)) (up_out hc R3) (by rw [up_ne (by omega), F3.m0 (by omega)]; omega), fun f => hk (-3) V3 M3 (fun Q hq => rf Q (st_ends_0 ⟨fun z => absurd z f, fun _ => hq⟩)) (ev_lab F3) R3 (by rw [F3.m0 (by omega)]; omega)⟩

