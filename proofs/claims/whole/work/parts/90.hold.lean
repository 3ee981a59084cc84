/-! ===== book: holders ===== -/
section HLD
variable {l : Launch} {G : GT} {c c0 : Int → Int} {S : Sh} {V N M gm N0 M0 : Mem} {Q : Int → Sh → Mem → Prop} {d mc ms ee : Nat} {ow eo cs K P W E : Int → Int} {nt b B st j ln e nc nu nk nh ns cb pc : Int}
theorem rn_xw {e1 : Nat} {u v w : Int} (hw : 0 < M 0 46) (he : 1 ≤ e1) : RunM e1 n_readExpr_0 [u, v, w] M (-1) M := by
  obtain ⟨e', rfl⟩ : ∃ e', e1 = e' + 1 := ⟨e1 - 1, by omega⟩
  exact fun Q hq => st_readExpr_0 ⟨fun y => absurd hw (by omega), fun _ => hq⟩
theorem ct_mem0 (hc : Cn c S) (hW : Wv c S V = N) (ts : TS c N M K P W E nt j) (hd : 1 ≤ d) (hk : ∀ V', Wv c S V' = nFt N (if K j = 0 then 1 else 5) (P j) → Q 0 S V') : Ct l G bX5_acceptMember Q d mc ms [vr (c 50), vi 0] S V := by
  obtain ⟨ya, yb, yc, yd, ye, yf, yg⟩ := ts.x hW
  exact qX5_acceptMember fun _ _ => vX5_acceptMember_0 ⟨yf, CT.im hd (fun d1 hd1 => ct_pass0 hc hW ts (fun V1 hW1 => ⟨fun _ => hk V1 hW1, fun y => absurd rfl y⟩))⟩
set_option maxHeartbeats 2000000 in
theorem rd_holder (hc : Cn c S) (hW : Wv c S V = N) (h : RDI c N M gm ow eo cs K P W E nt b B 0 j ln e nc nu nk nh ns cb 0) (gf : GF b B c0 N0 M0 c N M) (k8 : K j = 8) (hd : 80 ≤ d) (he : 100 ≤ ee)
    (hok : ∀ V' M' gm' ow' eo' j' ln', RDI c (Wv c S V') M' gm' ow' eo' cs K P W E nt b B 0 j' ln' e nc nu nk (nh + 1) ns cb 0 → GF b B c0 N0 M0 c (Wv c S V') M' → j < j' → RunM ee n_readMember_0 [] M 0 M' → Q 1 S V')
    (hbad : ∀ V' M', GF b B c0 N0 M0 c (Wv c S V') M' → FTS (Wv c S V') M' → RunM ee n_readMember_0 [] M 0 M' → Q 0 S V') : Ct l G bX5_readHolder Q d mc ms [vr (c 50)] S V := by
  obtain ⟨e0, e1, b0, b1, B0, B1⟩ := h.bd
  have ls := h.ls
  have ts := ls.ts
  have hE := h.he
  have jlt := ts.lt (show K j ≠ 1 by omega)
  have ntb := ts.ntb
  have l0 := ls.l0
  have lj := ls.lj
  have w0 := ls.w
  obtain ⟨q14, q15, q16, q17, q18⟩ := h.ct
  have h0 := hE.nh0
  have h1 := hE.nh1
  obtain ⟨ya, yb, yc, yd, ye, yf, yg⟩ := ts.x hW
  obtain ⟨v', tg, lnn⟩ := Wr hW
  have y4 : V (c 50) 4 = c (128 * (12 * b + e) + 3) := (v' _ _ (by decide)).trans h.cu
  have y14 : V (c (128 * (12 * b + e) + 3)) 14 = nh := (v' _ _ (by decide)).trans (hE.nh.trans q17)
  have pre : ∀ Qr : Int → Mem → Prop, (M 17 (12 * b + e) ≠ 4 → PM (ee - 1) n_next_0 [] M (fun z21 M21 => PM (ee - 1) n_tells_0 [] M21 (fun z23 M23 => PM (ee - 1) n_newName_0 [z23] M23 (fun z25 M25 => ((M25 0 46) ≤ 0 → -2147483648 ≤ 4 * (M25 0 41) ∧ 4 * (M25 0 41) ≤ 2147483647 ∧ 0 ≤ (M25 0 41) ∧ (M25 0 41) < 120 ∧ -2147483648 ≤ (4 * (M25 0 41)) + (M25 17 (M25 0 41)) ∧ (4 * (M25 0 41)) + (M25 17 (M25 0 41)) ≤ 2147483647 ∧ 0 ≤ ((4 * (M25 0 41)) + (M25 17 (M25 0 41))) ∧ ((4 * (M25 0 41)) + (M25 17 (M25 0 41))) < 480 ∧ -2147483648 ≤ (M25 17 (M25 0 41)) + 1 ∧ (M25 17 (M25 0 41)) + 1 ≤ 2147483647 ∧ PM (ee - 1) n_next_0 [] (up (up M25 27 ((4 * (M25 0 41)) + (M25 17 (M25 0 41))) z25) 17 (M25 0 41) ((M25 17 (M25 0 41)) + 1)) (fun z28 M28 => PM (ee - 1) n_sign_0 [61] M28 (fun z30 M30 => PM (ee - 1) n_readExpr_0 [0, 0, 0] M30 (fun z32 M32 => 0 ≤ ((4 * (M25 0 41)) + (M25 17 (M25 0 41))) ∧ ((4 * (M25 0 41)) + (M25 17 (M25 0 41))) < 480 ∧ PM (ee - 1) n_sign_0 [59] (up M32 28 ((4 * (M25 0 41)) + (M25 17 (M25 0 41))) z32) (fun z34 M34 => Qr 0 M34))))) ∧ (¬ ((M25 0 46) ≤ 0) → Qr 0 M25))))) → (¬ (M 17 (12 * b + e) ≠ 4) → PM (ee - 1) n_fault_0 [5] M (fun z45 M45 => Qr 0 M45)) → PM ee n_readMember_0 [] M Qr := fun Qr a1 a2 => by
    obtain ⟨e', rfl⟩ : ∃ e', ee = e' + 1 := ⟨ee - 1, by omega⟩
    refine st_readMember_0 (ts.wd0 1 (by decide) (by rw [k8]; decide) (by omega) _ ⟨fun _ => ts.wd0 2 (by decide) (by rw [k8]; decide) (by omega) _ ⟨fun _ => ts.wd0 3 (by decide) (by rw [k8]; decide) (by omega) _ ⟨fun _ => ts.wd1 4 (by decide) k8 (by omega) _ ⟨fun y => absurd y (by decide), fun _ => ?_⟩, fun y => absurd rfl y⟩, fun y => absurd rfl y⟩, fun y => absurd rfl y⟩)
    rw [ls.g41]
    exact ⟨by omega, by omega, a1, a2⟩
  have BX : B ≤ M 0 40 := h.wd.2.2.2.2.2.2.1
  have cn : CN b B 0 := ⟨b0, b1, B0, B1, by decide, by decide⟩
  refine qX5_readHolder fun _ => vX5_readHolder_0 ?_
  rw [y4, y14]
  refine ⟨yf, (tg _).trans hE.tg, fun k3 => CT.im (by omega) (fun d1 hd1 => ct_mem0 hc hW ts (by omega) (fun V1 hW1 => ⟨fun y => absurd rfl y, fun _ => ?_⟩)), fun k3 => CT.im (by omega) (fun d1 hd1 => ct_mem (ee := ee - 1) (mu := fun M1 => up (up M1 27 (4 * (12 * b + e) + nh) (nmv P E b (j + 1))) 17 (12 * b + e) (nh + 1)) hc hW h (by omega) (by omega) (by omega) (fun M1 i hi => ?_) (fun M1 i => ?_) (fun V2 M1 M2 hW2 ts2 lx1 rn1 rt rnn lx2 rn2 k3' jl2 nr knp => ⟨fun _ => ?_, fun y => absurd (by decide) y⟩) (fun V' M1 M' z fN fM fts rn1 rt rnn => ⟨fun y => absurd rfl y, fun _ => ?_⟩))⟩
  · exact hbad V1 (mFt M (if K j = 0 then 1 else 5) (P j)) (gf.tr (fun _ _ => rfl) (fun L k q => by rw [hW1]; exact gf_nft q) (fun k i q => gf_mft q)) (by rw [hW1]; exact FTS.ft (ftp (by decide))) (fun Qr hq => pre Qr (fun y => absurd (by omega) y) (fun _ => ts.ft w0 (by omega) _ hq))
  · show up (up M1 27 (4 * (12 * b + e) + nh) (nmv P E b (j + 1))) 17 (12 * b + e) (nh + 1) 0 i = M1 0 i
    rw [up_ne (by omega), up_ne (by omega)]
  · show up (up M1 27 (4 * (12 * b + e) + nh) (nmv P E b (j + 1))) 17 (12 * b + e) (nh + 1) 1 i = M1 1 i
    rw [up_ne (by omega), up_ne (by omega)]
  · have mu0 : ∀ k i, ¬ (k = 27 ∧ i = 4 * (12 * b + e) + nh) → ¬ (k = 17 ∧ i = 12 * b + e) → up (up M1 27 (4 * (12 * b + e) + nh) (nmv P E b (j + 1))) 17 (12 * b + e) (nh + 1) k i = M1 k i := fun k i q1 q2 => by rw [up_ne (by omega), up_ne (by omega)]
    have m2 : ∀ k i, ¬ (k = 0 ∧ 3 ≤ i ∧ i ≤ 6) → ¬ (k = 27 ∧ i = 4 * (12 * b + e) + nh) → ¬ (k = 17 ∧ i = 12 * b + e) → M2 k i = M k i := fun k i q0 q1 q2 => (lx2 k i q0).trans ((mu0 k i q1 q2).trans (lx1 k i q0))
    have m227 : M2 27 (4 * (12 * b + e) + nh) = nmv P E b (j + 1) := (lx2 _ _ (by omega)).trans (by show up (up M1 27 (4 * (12 * b + e) + nh) (nmv P E b (j + 1))) 17 (12 * b + e) (nh + 1) 27 (4 * (12 * b + e) + nh) = _; rw [up_ne (by omega), up_eq])
    have m217 : M2 17 (12 * b + e) = nh + 1 := (lx2 _ _ (by omega)).trans (by show up (up M1 27 (4 * (12 * b + e) + nh) (nmv P E b (j + 1))) 17 (12 * b + e) (nh + 1) 17 (12 * b + e) = _; rw [up_eq])
    have g1 : M1 0 41 = 12 * b + e := (lx1 _ _ (by omega)).trans ls.g41
    have h17 : M1 17 (12 * b + e) = nh := (lx1 _ _ (by omega)).trans q17
    have w1 : M1 0 46 = 0 := (lx1 _ _ (by omega)).trans w0
    have pre2 : ∀ Qr : Int → Mem → Prop, PM (ee - 1) n_sign_0 [61] M2 (fun z30 M30 => PM (ee - 1) n_readExpr_0 [0, 0, 0] M30 (fun z32 M32 => 0 ≤ 4 * (12 * b + e) + nh ∧ 4 * (12 * b + e) + nh < 480 ∧ PM (ee - 1) n_sign_0 [59] (up M32 28 (4 * (12 * b + e) + nh) z32) (fun z34 M34 => Qr 0 M34))) → PM ee n_readMember_0 [] M Qr := fun Qr hq => pre Qr (fun _ => rn1 _ (rt _ (rnn _ ⟨fun _ => by rw [g1, h17]; exact ⟨by omega, by omega, by omega, by omega, by omega, by omega, by omega, by omega, by omega, by omega, rn2 _ hq⟩, fun y => absurd (by omega) y⟩))) (fun y => absurd (by omega) y)
    have n2 : ∀ L k, ¬ (L = 50 ∧ 6 ≤ k ∧ k ≤ 9) → Wv c S V2 L k = N L k := fun L k q => by rw [hW2, nPs_ne (by omega), nNn_ne (by omega), nPs_ne (by omega)]
    obtain ⟨v2, tg2, ln2⟩ := Wr (c := c) (S := S) (V := V2) rfl
    have z4 : V2 (c 50) 4 = c (128 * (12 * b + e) + 3) := by rw [v2 _ _ (by decide), n2 _ _ (by omega)]; exact h.cu
    have z14 : V2 (c (128 * (12 * b + e) + 3)) 14 = nh := by rw [v2 _ _ (by decide), n2 _ _ (by omega)]; exact hE.nh.trans q17
    have z11 : V2 (c (128 * (12 * b + e) + 3)) 11 = c (128 * (12 * b + e) + 13) := by rw [v2 _ _ (by decide), n2 _ _ (by omega)]; exact hE.rn
    have z12 : V2 (c (128 * (12 * b + e) + 3)) 12 = c (128 * (12 * b + e) + 14) := by rw [v2 _ _ (by decide), n2 _ _ (by omega)]; exact hE.rh
    have z9 : V2 (c 50) 9 = W (j + 1) := by rw [v2 _ _ (by decide), hW2, nPs_ne (by omega)]; exact up_eq
    have z1 := ts2.x hW2
    have zl : V2 (c 120) 2 = ln := by rw [v2 _ _ (by decide), n2 _ _ (by omega)]; exact ls.lv
    rw [z4, z14, z11, z12, z9, z1.2.2.2.1, zl]
    have hW3 : Wv c S (up (up (up V2 (c (128 * (12 * b + e) + 13)) nh (W (j + 1))) (c (128 * (12 * b + e) + 14)) nh ln) (c (128 * (12 * b + e) + 3)) 14 (nh + 1)) = up (up (up (Wv c S V2) (128 * (12 * b + e) + 13) nh (W (j + 1))) (128 * (12 * b + e) + 14) nh ln) (128 * (12 * b + e) + 3) 14 (nh + 1) := by rw [Wv_up hc (by decide), Wv_up hc (by omega), Wv_up hc (by omega)]
    have n3 : ∀ L k, ¬ (L = 50 ∧ 6 ≤ k ∧ k ≤ 9) → ¬ ((L = 128 * (12 * b + e) + 13 ∨ L = 128 * (12 * b + e) + 14) ∧ k = nh) → ¬ (L = 128 * (12 * b + e) + 3 ∧ k = 14) → up (up (up (Wv c S V2) (128 * (12 * b + e) + 13) nh (W (j + 1))) (128 * (12 * b + e) + 14) nh ln) (128 * (12 * b + e) + 3) 14 (nh + 1) L k = N L k := fun L k q1 q2 q3 => by rw [up_ne (by omega), up_ne (by omega), up_ne (by omega), n2 _ _ q1]
    have n3a : up (up (up (Wv c S V2) (128 * (12 * b + e) + 13) nh (W (j + 1))) (128 * (12 * b + e) + 14) nh ln) (128 * (12 * b + e) + 3) 14 (nh + 1) (128 * (12 * b + e) + 13) nh = W (j + 1) := by rw [up_ne (by omega), up_ne (by omega), up_eq]
    have n3b : up (up (up (Wv c S V2) (128 * (12 * b + e) + 13) nh (W (j + 1))) (128 * (12 * b + e) + 14) nh ln) (128 * (12 * b + e) + 3) 14 (nh + 1) (128 * (12 * b + e) + 14) nh = ln := by rw [up_ne (by omega), up_eq]
    have n3c : up (up (up (Wv c S V2) (128 * (12 * b + e) + 13) nh (W (j + 1))) (128 * (12 * b + e) + 14) nh ln) (128 * (12 * b + e) + 3) 14 (nh + 1) (128 * (12 * b + e) + 3) 14 = nh + 1 := up_eq
    have fn2 : fCn b e ln c N c (Wv c S V2) := ⟨fun _ _ => rfl, fun L k q1 q2 q3 q4 q5 q6 => n2 L k (by omega), rfl, n2 _ _ (by omega), n2 _ _ (by omega)⟩
    have fn3 : fCn b e ln c N c (up (up (up (Wv c S V2) (128 * (12 * b + e) + 13) nh (W (j + 1))) (128 * (12 * b + e) + 14) nh ln) (128 * (12 * b + e) + 3) 14 (nh + 1)) := ((fn2.tr (fCn.ua (ln := ln) (cu3 (by omega)) (by omega)) (Int.le_refl _)).tr (fCn.ua (ln := ln) (cu3 (by omega)) (by omega)) (Int.le_refl _)).tr (fCn.ua (ln := ln) (cu3 (by omega)) (by omega)) (Int.le_refl _)
    have ts3 : TS c (up (up (up (Wv c S V2) (128 * (12 * b + e) + 13) nh (W (j + 1))) (128 * (12 * b + e) + 14) nh ln) (128 * (12 * b + e) + 3) 14 (nh + 1)) M2 K P W E nt (j + 1 + 1) := ts2.fr (fun _ _ => rfl) (fun L k q => by unfold rdR at q; rw [up_ne (by omega), up_ne (by omega), up_ne (by omega), hW2]) (fun _ _ => rfl) (fun _ => rfl)
    have fm2 : fCm b e (M 0 40) (M 0 51) M M2 := (((fCm.lx lx1).tr (fCm.ua (w := nmv P E b (j + 1)) (cum4 (k := 27) (i := nh) (by decide) (by omega) (by omega))) (Int.le_refl _) (Int.le_refl _)).tr (fCm.ua (w := nh + 1) (cum1 (k := 17) (by decide) (by decide))) (Int.le_refl _) (Int.le_refl _)).tr (fCm.lx lx2) (Int.le_refl _) (Int.le_refl _)
    have w2 : M2 0 46 = 0 := (m2 _ _ (by omega) (by omega) (by omega)).trans w0
    have x240 : M2 0 40 = M 0 40 := m2 _ _ (by omega) (by omega) (by omega)
    have x251 : M2 0 51 = M 0 51 := m2 _ _ (by omega) (by omega) (by omega)
    generalize hN3 : up (up (up (Wv c S V2) (128 * (12 * b + e) + 13) nh (W (j + 1))) (128 * (12 * b + e) + 14) nh ln) (128 * (12 * b + e) + 3) 14 (nh + 1) = N3 at *
    refine ⟨yf, by rw [tg2, n2 _ _ (by omega)]; exact hE.tg, by rw [tg2, n2 _ _ (by omega)]; exact hE.tn, by omega, by rw [ln2, n2 _ _ (by omega), hE.ln]; omega, z1.2.2.2.2.2.2, by rw [tg2, n2 _ _ (by omega)]; exact hE.th, by rw [ln2, n2 _ _ (by omega), hE.lh]; omega, by omega, by omega, CT.im (by omega) (fun d2 hd2 => ?_)⟩
    by_cases k61 : K (j + 1 + 1) = 61
    · refine ct_acc1 (e := ee - 1 - 1) hc hW3 ts3 k61 (by decide) (by omega) (by omega) (fun V4 M4 hW4 ts4 lx4 rn4 => ⟨fun y => absurd y (by decide), fun _ => ⟨yf, CT.im (by omega) (fun d3 hd3 => ?_)⟩⟩)
      have n4 : ∀ L k, ¬ (L = 50 ∧ 6 ≤ k ∧ k ≤ 8) → nPs N3 (j + 1 + 1 + 1) (K (j + 1 + 1 + 1)) (W (j + 1 + 1 + 1)) L k = N3 L k := fun L k q => nPs_ne q
      have m4 : ∀ k i, ¬ (k = 0 ∧ 3 ≤ i ∧ i ≤ 6) → M4 k i = M2 k i := lx4
      have hls4 := ls.fr (st' := 0) ts4 (by rw [n4 _ _ (by omega), n3 _ _ (by omega) (by omega) (by omega)]; exact ls.sv) (by rw [n4 _ _ (by omega), n3 _ _ (by omega) (by omega) (by omega)]; exact ls.lv) (fun i _ _ => by rw [n4 _ _ (by omega), n3 _ _ (by omega) (by omega) (by omega)]) (by omega) ((m4 _ _ (by omega)).trans x251) ((m4 _ _ (by omega)).trans x240) ((m4 _ _ (by omega)).trans w2) (by rw [n4 _ _ (by omega), n3 _ _ (by omega) (by omega) (by omega)]; exact ls.f) ((m4 _ _ (by omega)).trans (m2 _ _ (by omega) (by omega) (by omega))) ((m4 _ _ (by omega)).trans (m2 _ _ (by omega) (by omega) (by omega)))
      have x40 : M4 0 40 = M 0 40 := (m4 _ _ (by omega)).trans x240
      have x51 : M4 0 51 = M 0 51 := (m4 _ _ (by omega)).trans x251
      have fn4 : fCn b e ln c N c (nPs N3 (j + 1 + 1 + 1) (K (j + 1 + 1 + 1)) (W (j + 1 + 1 + 1))) := fn3.tr (fCn.x fXn.ps) (Int.le_refl _)
      have fm4 : fCm b e (M 0 40) (M 0 51) M M4 := fm2.tr (fCm.lx lx4) (Int.le_refl _) (Int.le_refl _)
      have pre3 : ∀ Qr : Int → Mem → Prop, PM (ee - 1) n_readExpr_0 [0, 0, 0] M4 (fun z32 M32 => 0 ≤ 4 * (12 * b + e) + nh ∧ 4 * (12 * b + e) + nh < 480 ∧ PM (ee - 1) n_sign_0 [59] (up M32 28 (4 * (12 * b + e) + nh) z32) (fun z34 M34 => Qr 0 M34)) → PM ee n_readMember_0 [] M Qr := fun Qr hq => pre2 Qr (ts3.sn1 w2 (by decide) k61 (by omega) rn4 _ hq)
      refine rd_expr (e := ee - 1) (gm := gm) hc cn (by omega) (by omega) hW4 hls4 (by omega) (fun V5 M5 gm5 x j5 l5 er run => ⟨fun y => absurd y (by decide), fun _ => ?_⟩) (fun V5 M5 z yf' run => ⟨fun _ => ?_, fun y => absurd rfl y⟩)
      · have er' := er
        obtain ⟨ls5, fn5, fm5, gf5, T5, ⟨p1, p2, p3, p4, p5⟩, ⟨u1, u2, u3, u4, u5, u6⟩⟩ := er
        rw [x40, x51] at fm5
        rw [x40] at u4 u5
        have m6 : ∀ k i, ¬ (k = 28 ∧ i = 4 * (12 * b + e) + nh) → up M5 28 (4 * (12 * b + e) + nh) x k i = M5 k i := fun k i q => up_ne (by omega)
        have fm6 : fCm b e (M 0 40) (M 0 51) M (up M5 28 (4 * (12 * b + e) + nh) x) := (fm4.tr (fCm.y fm5) (Int.le_refl _) (Int.le_refl _)).tr (fCm.ua (cum4 (k := 28) (i := nh) (by decide) (by omega) (by omega))) (Int.le_refl _) (Int.le_refl _)
        have ts6 : TS c (Wv c S V5) (up M5 28 (4 * (12 * b + e) + nh) x) K P W E nt j5 := ls5.ts.fr (fun _ _ => rfl) (fun _ _ _ => rfl) (fun i hi => m6 _ _ (by omega)) (fun i => m6 _ _ (by omega))
        have w6 : up M5 28 (4 * (12 * b + e) + nh) x 0 46 = 0 := (m6 _ _ (by omega)).trans ls5.w
        have fnn : fCn b e ln c N c (Wv c S V5) := fn4.tr (fCn.x fn5) (Int.le_refl _)
        have pre4 : ∀ Qr : Int → Mem → Prop, PM (ee - 1) n_sign_0 [59] (up M5 28 (4 * (12 * b + e) + nh) x) (fun z34 M34 => Qr 0 M34) → PM ee n_readMember_0 [] M Qr := fun Qr hq => pre3 Qr (run _ ⟨by omega, by omega, hq⟩)
        refine ⟨yf, CT.im (by omega) (fun d4 hd4 => ?_)⟩
        by_cases k59 : K j5 = 59
        · refine ct_acc1 (e := ee - 1 - 1) hc rfl ts6 k59 (by decide) (by omega) (by omega) (fun V7 M7 hW7 ts7 lx7 rn7 => ⟨fun y => absurd y (by decide), fun _ => ?_⟩)
          have fn7 : fCn b e ln c N c (Wv c S V7) := by rw [hW7]; exact fnn.tr (fCn.x fXn.ps) (Int.le_refl _)
          have fm7 : fCm b e (M 0 40) (M 0 51) M M7 := fm6.tr (fCm.lx lx7) (Int.le_refl _) (Int.le_refl _)
          have m7 : ∀ k i, ¬ (k = 0 ∧ 3 ≤ i ∧ i ≤ 6) → ¬ (k = 28 ∧ i = 4 * (12 * b + e) + nh) → M7 k i = M5 k i := fun k i q0 q1 => (lx7 k i q0).trans (m6 k i q1)
          have m728 : M7 28 (4 * (12 * b + e) + nh) = x := (lx7 _ _ (by omega)).trans up_eq
          have m70 : ∀ k i, ¬ (k = 0) → ¬ (35 ≤ k ∧ k ≤ 39) → ¬ (48 ≤ k ∧ k ≤ 50) → ¬ (k = 28 ∧ i = 4 * (12 * b + e) + nh) → M7 k i = M2 k i := fun k i q0 q1 q2 q3 => (m7 k i (by omega) q3).trans ((fm5 k i (by omega) (by omega) (by omega)).trans (m4 k i (by omega)))
          have m7M : ∀ k i, ¬ (k = 0) → ¬ (35 ≤ k ∧ k ≤ 39) → ¬ (48 ≤ k ∧ k ≤ 50) → ¬ ((k = 27 ∨ k = 28) ∧ i = 4 * (12 * b + e) + nh) → ¬ (k = 17 ∧ i = 12 * b + e) → M7 k i = M k i := fun k i q0 q1 q2 q3 q4 => (m70 k i q0 q1 q2 (by omega)).trans (m2 k i (by omega) (by omega) q4)
          have x740 : M7 0 40 = M5 0 40 := m7 _ _ (by omega) (by omega)
          have n7 : ∀ L k, ¬ (L = 50 ∧ 6 ≤ k ∧ k ≤ 11) → ¬ (L = 120 ∧ k = 2) → ¬ ((L = 121 ∨ L = 122) ∧ ln ≤ k) → Wv c S V7 L k = N3 L k := fun L k q1 q2 q3 => by rw [hW7, nPs_ne (by omega), fn5 L k (by omega) q2 q3]; exact n4 _ _ (by omega)
          have nq : ∀ L k, L % 128 < 30 → ¬ ((L = 128 * (12 * b + e) + 13 ∨ L = 128 * (12 * b + e) + 14) ∧ k = nh) → ¬ (L = 128 * (12 * b + e) + 3 ∧ k = 14) → Wv c S V7 L k = N L k := fun L k q0 q1 q2 => by rw [n7 _ _ (by omega) (by omega) (by omega), n3 _ _ (by omega) q1 q2]
          have ls7 : MLS c (Wv c S V7) M7 K P W E nt b (12 * b + e) 0 B (j5 + 1) (l5 + 1) := ls5.fr (by rw [hW7]; exact ts7) (by rw [hW7, nPs_ne (by omega)]; exact ls5.sv) (by rw [hW7, nPs_ne (by omega)]; exact ls5.lv) (fun i _ _ => by rw [hW7, nPs_ne (by omega)]) (by omega) (m7 _ _ (by omega) (by omega)) x740 ((m7 _ _ (by omega) (by omega)).trans ls5.w) (by rw [hW7, nPs_ne (by omega)]; exact ls5.f) (m7 _ _ (by omega) (by omega)) (m7 _ _ (by omega) (by omega))
          have wd1 := h.wd.fr (R := M 0 51) (gm' := gm) (N' := nPs N3 (j + 1 + 1 + 1) (K (j + 1 + 1 + 1)) (W (j + 1 + 1 + 1))) (M' := M4) (fC_grw (fun _ _ _ => rfl) (fun _ _ => rfl) fn4 fm4) ls.r
          rw [← x40] at wd1
          obtain ⟨wd3, rt3⟩ := wd1.exp (sl := 1000 * (100 + 4 * e + nh)) cn hls4.r er' (by omega)
          have rt3 := rt3 0 (Int.le_refl _)
          have G57 : GRW (M5 0 40) (l5 + 1) (M5 0 51) (Wv c S V5) M5 gm5 (owU ow ln l5 (1000 * (100 + 4 * e + nh))) (Wv c S V7) M7 gm5 (owU ow ln l5 (1000 * (100 + 4 * e + nh))) := ⟨fun i _ _ => by rw [hW7]; exact ⟨nPs_ne (by omega), nPs_ne (by omega)⟩, fun _ _ _ => rfl, fun _ _ => rfl, fun k i k1 k2 _ => m7 _ _ (by omega) (by omega), fun k i k1 k2 _ => m7 _ _ (by omega) (by omega)⟩
          have GA : GRW (M 0 40) ln (M 0 51) N M gm ow (Wv c S V7) M7 gm5 (owU ow ln l5 (1000 * (100 + 4 * e + nh))) := fC_grw (fun k y q => gf5 k y (by omega)) (fun p q => owU_lt q) fn7 fm7
          have ei7 : EI c (Wv c S V7) M7 gm5 (owU ow ln l5 (1000 * (100 + 4 * e + nh))) K P W E nt b B (M7 0 40) (l5 + 1) e nc nu nk nh ns := h.ei.fr GA ls.r (by omega) (by omega) (fun L k q => ⟨rfl, nq _ _ (itn_ne q).1 (fun y => (itn_ne q).2.2.2.2.2.2.2.1 ⟨y.1, by omega⟩) (fun y => (itn_ne q).2.1 y.1)⟩) (fun k i q => m7M _ _ (itm_ne q).1 (itm_ne q).2.1 (itm_ne q).2.2.1 (fun y => (itm_ne q).2.2.2.2.1 ⟨y.1, by omega⟩) (fun y => (itm_ne q).2.2.2.1 (by omega)))
          have mc : ∀ k, 13 ≤ k → k ≤ 18 → k ≠ 17 → M7 k (12 * b + e) = M k (12 * b + e) := fun k k1 k2 k3 => m7M _ _ (by omega) (by omega) (by omega) (by omega) (by omega)
          have m717 : M7 17 (12 * b + e) = nh + 1 := (m70 _ _ (by omega) (by omega) (by omega) (by omega)).trans m217
          have m727 : M7 27 (4 * (12 * b + e) + nh) = nmv P E b (j + 1) := (m70 _ _ (by omega) (by omega) (by omega) (by omega)).trans m227
          refine hok V7 M7 gm5 (owU ow ln l5 (1000 * (100 + 4 * e + nh))) (owU eo ln (l5 + 1) e) (j5 + 1) (l5 + 1) (h.nx fn7 fm7 GA (by omega) (by omega) (fun p q => owU_lt q) ls7 (h.hb.cu e0 b0 fn7 fm7 (fun k _ => ?_) ?_ ?_ (fun i _ _ => ?_)) ?_ ⟨(mc 14 (by decide) (by decide) (by decide)).trans q14, (mc 15 (by decide) (by decide) (by decide)).trans q15, (mc 16 (by decide) (by decide) (by decide)).trans q16, m717, (mc 18 (by decide) (by decide) (by decide)).trans q18⟩ ⟨ei7.1, ei7.2.1, ei7.2.2.1, fun i i0 i1 => ?_, ei7.2.2.2.2⟩ ?_) (gf.cu e0 e1 l0 BX fn7 fm7) (by omega) (fun Qr hq => pre4 Qr (ts6.sn1 w6 (by decide) k59 (by omega) rn7 _ hq))
          · rw [n7 _ _ (by omega) (by omega) (by omega), n3 _ _ (by omega) (by omega) (by omega)]
          · exact nq _ _ (by omega) (by omega) (by omega)
          · exact m7M _ _ (by omega) (by omega) (by omega) (by omega) (by omega)
          · exact m7M _ _ (by omega) (by omega) (by omega) (by omega) (by omega)
          · refine hE.gen (fun _ _ => rfl) (fun L k q1 q2 q3 => nq L k (by unfold hdL at q1; omega) (by omega) (by omega)) (mc 13 (by decide) (by decide) (by decide)) (fun i => m7M _ _ (by omega) (by omega) (by omega) (by omega) (by omega)) ?_ ?_ ?_ ?_ ?_ ?_ ?_ ?_
            · rw [nq _ _ (by omega) (by omega) (by omega), mc 14 (by decide) (by decide) (by decide)]; exact ⟨hE.nc, hE.nc0, hE.nc1⟩
            · rw [nq _ _ (by omega) (by omega) (by omega), mc 15 (by decide) (by decide) (by decide)]; exact ⟨hE.nt, hE.nt0, hE.nt1⟩
            · rw [nq _ _ (by omega) (by omega) (by omega), mc 16 (by decide) (by decide) (by decide)]; exact ⟨hE.nk, hE.nk0, hE.nk1⟩
            · rw [n7 _ _ (by omega) (by omega) (by omega), n3c, m717]; exact ⟨rfl, by omega, by omega⟩
            · rw [nq _ _ (by omega) (by omega) (by omega), mc 18 (by decide) (by decide) (by decide)]; exact ⟨hE.nw, hE.nw0, hE.nw1⟩
            · intro i i0 i1
              rw [mc 14 (by decide) (by decide) (by decide)] at i1
              rw [nq _ _ (by omega) (by omega) (by omega), nq _ _ (by omega) (by omega) (by omega)]; exact hE.ci i i0 i1
            · intro i i0 i1
              rw [mc 15 (by decide) (by decide) (by decide)] at i1
              rw [nq _ _ (by omega) (by omega) (by omega), nq _ _ (by omega) (by omega) (by omega)]; exact hE.ti i i0 i1
            · intro i i0 i1
              rw [mc 18 (by decide) (by decide) (by decide)] at i1
              rw [nq _ _ (by omega) (by omega) (by omega), nq _ _ (by omega) (by omega) (by omega)]; exact hE.si i i0 i1
          · by_cases y : i = nh
            · subst y
              refine ⟨?_, ?_⟩
              · rw [n7 _ _ (by omega) (by omega) (by omega), n3a, m727]
                exact nr.1.m7 (fun t => m7M _ _ (by omega) (by omega) (by omega) (by omega) (by omega))
              · rw [n7 _ _ (by omega) (by omega) (by omega), n3b, m728]
                exact rt3.fr G57 (by omega) (Int.le_refl _)
            · exact ei7.2.2.2.1 i i0 (by omega)
          · rw [x740]
            exact wd3.fr G57 ls5.r
        · refine ct_acc0 hc rfl ts6 k59 (by omega) (fun V7 hW7 => ⟨fun _ => ?_, fun y => absurd rfl y⟩)
          exact hbad V7 (mFt (up M5 28 (4 * (12 * b + e) + nh) x) (if K j5 = 0 then 1 else 2) (P j5)) ((gf.cu e0 e1 l0 BX fnn fm6).tr (fun _ _ => rfl) (fun L k q => by rw [hW7]; exact gf_nft q) (fun k i q => gf_mft q)) (by rw [hW7]; exact FTS.ft (ftp (by decide))) (fun Qr hq => pre4 Qr (ts6.sn0 w6 (by decide) k59 (by omega) _ hq))
      · obtain ⟨x1, x2, x3, x4, x5⟩ := yf'
        rw [x40, x51] at x2
        have fm6 : fCm b e (M 0 40) (M 0 51) M (up M5 28 (4 * (12 * b + e) + nh) z) := (fm4.tr (fCm.y x2) (Int.le_refl _) (Int.le_refl _)).tr (fCm.ua (cum4 (k := 28) (i := nh) (by decide) (by omega) (by omega))) (Int.le_refl _) (Int.le_refl _)
        have w46 : up M5 28 (4 * (12 * b + e) + nh) z 0 46 = M5 0 46 := up_ne (by omega)
        have w47 : up M5 28 (4 * (12 * b + e) + nh) z 0 47 = M5 0 47 := up_ne (by omega)
        refine hbad V5 (up M5 28 (4 * (12 * b + e) + nh) z) (gf.cu e0 e1 l0 BX (fn4.tr (fCn.x x1) (Int.le_refl _)) fm6) ⟨by rw [w46]; exact x3, by rw [w46]; exact x4, by rw [w47]; exact x5⟩ (fun Qr hq => pre3 Qr (run _ ⟨by omega, by omega, sn_w (by rw [w46]; exact x3) (by omega) _ hq⟩))
    · refine ct_acc0 hc hW3 ts3 k61 (by omega) (fun V4 hW4 => ⟨fun _ => ?_, fun y => absurd rfl y⟩)
      have wp : 0 < mFt M2 (if K (j + 1 + 1) = 0 then 1 else 2) (P (j + 1 + 1)) 0 46 := by rw [mFt_46]; exact ftp (by decide)
      have u46 : up (mFt M2 (if K (j + 1 + 1) = 0 then 1 else 2) (P (j + 1 + 1))) 28 (4 * (12 * b + e) + nh) (-1) 0 46 = mFt M2 (if K (j + 1 + 1) = 0 then 1 else 2) (P (j + 1 + 1)) 0 46 := up_ne (by omega)
      have u47 : up (mFt M2 (if K (j + 1 + 1) = 0 then 1 else 2) (P (j + 1 + 1))) 28 (4 * (12 * b + e) + nh) (-1) 0 47 = mFt M2 (if K (j + 1 + 1) = 0 then 1 else 2) (P (j + 1 + 1)) 0 47 := up_ne (by omega)
      refine hbad V4 (up (mFt M2 (if K (j + 1 + 1) = 0 then 1 else 2) (P (j + 1 + 1))) 28 (4 * (12 * b + e) + nh) (-1)) ((gf.cu e0 e1 l0 BX fn3 fm2).tr (fun _ _ => rfl) (fun L k q => by rw [hW4]; exact gf_nft q) (fun k i q => ?_)) ⟨by rw [u46]; exact wp, by rw [u46, hW4, nFt_10, mFt_46], by rw [u47, hW4, nFt_11, mFt_47]; exact ⟨rfl, ts3.pb⟩⟩ (fun Qr hq => pre2 Qr (ts3.sn0 w2 (by decide) k61 (by omega) _ (rn_xw wp (by omega) _ ⟨by omega, by omega, sn_w (by rw [u46]; exact wp) (by omega) _ hq⟩)))
      rw [up_ne' (fun y => q (Or.inr (Or.inr (Or.inr (Or.inr (Or.inl ⟨by omega, by omega, by omega⟩)))))), mFt_ne (fun y => q (Or.inl ⟨y.1, by omega⟩))]
  · have nw : 0 < M' 0 46 := fts.1
    refine hbad V' M' (gf.tr (fun _ _ => rfl) (fun L k q => fN L k (fun y => q (Or.inr (Or.inl ⟨y.1, by omega, by omega⟩)))) (fun k i q => fM k i (fun y => q (Or.inl ⟨y.1, by omega⟩)))) fts (fun Qr hq => pre Qr (fun _ => rn1 _ (rt _ (rnn _ ⟨fun y => absurd nw (by omega), fun _ => hq⟩))) (fun y => absurd (by omega) y))
end HLD
