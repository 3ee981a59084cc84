/-! ===== book: checks ===== -/
section HEG
variable {c c' : Int → Int} {N N' M M' : Mem} {g : Int}
theorem HE.gen (h : HE c N M g) (fc : ∀ L, hdL g L → c' L = c L) (n : ∀ L k, hdL g L → ¬ (L = 128 * g + 3 ∧ (k = 1 ∨ k = 2 ∨ k = 4 ∨ k = 8 ∨ k = 10 ∨ k = 14 ∨ k = 16)) → ¬ (L ≠ 128 * g + 3 ∧ 0 ≤ k) → N' L k = N L k) (m13 : M' 13 g = M 13 g) (m7 : ∀ i, M' 7 i = M 7 i)
    (c4 : N' (128 * g + 3) 4 = M' 14 g ∧ 0 ≤ M' 14 g ∧ M' 14 g ≤ 24) (c8 : N' (128 * g + 3) 8 = M' 15 g ∧ 0 ≤ M' 15 g ∧ M' 15 g ≤ 4) (c10 : N' (128 * g + 3) 10 = M' 16 g ∧ 0 ≤ M' 16 g ∧ M' 16 g ≤ 3) (c14 : N' (128 * g + 3) 14 = M' 17 g ∧ 0 ≤ M' 17 g ∧ M' 17 g ≤ 4) (c16 : N' (128 * g + 3) 16 = M' 18 g ∧ 0 ≤ M' 18 g ∧ M' 18 g ≤ 3)
    (ci : ∀ i, 0 ≤ i → i < M' 14 g → N' (128 * g + 4) i = c' (128 * (24 * g + i) + 5) ∧ N' (128 * (24 * g + i) + 5) (-1) = 3) (ti : ∀ i, 0 ≤ i → i < M' 15 g → N' (128 * g + 8) i = c' (128 * (4 * g + i) + 9) ∧ N' (128 * (4 * g + i) + 9) (-1) = 9) (si : ∀ i, 0 ≤ i → i < M' 18 g → N' (128 * g + 16) i = c' (128 * (3 * g + i) + 17) ∧ N' (128 * (3 * g + i) + 17) (-1) = 8) : HE c' N' M' g := by
  obtain ⟨a1, a2, a3, a4, a5, a6, a7, a8, a9, a10, a11, a12, a13, a14, a15, a16, a17, a18, a19, a20, a21, a22, a23, a24, a25, a26, a27, a28, a29, a30, a31, a32, a33, a34, a35, a36, a37, a38, a39, a40, a41, a42, a43, a44, a45⟩ := h
  have w : ∀ k, (k = 4 ∨ k = 7 ∨ k = 8 ∨ (12 ≤ k ∧ k ≤ 16)) → N' (128 * g + k) (-1) = N (128 * g + k) (-1) ∧ N' (128 * g + k) (-2) = N (128 * g + k) (-2) ∧ c' (128 * g + k) = c (128 * g + k) := fun k q => ⟨n _ _ (by unfold hdL; omega) (by omega) (by omega), n _ _ (by unfold hdL; omega) (by omega) (by omega), fc _ (by unfold hdL; omega)⟩
  have z : ∀ k, (k = -1 ∨ k = 0 ∨ k = 3 ∨ k = 5 ∨ k = 6 ∨ k = 7 ∨ k = 9 ∨ k = 11 ∨ k = 12 ∨ k = 13 ∨ k = 15) → N' (128 * g + 3) k = N (128 * g + 3) k := fun k q => n _ _ (by unfold hdL; omega) (by omega) (by omega)
  refine ⟨by rw [z _ (by omega)]; exact a1, by rw [z _ (by omega), (w 4 (by omega)).2.2]; exact a2, by rw [(w 4 (by omega)).1]; exact a3, by rw [(w 4 (by omega)).2.1]; exact a4, by rw [z _ (by omega), (w 7 (by omega)).2.2]; exact a5, by rw [(w 7 (by omega)).1]; exact a6, by rw [(w 7 (by omega)).2.1]; exact a7, by rw [z _ (by omega), (w 8 (by omega)).2.2]; exact a8, by rw [(w 8 (by omega)).1]; exact a9, by rw [(w 8 (by omega)).2.1]; exact a10, by rw [z _ (by omega), (w 12 (by omega)).2.2]; exact a11, by rw [(w 12 (by omega)).1]; exact a12, by rw [(w 12 (by omega)).2.1]; exact a13, by rw [z _ (by omega), (w 13 (by omega)).2.2]; exact a14, by rw [(w 13 (by omega)).1]; exact a15, by rw [(w 13 (by omega)).2.1]; exact a16, by rw [z _ (by omega), (w 14 (by omega)).2.2]; exact a17, by rw [(w 14 (by omega)).1]; exact a18, by rw [(w 14 (by omega)).2.1]; exact a19, by rw [z _ (by omega), (w 15 (by omega)).2.2]; exact a20, by rw [(w 15 (by omega)).1]; exact a21, by rw [(w 15 (by omega)).2.1]; exact a22, by rw [z _ (by omega), (w 16 (by omega)).2.2]; exact a23, by rw [(w 16 (by omega)).1]; exact a24, by rw [(w 16 (by omega)).2.1]; exact a25, by rw [z _ (by omega), m13]; exact a26.m7 m7, c4.1, c4.2.1, c4.2.2, c8.1, c8.2.1, c8.2.2, c10.1, c10.2.1, c10.2.2, c14.1, c14.2.1, c14.2.2, c16.1, c16.2.1, c16.2.2, by rw [z _ (by omega)]; exact a42, ci, ti, si⟩
end HEG
section CHK
variable {l : Launch} {G : GT} {c c0 : Int → Int} {S : Sh} {V N M gm N0 M0 : Mem} {Q : Int → Sh → Mem → Prop} {d mc ms ee : Nat} {ow eo cs K P W E : Int → Int} {nt b B j ln e nc nu nk nh ns cb pc : Int}
set_option maxHeartbeats 1000000 in
theorem rd_check (hc : Cn c S) (hW : Wv c S V = N) (h : RDI c N M gm ow eo cs K P W E nt b B 0 j ln e nc nu nk nh ns cb pc) (gf : GF b B c0 N0 M0 c N M) (k7 : K j = 7) (hd : 80 ≤ d) (he : 100 ≤ ee)
    (hok : ∀ V' M' gm' ow' eo' j' ln', RDI c (Wv c S V') M' gm' ow' eo' cs K P W E nt b B 0 j' ln' e nc nu (nk + 1) nh ns cb pc → GF b B c0 N0 M0 c (Wv c S V') M' → j < j' → RunM ee n_readMember_0 [] M 0 M' → Q 1 S V')
    (hbad : ∀ V' M', GF b B c0 N0 M0 c (Wv c S V') M' → FTS (Wv c S V') M' → RunM ee n_readMember_0 [] M 0 M' → Q 0 S V') : Ct l G bX5_readCheck Q d mc ms [vr (c 50)] S V := by
  obtain ⟨e0, e1, b0, b1, B0, B1⟩ := h.bd
  have ls := h.ls
  have ts := ls.ts
  have hE := h.he
  have j1 := ts.lt (show K j ≠ 1 by omega)
  have ntb := ts.ntb
  have l0 := ls.l0
  have lj := ls.lj
  have w0 := ls.w
  obtain ⟨q14, q15, q16, q17, q18⟩ := h.ct
  have k0 := hE.nk0
  have k1 := hE.nk1
  obtain ⟨ya, yb, yc, yd, ye, yf, yg⟩ := ts.x hW
  obtain ⟨v', tg, lnn⟩ := Wr hW
  have y4 : V (c 50) 4 = c (128 * (12 * b + e) + 3) := (v' _ _ (by decide)).trans h.cu
  have y10 : V (c (128 * (12 * b + e) + 3)) 10 = nk := (v' _ _ (by decide)).trans (hE.nk.trans q16)
  have pre : ∀ Qr : Int → Mem → Prop, (M 16 (12 * b + e) ≠ 3 → PM (ee - 1) n_next_0 [] M (fun z39 M39 => -2147483648 ≤ 3 * (M39 0 41) ∧ 3 * (M39 0 41) ≤ 2147483647 ∧ 0 ≤ (M39 0 41) ∧ (M39 0 41) < 120 ∧ -2147483648 ≤ (3 * (M39 0 41)) + (M39 16 (M39 0 41)) ∧ (3 * (M39 0 41)) + (M39 16 (M39 0 41)) ≤ 2147483647 ∧ PM (ee - 1) n_readExpr_0 [0, 0, 0] M39 (fun z41 M41 => 0 ≤ ((3 * (M39 0 41)) + (M39 16 (M39 0 41))) ∧ ((3 * (M39 0 41)) + (M39 16 (M39 0 41))) < 360 ∧ 0 ≤ (M41 0 41) ∧ (M41 0 41) < 120 ∧ -2147483648 ≤ (M41 16 (M41 0 41)) + 1 ∧ (M41 16 (M41 0 41)) + 1 ≤ 2147483647 ∧ PM (ee - 1) n_sign_0 [59] (up (up M41 26 ((3 * (M39 0 41)) + (M39 16 (M39 0 41))) z41) 16 (M41 0 41) ((M41 16 (M41 0 41)) + 1)) (fun z43 M43 => Qr 0 M43)))) → (¬ (M 16 (12 * b + e) ≠ 3) → PM (ee - 1) n_fault_0 [5] M (fun z45 M45 => Qr 0 M45)) → PM ee n_readMember_0 [] M Qr := fun Qr a1 a2 => by
    obtain ⟨e', rfl⟩ : ∃ e', ee = e' + 1 := ⟨ee - 1, by omega⟩
    refine st_readMember_0 (ts.wd0 1 (by decide) (by rw [k7]; decide) (by omega) _ ⟨fun _ => ts.wd0 2 (by decide) (by rw [k7]; decide) (by omega) _ ⟨fun _ => ts.wd1 3 (by decide) k7 (by omega) _ ⟨fun y => absurd y (by decide), fun _ => ?_⟩, fun y => absurd rfl y⟩, fun y => absurd rfl y⟩)
    rw [ls.g41]
    exact ⟨by omega, by omega, a1, a2⟩
  refine qX5_readCheck fun _ => vX5_readCheck_0 ?_
  rw [y4, y10]
  refine ⟨yf, (tg _).trans hE.tg, fun k3 => CT.im (by omega) (fun d1 hd1 => ct_pass0 hc hW ts (fun V1 hW1 => ⟨fun y => absurd rfl y, fun _ => ?_⟩)), fun k3 => CT.im (by omega) (fun d1 hd1 => ct_pass (e := ee - 1) hc hW ts (by omega) (by omega) (by omega) (fun V1 M1 hW1 ts1 lx1 rn1 => ⟨fun _ => ?_, fun y => absurd (by decide) y⟩))⟩
  · refine hbad V1 (mFt M (if K j = 0 then 1 else 5) (P j)) (gf.tr (fun _ _ => rfl) (fun L k q => by rw [hW1]; exact gf_nft q) (fun k i q => gf_mft q)) (by rw [hW1]; exact FTS.ft (ftp (by decide))) (fun Qr hq => pre Qr (fun y => absurd (by omega) y) (fun _ => ts.ft w0 (by omega) _ hq))
  · obtain ⟨v1, tg1, ln1⟩ := Wr hW1
    have N1 : ∀ L k, ¬ (L = 50 ∧ 6 ≤ k ∧ k ≤ 8) → nPs N (j + 1) (K (j + 1)) (W (j + 1)) L k = N L k := fun L k q => nPs_ne q
    have z4 : V1 (c 50) 4 = c (128 * (12 * b + e) + 3) := by rw [v1 _ _ (by decide), N1 _ _ (by omega)]; exact h.cu
    have z10 : V1 (c (128 * (12 * b + e) + 3)) 10 = nk := by rw [v1 _ _ (by decide), N1 _ _ (by omega)]; exact hE.nk.trans q16
    have z9 : V1 (c (128 * (12 * b + e) + 3)) 9 = c (128 * (12 * b + e) + 12) := by rw [v1 _ _ (by decide), N1 _ _ (by omega)]; exact hE.rk
    have z1 := ts1.x hW1
    have zl : V1 (c 120) 2 = ln := by rw [v1 _ _ (by decide), N1 _ _ (by omega)]; exact ls.lv
    rw [z4, z10, z9, z1.2.2.2.1, zl]
    refine ⟨yf, by rw [tg1, N1 _ _ (by omega)]; exact hE.tg, z1.2.2.2.2.2.2, by rw [tg1, N1 _ _ (by omega)]; exact hE.tk, by omega, by rw [ln1, N1 _ _ (by omega), hE.lk]; omega, by omega, by omega, CT.im (by omega) (fun d2 hd2 => ?_)⟩
    have hW2 : Wv c S (up (up V1 (c (128 * (12 * b + e) + 12)) nk ln) (c (128 * (12 * b + e) + 3)) 10 (nk + 1)) = up (up (nPs N (j + 1) (K (j + 1)) (W (j + 1))) (128 * (12 * b + e) + 12) nk ln) (128 * (12 * b + e) + 3) 10 (nk + 1) := by rw [Wv_up hc (by decide), Wv_up hc (by omega), hW1]
    have N2 : ∀ L k, ¬ (L = 50 ∧ 6 ≤ k ∧ k ≤ 8) → ¬ (L = 128 * (12 * b + e) + 12 ∧ k = nk) → ¬ (L = 128 * (12 * b + e) + 3 ∧ k = 10) → up (up (nPs N (j + 1) (K (j + 1)) (W (j + 1))) (128 * (12 * b + e) + 12) nk ln) (128 * (12 * b + e) + 3) 10 (nk + 1) L k = N L k := fun L k q1 q2 q3 => by rw [up_ne (by omega), up_ne (by omega), N1 _ _ q1]
    have n2a : up (up (nPs N (j + 1) (K (j + 1)) (W (j + 1))) (128 * (12 * b + e) + 12) nk ln) (128 * (12 * b + e) + 3) 10 (nk + 1) (128 * (12 * b + e) + 12) nk = ln := by rw [up_ne (by omega), up_eq]
    have n2b : up (up (nPs N (j + 1) (K (j + 1)) (W (j + 1))) (128 * (12 * b + e) + 12) nk ln) (128 * (12 * b + e) + 3) 10 (nk + 1) (128 * (12 * b + e) + 3) 10 = nk + 1 := up_eq
    have fn2 : fCn b e ln c N c (up (up (nPs N (j + 1) (K (j + 1)) (W (j + 1))) (128 * (12 * b + e) + 12) nk ln) (128 * (12 * b + e) + 3) 10 (nk + 1)) := ((fCn.x fXn.ps).tr (fCn.ua (ln := ln) (cu3 (by omega)) (by omega)) (Int.le_refl _)).tr (fCn.ua (ln := ln) (cu3 (by omega)) (by omega)) (Int.le_refl _)
    have ts2 : TS c (up (up (nPs N (j + 1) (K (j + 1)) (W (j + 1))) (128 * (12 * b + e) + 12) nk ln) (128 * (12 * b + e) + 3) 10 (nk + 1)) M1 K P W E nt (j + 1) := ts1.fr (fun _ _ => rfl) (fun L k q => by unfold rdR at q; rw [up_ne (by omega), up_ne (by omega)]) (fun _ _ => rfl) (fun _ => rfl)
    have hls2 := ls.fr (st' := 0) ts2 ((N2 _ _ (by omega) (by omega) (by omega)).trans ls.sv) ((N2 _ _ (by omega) (by omega) (by omega)).trans ls.lv) (fun i _ _ => N2 _ _ (by omega) (by omega) (by omega)) (by omega) (lx1 _ _ (by omega)) (lx1 _ _ (by omega)) ((lx1 _ _ (by omega)).trans w0) ((N2 _ _ (by omega) (by omega) (by omega)).trans ls.f) (lx1 _ _ (by omega)) (lx1 _ _ (by omega))
    generalize hN2 : up (up (nPs N (j + 1) (K (j + 1)) (W (j + 1))) (128 * (12 * b + e) + 12) nk ln) (128 * (12 * b + e) + 3) 10 (nk + 1) = N2' at *
    have m41 : M1 0 41 = 12 * b + e := (lx1 _ _ (by omega)).trans ls.g41
    have m16 : M1 16 (12 * b + e) = nk := (lx1 _ _ (by omega)).trans q16
    have x40 : M1 0 40 = M 0 40 := lx1 _ _ (by omega)
    have x51 : M1 0 51 = M 0 51 := lx1 _ _ (by omega)
    have cn : CN b B 0 := ⟨b0, b1, B0, B1, by decide, by decide⟩
    have BX : B ≤ M 0 40 := h.wd.2.2.2.2.2.2.1
    have pre2 : ∀ Qr : Int → Mem → Prop, PM (ee - 1) n_readExpr_0 [0, 0, 0] M1 (fun z41 M41 => 0 ≤ 3 * (12 * b + e) + nk ∧ 3 * (12 * b + e) + nk < 360 ∧ 0 ≤ (M41 0 41) ∧ (M41 0 41) < 120 ∧ -2147483648 ≤ (M41 16 (M41 0 41)) + 1 ∧ (M41 16 (M41 0 41)) + 1 ≤ 2147483647 ∧ PM (ee - 1) n_sign_0 [59] (up (up M41 26 (3 * (12 * b + e) + nk) z41) 16 (M41 0 41) ((M41 16 (M41 0 41)) + 1)) (fun z43 M43 => Qr 0 M43)) → PM ee n_readMember_0 [] M Qr := fun Qr hq => pre Qr (fun _ => rn1 _ (by rw [m41, m16]; exact ⟨by omega, by omega, by omega, by omega, by omega, by omega, hq⟩)) (fun y => absurd (by omega) y)
    have fm1 : fCm b e (M 0 40) (M 0 51) M M1 := fCm.lx lx1
    refine rd_expr (e := ee - 1) (gm := gm) hc cn (by omega) (by omega) hW2 hls2 (by omega) (fun V3 M3 gm3 x j3 l3 er run => ⟨fun y => absurd y (by decide), fun _ => ?_⟩) (fun V3 M3 z yf' run => ⟨fun _ => ?_, fun y => absurd rfl y⟩)
    · have er' := er
      obtain ⟨ls3, fn3, fm3, gf3, T3, ⟨p1, p2, p3, p4, p5⟩, ⟨u1, u2, u3, u4, u5, u6⟩⟩ := er
      rw [x40, x51] at fm3
      rw [x40] at u4 u5
      have m3g : M3 0 41 = 12 * b + e := ls3.g41
      have m316 : M3 16 (12 * b + e) = nk := (fm3 _ _ (by omega) (by omega) (by omega)).trans m16
      have m4 : ∀ k i, ¬ (k = 26 ∧ i = 3 * (12 * b + e) + nk) → ¬ (k = 16 ∧ i = 12 * b + e) → up (up M3 26 (3 * (12 * b + e) + nk) x) 16 (12 * b + e) (nk + 1) k i = M3 k i := fun k i q1 q2 => by rw [up_ne (by omega), up_ne (by omega)]
      have m426 : up (up M3 26 (3 * (12 * b + e) + nk) x) 16 (12 * b + e) (nk + 1) 26 (3 * (12 * b + e) + nk) = x := by rw [up_ne (by omega), up_eq]
      have m416 : up (up M3 26 (3 * (12 * b + e) + nk) x) 16 (12 * b + e) (nk + 1) 16 (12 * b + e) = nk + 1 := up_eq
      have fm4 : fCm b e (M 0 40) (M 0 51) M (up (up M3 26 (3 * (12 * b + e) + nk) x) 16 (12 * b + e) (nk + 1)) := ((fm1.tr (fCm.y fm3) (Int.le_refl _) (Int.le_refl _)).tr (fCm.ua (by unfold cuM; omega)) (Int.le_refl _) (Int.le_refl _)).tr (fCm.ua (by unfold cuM; omega)) (Int.le_refl _) (Int.le_refl _)
      have ts4 : TS c (Wv c S V3) (up (up M3 26 (3 * (12 * b + e) + nk) x) 16 (12 * b + e) (nk + 1)) K P W E nt j3 := ls3.ts.fr (fun _ _ => rfl) (fun _ _ _ => rfl) (fun i hi => m4 _ _ (by omega) (by omega)) (fun i => m4 _ _ (by omega) (by omega))
      have w4 : up (up M3 26 (3 * (12 * b + e) + nk) x) 16 (12 * b + e) (nk + 1) 0 46 = 0 := (m4 _ _ (by omega) (by omega)).trans ls3.w
      have fnn : fCn b e ln c N c (Wv c S V3) := fn2.tr (fCn.x fn3) (Int.le_refl _)
      have pre3 : ∀ Qr : Int → Mem → Prop, PM (ee - 1) n_sign_0 [59] (up (up M3 26 (3 * (12 * b + e) + nk) x) 16 (12 * b + e) (nk + 1)) (fun z43 M43 => Qr 0 M43) → PM ee n_readMember_0 [] M Qr := fun Qr hq => pre2 Qr (run _ (by rw [m3g, m316]; exact ⟨by omega, by omega, by omega, by omega, by omega, by omega, hq⟩))
      refine ⟨yf, CT.im (by omega) (fun d3 hd3 => ?_)⟩
      by_cases k59 : K j3 = 59
      · refine ct_acc1 (e := ee - 1 - 1) hc rfl ts4 k59 (by decide) (by omega) (by omega) (fun V5 M5 hW5 ts5 lx5 rn5 => ⟨fun y => absurd y (by decide), fun _ => ?_⟩)
        have fn5 : fCn b e ln c N c (Wv c S V5) := by rw [hW5]; exact fnn.tr (fCn.x fXn.ps) (Int.le_refl _)
        have fm5 : fCm b e (M 0 40) (M 0 51) M M5 := fm4.tr (fCm.lx lx5) (Int.le_refl _) (Int.le_refl _)
        have m5 : ∀ k i, ¬ (k = 0 ∧ 3 ≤ i ∧ i ≤ 6) → ¬ (k = 26 ∧ i = 3 * (12 * b + e) + nk) → ¬ (k = 16 ∧ i = 12 * b + e) → M5 k i = M3 k i := fun k i q0 q1 q2 => (lx5 k i q0).trans (m4 k i q1 q2)
        have m526 : M5 26 (3 * (12 * b + e) + nk) = x := (lx5 _ _ (by omega)).trans m426
        have m516 : M5 16 (12 * b + e) = nk + 1 := (lx5 _ _ (by omega)).trans m416
        have m51 : ∀ k i, ¬ (k = 0) → ¬ (35 ≤ k ∧ k ≤ 39) → ¬ (48 ≤ k ∧ k ≤ 50) → ¬ (k = 26 ∧ i = 3 * (12 * b + e) + nk) → ¬ (k = 16 ∧ i = 12 * b + e) → M5 k i = M k i := fun k i q0 q1 q2 q3 q4 => (m5 k i (by omega) q3 q4).trans ((fm3 k i (by omega) (by omega) (by omega)).trans (lx1 k i (by omega)))
        have x540 : M5 0 40 = M3 0 40 := m5 _ _ (by omega) (by omega) (by omega)
        have n5 : ∀ L k, ¬ (L = 50 ∧ 6 ≤ k ∧ k ≤ 11) → ¬ (L = 120 ∧ k = 2) → ¬ ((L = 121 ∨ L = 122) ∧ ln ≤ k) → Wv c S V5 L k = N2' L k := fun L k q1 q2 q3 => by rw [hW5, nPs_ne (by omega)]; exact fn3 L k (by omega) q2 q3
        have n53 : ∀ i, Wv c S V5 121 i = Wv c S V3 121 i := fun i => by rw [hW5, nPs_ne (by omega)]
        have ls5 : MLS c (Wv c S V5) M5 K P W E nt b (12 * b + e) 0 B (j3 + 1) (l3 + 1) := by
          refine ls3.fr (by rw [hW5]; exact ts5) (by rw [hW5, nPs_ne (by omega)]; exact ls3.sv) (by rw [hW5, nPs_ne (by omega)]; exact ls3.lv) (fun i _ _ => n53 i) (by omega) (m5 _ _ (by omega) (by omega) (by omega)) x540 ((m5 _ _ (by omega) (by omega) (by omega)).trans ls3.w) (by rw [hW5, nPs_ne (by omega)]; exact ls3.f) (m5 _ _ (by omega) (by omega) (by omega)) (m5 _ _ (by omega) (by omega) (by omega))
        have wd1 := h.wd.fr (R := M 0 51) (gm' := gm) (N' := N2') (M' := M1) (fC_grw (fun _ _ _ => rfl) (fun _ _ => rfl) fn2 fm1) ls.r
        rw [← x40] at wd1
        obtain ⟨wd3, rt3⟩ := wd1.exp (sl := 1000 * e + 200 + nk) cn hls2.r er' (by omega)
        have rt3 := rt3 0 (Int.le_refl _)
        have G35 : GRW (M3 0 40) (l3 + 1) (M3 0 51) (Wv c S V3) M3 gm3 (owU ow ln l3 (1000 * e + 200 + nk)) (Wv c S V5) M5 gm3 (owU ow ln l3 (1000 * e + 200 + nk)) := ⟨fun i _ _ => by rw [hW5]; exact ⟨nPs_ne (by omega), nPs_ne (by omega)⟩, fun _ _ _ => rfl, fun _ _ => rfl, fun k i k1 k2 _ => m5 _ _ (by omega) (by omega) (by omega), fun k i k1 k2 _ => m5 _ _ (by omega) (by omega) (by omega)⟩
        have GA : GRW (M 0 40) ln (M 0 51) N M gm ow (Wv c S V5) M5 gm3 (owU ow ln l3 (1000 * e + 200 + nk)) := fC_grw (fun k y q => gf3 k y (by omega)) (fun p q => owU_lt q) fn5 fm5
        have ei5 : EI c (Wv c S V5) M5 gm3 (owU ow ln l3 (1000 * e + 200 + nk)) K P W E nt b B (M5 0 40) (l3 + 1) e nc nu nk nh ns := h.ei.fr GA ls.r (by omega) (by omega) (fun L k q => ⟨rfl, ?_⟩) (fun k i q => ?_)
        · refine hok V5 M5 gm3 (owU ow ln l3 (1000 * e + 200 + nk)) (owU eo ln (l3 + 1) e) (j3 + 1) (l3 + 1) (h.nx fn5 fm5 GA (by omega) (by omega) (fun p q => owU_lt q) ls5 (h.hb.cu e0 b0 fn5 fm5 (fun k _ => ?_) ?_ ?_ (fun i _ _ => ?_)) ?_ ⟨?_, ?_, m516, ?_, ?_⟩ ⟨ei5.1, ei5.2.1, fun i i0 i1 => ?_, ei5.2.2.2⟩ ?_) (gf.cu e0 e1 l0 BX fn5 fm5) (by omega) (fun Qr hq => pre3 Qr (ts4.sn1 w4 (by decide) k59 (by omega) rn5 _ hq))
          · rw [n5 _ _ (by omega) (by omega) (by omega), N2 _ _ (by omega) (by omega) (by omega)]
          · rw [n5 _ _ (by omega) (by omega) (by omega), N2 _ _ (by omega) (by omega) (by omega)]
          · exact m51 _ _ (by omega) (by omega) (by omega) (by omega) (by omega)
          · exact m51 _ _ (by omega) (by omega) (by omega) (by omega) (by omega)
          · have mc : ∀ k, 13 ≤ k → k ≤ 18 → k ≠ 16 → M5 k (12 * b + e) = M k (12 * b + e) := fun k k1 k2 k3 => m51 _ _ (by omega) (by omega) (by omega) (by omega) (by omega)
            have nq : ∀ L k, L % 128 < 30 → ¬ (L = 128 * (12 * b + e) + 12 ∧ k = nk) → ¬ (L = 128 * (12 * b + e) + 3 ∧ k = 10) → Wv c S V5 L k = N L k := fun L k q0 q1 q2 => by rw [n5 _ _ (by omega) (by omega) (by omega), N2 _ _ (by omega) q1 q2]
            refine hE.gen (fun _ _ => rfl) (fun L k q1 q2 q3 => nq L k (by unfold hdL at q1; omega) (by omega) (by omega)) (mc 13 (by decide) (by decide) (by decide)) (fun i => m51 _ _ (by omega) (by omega) (by omega) (by omega) (by omega)) ?_ ?_ ?_ ?_ ?_ ?_ ?_ ?_
            · rw [nq _ _ (by omega) (by omega) (by omega), mc 14 (by decide) (by decide) (by decide)]; exact ⟨hE.nc, hE.nc0, hE.nc1⟩
            · rw [nq _ _ (by omega) (by omega) (by omega), mc 15 (by decide) (by decide) (by decide)]; exact ⟨hE.nt, hE.nt0, hE.nt1⟩
            · rw [n5 _ _ (by omega) (by omega) (by omega), n2b, m516]; exact ⟨rfl, by omega, by omega⟩
            · rw [nq _ _ (by omega) (by omega) (by omega), mc 17 (by decide) (by decide) (by decide)]; exact ⟨hE.nh, hE.nh0, hE.nh1⟩
            · rw [nq _ _ (by omega) (by omega) (by omega), mc 18 (by decide) (by decide) (by decide)]; exact ⟨hE.nw, hE.nw0, hE.nw1⟩
            · intro i i0 i1
              rw [mc 14 (by decide) (by decide) (by decide)] at i1
              rw [nq _ _ (by omega) (by omega) (by omega), nq _ _ (by omega) (by omega) (by omega)]; exact hE.ci i i0 i1
            · intro i i0 i1
              rw [mc 15 (by decide) (by decide) (by decide)] at i1
              rw [nq _ _ (by omega) (by omega) (by omega), nq _ _ (by omega) (by omega) (by omega)]; exact hE.ti i i0 i1
            · intro i i0 i1
              rw [mc 18 (by decide) (by decide) (by decide)] at i1
              rw [nq _ _ (by omega) (by omega) (by omega), nq _ _ (by omega) (by omega) (by omega)]; exact hE.si i i0 i1
          · rw [m51 _ _ (by omega) (by omega) (by omega) (by omega) (by omega)]; exact q14
          · rw [m51 _ _ (by omega) (by omega) (by omega) (by omega) (by omega)]; exact q15
          · rw [m51 _ _ (by omega) (by omega) (by omega) (by omega) (by omega)]; exact q17
          · rw [m51 _ _ (by omega) (by omega) (by omega) (by omega) (by omega)]; exact q18
          · by_cases y : i = nk
            · subst y
              unfold IK
              rw [n5 _ _ (by omega) (by omega) (by omega), n2a, m526]
              exact rt3.fr G35 (by omega) (Int.le_refl _)
            · exact ei5.2.2.1 i i0 (by omega)
          · rw [x540]
            exact wd3.fr G35 ls3.r
        · rw [n5 _ _ (by unfold itN at q; omega) (by unfold itN at q; omega) (by unfold itN at q; omega), N2 _ _ (by unfold itN at q; omega) (by unfold itN at q; omega) (by unfold itN at q; omega)]
        · exact m51 _ _ (by unfold itM at q; omega) (by unfold itM at q; omega) (by unfold itM at q; omega) (by unfold itM at q; omega) (by unfold itM at q; omega)
      · refine ct_acc0 hc rfl ts4 k59 (by omega) (fun V5 hW5 => ⟨fun _ => ?_, fun y => absurd rfl y⟩)
        refine hbad V5 (mFt (up (up M3 26 (3 * (12 * b + e) + nk) x) 16 (12 * b + e) (nk + 1)) (if K j3 = 0 then 1 else 2) (P j3)) ((gf.cu e0 e1 l0 BX fnn fm4).tr (fun _ _ => rfl) (fun L k q => by rw [hW5]; exact gf_nft q) (fun k i q => gf_mft q)) (by rw [hW5]; exact FTS.ft (ftp (by decide))) (fun Qr hq => pre3 Qr (ts4.sn0 w4 (by decide) k59 (by omega) _ hq))
    · obtain ⟨x1, x2, x3, x4, x5⟩ := yf'
      rw [x40, x51] at x2
      have m3g : M3 0 41 = 12 * b + e := (x2 _ _ (by omega) (by omega) (by omega)).trans m41
      have m316 : M3 16 (12 * b + e) = nk := (x2 _ _ (by omega) (by omega) (by omega)).trans m16
      have fm4 : fCm b e (M 0 40) (M 0 51) M (up (up M3 26 (3 * (12 * b + e) + nk) z) 16 (12 * b + e) (nk + 1)) := ((fm1.tr (fCm.y x2) (Int.le_refl _) (Int.le_refl _)).tr (fCm.ua (by unfold cuM; omega)) (Int.le_refl _) (Int.le_refl _)).tr (fCm.ua (by unfold cuM; omega)) (Int.le_refl _) (Int.le_refl _)
      have w46 : up (up M3 26 (3 * (12 * b + e) + nk) z) 16 (12 * b + e) (nk + 1) 0 46 = M3 0 46 := by rw [up_ne (by omega), up_ne (by omega)]
      have w47 : up (up M3 26 (3 * (12 * b + e) + nk) z) 16 (12 * b + e) (nk + 1) 0 47 = M3 0 47 := by rw [up_ne (by omega), up_ne (by omega)]
      refine hbad V3 (up (up M3 26 (3 * (12 * b + e) + nk) z) 16 (12 * b + e) (nk + 1)) (gf.cu e0 e1 l0 BX (fn2.tr (fCn.x x1) (Int.le_refl _)) fm4) ⟨by rw [w46]; exact x3, by rw [w46]; exact x4, by rw [w47]; exact x5⟩ (fun Qr hq => pre2 Qr (run _ ?_))
      rw [m3g, m316]
      exact ⟨by omega, by omega, by omega, by omega, by omega, by omega, sn_w (by rw [w46]; exact x3) (by omega) _ hq⟩
end CHK
