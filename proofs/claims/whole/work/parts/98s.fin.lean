/-! ===== book: the code taken over and linked ===== -/
def BAR (c : Int → Int) (N : Mem) (b ln : Int) : Prop := (N (128 * b + 1) 4 = c (128 * b + 23) ∧ N (128 * b + 23) (-1) = 20 ∧ N (128 * b + 23) (-2) = 148 ∧ ∀ i, 0 ≤ i → N (128 * b + 23) i = 0) ∧ (N (128 * b + 1) 5 = c (128 * b + 24) ∧ N (128 * b + 24) (-1) = 20 ∧ N (128 * b + 24) (-2) = 60) ∧ (N (128 * b + 1) 7 = c (128 * b + 25) ∧ N (128 * b + 25) (-1) = 20 ∧ N (128 * b + 25) (-2) = ln) ∧ (N (128 * b + 1) 8 = c (128 * b + 26) ∧ N (128 * b + 26) (-1) = 20 ∧ N (128 * b + 26) (-2) = ln)
section BFN
variable {l : Launch} {G : GT} {c c' c0 : Int → Int} {S : Sh} {V N N' M gm N0 M0 : Mem} {Q : Int → Sh → Mem → Prop} {d mc ms ee : Nat} {ow eo cs K P W E : Int → Int} {nt b B j ln e ne : Int} {Xq : (Int → Mem → Prop) → Prop}
set_option maxHeartbeats 1000000 in
theorem BKI.cd (h : BKI c N M gm ow eo cs K P W E nt b B j ln e) (fc : ∀ L, ¬ (128 * b + 20 ≤ L ∧ L ≤ 128 * b + 26) → c' L = c L) (n : ∀ L k, ¬ (128 * b + 20 ≤ L ∧ L ≤ 128 * b + 26) → ¬ (L = 128 * b + 1 ∧ (k = 3 ∨ k = 4 ∨ k = 5 ∨ k = 7 ∨ k = 8)) → N' L k = N L k) : BKI c' N' M gm ow eo cs K P W E nt b B j ln e := by
  obtain ⟨ts, ⟨lv, hr⟩, h3, ⟨w0, f0, b9⟩, tx, ⟨hB, h10⟩, pe, wd, ⟨s1, s2⟩, bd⟩ := h
  obtain ⟨e0, e1, b0, b1, B0, B1⟩ := bd
  obtain ⟨a1, a2, a3, a4, a5, a6, a7, a8, a9, a10, a11, a12, a13, a14, a15⟩ := hB
  have nl : ∀ L k, L = 121 ∨ L = 122 → N' L k = N L k := fun L k q => n L k (by omega) (by omega)
  have GA : GRW (M 0 40) ln (M 0 51) N M gm ow N' M gm ow := ⟨fun i _ _ => ⟨nl _ _ (by omega), nl _ _ (by omega)⟩, fun _ _ _ => rfl, fun _ _ => rfl, fun _ _ _ _ _ => rfl, fun _ _ _ _ _ => rfl⟩
  have nb : ∀ k, k < 3 ∨ k = 6 ∨ k = 9 → N' (128 * b + 1) k = N (128 * b + 1) k := fun k q => n _ _ (by omega) (by omega)
  refine ⟨ts.fr (fun L q => fc L (by unfold rdL at q; omega)) (fun L k q => n L k (by unfold rdR at q; omega) (by unfold rdR at q; omega)) (fun _ _ => rfl) (fun _ => rfl), ⟨(n _ _ (by omega) (by omega)).trans lv, ?_⟩, h3, ⟨w0, (n _ _ (by omega) (by omega)).trans f0, b9⟩, tx, ⟨⟨?_, (nb _ (by omega)).trans a2, ?_, (n _ _ (by omega) (by omega)).trans a4, (n _ _ (by omega) (by omega)).trans a5, (nb _ (by omega)).trans a6, a7, a8, (nb _ (by omega)).trans a9, a10, a11, (nb _ (by omega)).trans a12, (nb _ (by omega)).trans a13, fun i i0 i1 => ?_, fun i i0 i1 => ?_⟩, h10⟩, fun e' e0' e1' => ?_, wd.fr GA hr, ⟨s1, fun q => ?_⟩, e0, e1, b0, b1, B0, B1⟩
  · rw [← hr]; exact rcn_cg _ (fun i _ _ => nl _ _ (by omega))
  · rw [n _ _ (by omega) (by omega), fc _ (by omega)]; exact a1
  · rw [nb _ (by omega), fc _ (by omega)]; exact a3
  · rw [n _ _ (by omega) (by omega), n _ _ (by omega) (by omega), fc _ (by omega)]; exact a14 i i0 i1
  · rw [n _ _ (by omega) (by omega)]; exact a15 i i0 i1
  · exact (pe e' e0' e1').fr (e := e) e0' e1' GA hr (Int.le_refl _) (Int.le_refl _) (fun _ _ => rfl) (fun L k q => ⟨fc L (by unfold prN at q; omega), n L k (by unfold prN at q; omega) (by unfold prN at q; omega)⟩) (fun _ _ _ => rfl)
  · rw [n _ _ (by omega) (by omega)]; exact s2 q
set_option maxHeartbeats 2000000 in
theorem bk_fin (hc : Cn c S) (h0 : 0 ≤ S.2.2) (hW : Wv c S V = N) (h : BKI c N M gm ow eo cs K P W E nt b B j ln ne) (ne1 : 1 ≤ ne) (gf : GFB b B c0 N0 M0 c N M) (hd : 20 ≤ d) (he : 6 ≤ ee) (hmc : 7 ≤ mc) (hms : 211 + 4 * ln.toNat ≤ ms) (rch : ∀ Qr : Int → Mem → Prop, PM (ee + 2) n_readBook_59 [0] M Qr → Xq Qr)
    (hok : ∀ c' S' V' N1 M', Cn c' S' → 0 ≤ S'.2.2 → c' 50 = c 50 → BKI c' N1 M gm ow eo cs K P W E nt b B j ln ne → BCD c' N1 b ln → BAR c' N1 b ln → LIV N1 M gm eo cs K W b B ln ln (Wv c' S' V') M' → GFB b B c0 N0 M0 c' N1 M → (∀ Qr : Int → Mem → Prop, Qr 0 M' → Xq Qr) → Q (c' (128 * b + 1)) S' V')
    (hbad : ∀ c' S' V' M', Cn c' S' → 0 ≤ S'.2.2 → GFB b B c0 N0 M0 c' (Wv c' S' V') M' → FTS (Wv c' S' V') M' → (∀ Qr : Int → Mem → Prop, Qr 0 M' → Xq Qr) → Q 0 S' V') :
    S.1 (V (c 50) 1) = 2 ∧ CT l G bX1_copy d mc ms [vr (V (c 50) 1)] S V (fun z3 S3 V3 mc3 ms3 => S3.1 (V (c 50) 3) = 1 ∧ CT l G bX0_settle d mc3 ms3 [vr (V (c 50) 3), vr z3] S3 V3 (fun z5 S5 V5 mc5 ms5 => S5.1 (c 50) = 6 ∧ S5.1 (V5 (c 50) 3) = 1 ∧ CT l G bX0_linkNames d mc5 ms5 [vr (V5 (c 50) 3), vr (V5 (c 50) 0)] S5 V5 (fun z7 S7 V7 mc7 ms7 => (0 ≤ z7 → S7.1 (c 50) = 6 ∧ S7.1 (V7 (c 50) 0) = 10 ∧ S7.1 (V7 (V7 (c 50) 0) 1) = 20 ∧ 0 ≤ z7 ∧ z7 < S7.2.1 (V7 (V7 (c 50) 0) 1) ∧ Q 0 S7 (up (up V7 (c 50) 10 4) (c 50) 11 (V7 (V7 (V7 (c 50) 0) 1) z7))) ∧ (¬ (0 ≤ z7) → S7.1 (c 50) = 6 ∧ Q (V7 (c 50) 3) S7 V7)))) := by
  have hI := h
  obtain ⟨ts, ⟨lv, hr⟩, ⟨l0, lj, a0, a1⟩, ⟨w0, f0, b9⟩, tx, ⟨hB, h10⟩, pe, wd, ⟨s1, s2⟩, ⟨e0, e12, b0, b1, B0, B1⟩⟩ := h
  clear pe tx
  have ntb := ts.ntb
  have j1 := ts.j1
  have l3 : ln ≤ 3000 := by omega
  obtain ⟨ya, yb, yc, yd, ye, yf, yg⟩ := ts.x hW
  have y3 : V (c 50) 3 = c (128 * b + 1) := ((Wr hW).1 _ _ (by decide)).trans hB.r3
  rw [yd, y3]
  refine ⟨yg, CT.of (d - 1) 3 (3 + 2 * ln.toNat) (ct_copy (M := M) (b := b) (ln := ln) (Q := fun z3 S3 V3 => ∃ c3 N3, (Cn c3 S3 ∧ 0 ≤ S3.2.2 ∧ Wv c3 S3 V3 = N3 ∧ z3 = c3 (128 * b + 20)) ∧ (∀ L, L ≠ 128 * b + 20 → L ≠ 128 * b + 21 → L ≠ 128 * b + 22 → c3 L = c L) ∧ (∀ L k, L ≠ 128 * b + 20 → L ≠ 128 * b + 21 → L ≠ 128 * b + 22 → N3 L k = N L k) ∧ N3 (128 * b + 20) (-1) = 2 ∧ N3 (128 * b + 20) 0 = c3 (128 * b + 21) ∧ N3 (128 * b + 20) 1 = c3 (128 * b + 22) ∧ N3 (128 * b + 20) 2 = ln ∧ (N3 (128 * b + 21) (-1) = 20 ∧ N3 (128 * b + 21) (-2) = ln) ∧ (N3 (128 * b + 22) (-1) = 20 ∧ N3 (128 * b + 22) (-2) = ln) ∧ (∀ q, 0 ≤ q → q < ln → N3 (128 * b + 21) q = N 121 q ∧ N3 (128 * b + 22) q = N 122 q)) hc h0 hW ts.rd lv b0 b1 l0 l3 (by omega) (fun c' S' V' N' b1 b2 b3 b4 b5 b6 b7 b8 b9 b10 b11 b12 => ⟨c', N', ⟨b1, b2, b3, rfl⟩, b4, b5, b6, b7, b8, b9, b10, b11, b12⟩)) (by omega) (by omega) (by omega) (fun z3 S3 V3 hq => ?_)⟩
  obtain ⟨c3, N3, ⟨hc3, h3, hW3, rfl⟩, f3, n3, t20, k0, k1, kl, ⟨t21, l21⟩, ⟨t22, l22⟩, cp⟩ := hq
  have x1 : c (128 * b + 1) = c3 (128 * b + 1) := (f3 _ (by omega) (by omega) (by omega)).symm
  have tg3 : N3 (128 * b + 1) (-1) = 1 := (n3 _ _ (by omega) (by omega) (by omega)).trans hB.tg
  rw [x1]
  refine ⟨((Wr hW3).2.1 _).trans tg3, CT.of (d - 1) 4 (208 + 2 * ln.toNat) (ct_settle (b := b) (ln := ln) (Q := fun z5 S5 V5 => ∃ c5 N5, (Cn c5 S5 ∧ 0 ≤ S5.2.2 ∧ Wv c5 S5 V5 = N5) ∧ (∀ L, ¬ (128 * b + 23 ≤ L ∧ L ≤ 128 * b + 26) → c5 L = c3 L) ∧ (∀ L k, ¬ (128 * b + 23 ≤ L ∧ L ≤ 128 * b + 26) → ¬ (L = 128 * b + 1 ∧ (k = 3 ∨ k = 4 ∨ k = 5 ∨ k = 7 ∨ k = 8)) → N5 L k = N3 L k) ∧ N5 (128 * b + 1) 3 = c5 (128 * b + 20) ∧ BAR c5 N5 b ln) hc3 h3 hW3 tg3 t20 kl l0 l3 (fun c' S' V' N' b1 b2 b3 b4 b5 b6 b7 b8 b9 b10 b11 b12 b13 b14 => ⟨c', N', ⟨b1, b2, b3⟩, b4, b5, b6, ⟨b7, b11⟩, ⟨b8, b12⟩, ⟨b9, b13⟩, ⟨b10, b14⟩⟩)) (by omega) (by omega) (by omega) (fun z5 S5 V5 hq => ?_)⟩
  obtain ⟨c5, N5, ⟨hc5, h5, hW5⟩, f5, n5, k3, bar⟩ := hq
  have fc : ∀ L, ¬ (128 * b + 20 ≤ L ∧ L ≤ 128 * b + 26) → c5 L = c L := fun L q => (f5 L (by omega)).trans (f3 L (by omega) (by omega) (by omega))
  have nn : ∀ L k, ¬ (128 * b + 20 ≤ L ∧ L ≤ 128 * b + 26) → ¬ (L = 128 * b + 1 ∧ (k = 3 ∨ k = 4 ∨ k = 5 ∨ k = 7 ∨ k = 8)) → N5 L k = N L k := fun L k q1 q2 => (n5 L k (by omega) q2).trans (n3 L k (by omega) (by omega) (by omega))
  have n20 : ∀ L k, L = 128 * b + 20 ∨ L = 128 * b + 21 ∨ L = 128 * b + 22 → N5 L k = N3 L k := fun L k q => n5 L k (by omega) (by omega)
  have bk5 := hI.cd fc nn
  have y50 : c 50 = c5 50 := (fc _ (by omega)).symm
  have v20 : c5 (128 * b + 20) = c3 (128 * b + 20) := f5 _ (by omega)
  have v21 : c5 (128 * b + 21) = c3 (128 * b + 21) := f5 _ (by omega)
  have v22 : c5 (128 * b + 22) = c3 (128 * b + 22) := f5 _ (by omega)
  have bcd : BCD c5 N5 b ln := ⟨(nn _ _ (by omega) (by omega)).trans hB.tg, k3, (n20 _ _ (by omega)).trans t20, by rw [n20 _ _ (by omega), k0, v21], by rw [n20 _ _ (by omega), k1, v22], ⟨(n20 _ _ (by omega)).trans t21, (n20 _ _ (by omega)).trans l21⟩, ⟨(n20 _ _ (by omega)).trans t22, (n20 _ _ (by omega)).trans l22⟩, (n20 _ _ (by omega)).trans kl, by rw [nn _ _ (by omega) (by omega), fc _ (by omega)]; exact hB.re, (nn _ _ (by omega) (by omega)).trans hB.te, (nn _ _ (by omega) (by omega)).trans hB.le⟩
  have gf5 : GFB b B c0 N0 M0 c5 N5 M := gf.tr (fun L q => fc L (fun y => q (by unfold bkL; omega))) (fun L k q => nn L k (fun y => q (Or.inl (by unfold bkL; omega))) (fun y => q (Or.inl (by unfold bkL; omega)))) (fun _ _ _ => rfl)
  have ts5 := bk5.1
  have zx5 := ts5.x hW5
  have z3 : V5 (c5 50) 3 = c5 (128 * b + 1) := by rw [(Wr hW5).1 _ _ (by decide), nn _ _ (by omega) (by omega), fc _ (by omega)]; exact hB.r3
  have gB5 : S5.1 (c5 (128 * b + 1)) = 1 := ((Wr hW5).2.1 _).trans bcd.1
  have todo : ∀ q, 0 ≤ q → q < ln → N5 (128 * b + 21) q = N5 121 q ∧ N5 (128 * b + 22) q = N5 122 q := fun q q0 q1 => by
    rw [n20 (128 * b + 21) q (by omega), n20 (128 * b + 22) q (by omega), nn 121 q (by omega) (by omega), nn 122 q (by omega) (by omega)]
    exact cp q q0 q1
  rw [y50, z3, zx5.2.2.2.2.1]
  clear cp n3 n5 f3 f5
  refine ⟨zx5.2.2.2.2.2.1, gB5, CT.im (by omega) (fun d1 hd1 => qX0_linkNames fun _ _ => vX0_linkNames_0 ?_)⟩
  have liv0 : LIV N5 M gm eo cs K W b B ln 0 (Wv c5 S5 V5) M := by
    rw [hW5]
    refine ⟨fun _ _ _ => rfl, fun q q0 q1 => by omega, fun q q0 q1 => todo q q0 q1, fun _ _ _ _ => rfl, fun x x0 x1 => ?_, fun q q0 q1 => by omega⟩
    have g1 := (wd.1 x x0 x1).1.1
    exact ⟨fun _ => rfl, fun _ _ => rfl, fun y _ => y, fun _ y => by omega, fun _ y => by omega⟩
  refine lk_all (ee := ee) (N0 := N5) (M0 := M) (Xq := Xq) hc5 bk5 bcd ne1 l3 (by omega) he (fun V7 M7 liv rq => ⟨fun y => absurd y (by decide), fun _ => ⟨?_, ?_⟩⟩) (fun V7 M7 t t0 t1 fn fm rq => ⟨fun _ => ?_, fun y => absurd t0 y⟩) ne.toNat 0 V5 M (by omega) (Int.le_refl _) (by rw [if_pos rfl]; exact liv0) (by rw [if_pos rfl]; exact rch)
  · rw [(Wr (rfl : Wv c5 S5 V7 = Wv c5 S5 V7)).2.1, liv.1 _ _ (by omega)]; exact ts5.rd.g50
  · have z7 : V7 (c5 50) 3 = c5 (128 * b + 1) := by rw [(Wr (rfl : Wv c5 S5 V7 = Wv c5 S5 V7)).1 _ _ (by decide), liv.1 _ _ (by omega), ← (Wr hW5).1 _ _ (by decide)]; exact z3
    rw [z7]
    exact hok c5 S5 V7 N5 M7 hc5 h5 y50.symm bk5 bcd bar liv gf5 rq
  · obtain ⟨v7, tg7, ln7⟩ := Wr (rfl : Wv c5 S5 V7 = Wv c5 S5 V7)
    have r0 : V7 (c5 50) 0 = c5 40 := by rw [v7 _ _ (by decide), fn _ _ (by omega)]; exact ts5.rd.r0
    have r1 : V7 (c5 40) 1 = c5 42 := by rw [v7 _ _ (by decide), fn _ _ (by omega)]; exact ts5.rd.t1
    have rp : V7 (c5 42) t = P t := by rw [v7 _ _ t0, fn _ _ (by omega)]; exact ts5.2.1.2.1 t t0
    rw [r0, r1, rp]
    have hW8 : Wv c5 S5 (up (up V7 (c5 50) 10 4) (c5 50) 11 (P t)) = nFt (Wv c5 S5 V7) 4 (P t) := by rw [Wv_up hc5 (by decide), Wv_up hc5 (by decide)]; rfl
    refine ⟨by rw [tg7, fn _ _ (by omega)]; exact ts5.rd.g50, by rw [tg7, fn _ _ (by omega)]; exact ts5.rd.g40, by rw [tg7, fn _ _ (by omega)]; exact ts5.rd.g42, t0, by rw [ln7, fn _ _ (by omega), ts5.rd.n42]; omega, hbad c5 S5 _ (mFt M7 4 (P t)) hc5 h5 (gf5.tr (fun _ _ => rfl) (fun L k q => ?_) (fun k i q => ?_)) (by rw [hW8]; exact FTS.ft (by decide) (ts5.tok t0 t1).pb) rq⟩
    · rw [hW8, gb_nft q]
      exact fn L k (fun y => q (Or.inl (by unfold bkL; omega)))
    · rw [gf_mft q]
      exact fm k i (fun y => q (Or.inr (Or.inr (Or.inr (Or.inr (Or.inr (Or.inr (Or.inr (Or.inr (Or.inr (Or.inr (Or.inl ⟨by omega, by omega, by omega⟩)))))))))))) (fun y => q (Or.inr (Or.inr (Or.inr (Or.inr (Or.inr (Or.inr (Or.inr (Or.inr (Or.inr (Or.inl ⟨by omega, by omega, by omega⟩)))))))))))
end BFN
