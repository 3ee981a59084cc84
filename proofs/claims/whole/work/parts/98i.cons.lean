/-! ===== book: a constant: its argument ===== -/
/-- the reference behind a constant's name -/
def KC (ee : Nat) (q nm : Int) (Qr : Int → Mem → Prop) (M : Mem) : Prop := PM ee n_isSign_0 [40] M (fun z4 M4 => (z4 = 0 → (0 < (M4 0 46) → Qr 0 M4) ∧ (¬ (0 < (M4 0 46)) → PM ee n_isSign_0 [123] M4 (fun z8 M8 => (z8 ≠ 0 → PM ee n_next_0 [] M8 (fun z11 M11 => PM (ee + 1) n_readConstant_172 [q, nm, 4] M11 Qr)) ∧ (¬ (z8 ≠ 0) → Qr 0 M8)))) ∧ (¬ (z4 = 0) → PM ee n_next_0 [] M4 (fun z13 M13 => PM ee n_readExpr_0 [0, 1, 0] M13 (fun z15 M15 => 0 ≤ q ∧ q < 2880 ∧ PM ee n_sign_0 [41] (up M15 21 q z15) (fun z17 M17 => (0 < (M17 0 46) → Qr 0 M17) ∧ (¬ (0 < (M17 0 46)) → PM ee n_isSign_0 [123] M17 (fun z20 M20 => (z20 ≠ 0 → PM ee n_next_0 [] M20 (fun z23 M23 => PM (ee + 1) n_readConstant_172 [q, nm, 4] M23 Qr)) ∧ (¬ (z20 ≠ 0) → Qr 0 M20))))))))
section COT
variable {l : Launch} {G : GT} {c c0 : Int → Int} {S : Sh} {N0 M0 V N M gm : Mem} {Q : Int → Sh → Mem → Prop} {d mc ms ee : Nat} {ow eo cs K P W E : Int → Int} {nt b B e nc nu nk nh ns cb nm j0 st j ln : Int} {Xq : (Int → Mem → Prop) → Prop}
theorem cum20 {X R k i : Int} (hk : k = 20 ∨ k = 21) (i0 : 0 ≤ i) (i1 : i < 24) : cuM b e X R k (24 * (12 * b + e) + i) := Or.inr (Or.inr (Or.inr (Or.inr (Or.inr (Or.inl ⟨hk, by omega, by omega⟩)))))
theorem cum22 {X R i a : Int} (i0 : 0 ≤ i) (i1 : i < 24) (a0 : 0 ≤ a) (a1 : a < 4) : cuM b e X R 22 (4 * (24 * (12 * b + e) + i) + a) := Or.inr (Or.inr (Or.inr (Or.inr (Or.inr (Or.inr (Or.inl ⟨rfl, by omega, by omega⟩))))))
theorem cun5 {i k : Int} (hk : k = 5 ∨ k = 6) (i0 : 0 ≤ i) (i1 : i < 24) : cuN b e (128 * (24 * (12 * b + e) + i) + k) := Or.inr (Or.inl ⟨by omega, by omega, by omega⟩)
set_option maxHeartbeats 2000000 in
theorem co_tail (hc : Cn c S) (hd : 95 ≤ d) (he : 110 ≤ ee) (nc0 : 0 ≤ nc) (nc1 : nc < 24) (hW : Wv c S V = N) (jj : j0 < j) (h : RDI c N M gm ow eo cs K P W E nt b B st j ln e nc nu nk nh ns cb 1) (gf : GF b B c0 N0 M0 c N M) (ic : IC c N M gm ow b B (M 0 40) ln e (24 * (12 * b + e) + nc) nc) (bz : ∀ a, 0 ≤ a → a < 4 → N (128 * (24 * (12 * b + e) + nc) + 6) a = -1)
    (hok : ∀ V' M' gm' ow' eo' st' j' ln', RDI c (Wv c S V') M' gm' ow' eo' cs K P W E nt b B st' j' ln' e (nc + 1) nu nk nh ns cb 0 → GF b B c0 N0 M0 c (Wv c S V') M' → j0 < j' → (∀ Qr : Int → Mem → Prop, Qr 0 M' → Xq Qr) → Q 1 S V')
    (hbad : ∀ V' M', GF b B c0 N0 M0 c (Wv c S V') M' → FTS (Wv c S V') M' → (∀ Qr : Int → Mem → Prop, Qr 0 M' → Xq Qr) → Q 0 S V')
    (rch : ∀ Qr : Int → Mem → Prop, KC ee (24 * (12 * b + e) + nc) nm Qr M → Xq Qr) :
    (K j ≠ 40 → (K j = 123 → CT l G bX5_accept d mc ms [vr (c 50), vi 123] S V (fun z35 S35 V35 mc35 ms35 => XJ l G bX5_readConstant Q d 151 [vr (c 50), vr (c (128 * (24 * (12 * b + e) + nc) + 5)), vi 1, vi 0] [] S35 V35 mc35 ms35)) ∧ (¬ (K j = 123) → Q 1 S V)) ∧ (¬ (K j ≠ 40) → CT l G bX5_accept d mc ms [vr (c 50), vi 40] S V (fun z37 S37 V37 mc37 ms37 => S37.1 (c 50) = 6 ∧ S37.1 (V37 (c 50) 1) = 2 ∧ S37.1 (c (128 * (24 * (12 * b + e) + nc) + 5)) = 3 ∧ CT l G bX5_readSum d mc37 ms37 [vr (c 50), vi 0] S37 (up (up V37 (c (128 * (24 * (12 * b + e) + nc) + 5)) 1 (V37 (V37 (c 50) 1) 2)) (c 50) 5 1) (fun z39 S39 V39 mc39 ms39 => (z39 = 0 → Q 0 S39 V39) ∧ (¬ (z39 = 0) → S39.1 (c 50) = 6 ∧ CT l G bX5_accept d mc39 ms39 [vr (c 50), vi 41] S39 V39 (fun z42 S42 V42 mc42 ms42 => (z42 ≠ 0 → S42.1 (c 50) = 6 ∧ ((V42 (c 50) 7) = 123 → CT l G bX5_accept d mc42 ms42 [vr (c 50), vi 123] S42 V42 (fun z46 S46 V46 mc46 ms46 => XJ l G bX5_readConstant Q d 151 [vr (c 50), vr (c (128 * (24 * (12 * b + e) + nc) + 5)), vi 1, vi 0] [] S46 V46 mc46 ms46)) ∧ (¬ ((V42 (c 50) 7) = 123) → Q 1 S42 V42)) ∧ (¬ (z42 ≠ 0) → Q 0 S42 V42)))))) := by
  obtain ⟨e0, e1, b0, b1, B0, B1⟩ := h.bd
  have ls := h.ls
  have ts := ls.ts
  have w0 := ls.w
  have l0 := ls.l0
  have lj := ls.lj
  have hE := h.he
  have BX : B ≤ M 0 40 := h.wd.2.2.2.2.2.2.1
  have cn : CN b B 1 := ⟨b0, b1, B0, B1, by decide, by decide⟩
  obtain ⟨ya, yb, yc, yd, ye, yf, yg⟩ := ts.x hW
  obtain ⟨v', tg, lnn⟩ := Wr hW
  have ic' := ic
  obtain ⟨⟨i1, i2, i3, i4, i5⟩, ⟨i6, i7⟩, i8, i9⟩ := ic
  have g5 : S.1 (c (128 * (24 * (12 * b + e) + nc) + 5)) = 3 := (tg _).trans i1
  refine ⟨fun k40 => co_acc hc hd he nc0 nc1 hW jj h gf ic' bz hok hbad (fun Qr hq => rch Qr (ts.sg0 (by decide) k40 (by omega) _ ⟨fun _ => ⟨fun y => absurd y (by omega), fun _ => hq⟩, fun y => absurd rfl y⟩)), fun k40 => ?_⟩
  have k40 : K j = 40 := by omega
  refine CT.im (by omega) (fun d1 hd1 => ct_acc1 (e := ee) hc hW ts k40 (by decide) (by omega) (by omega) (fun V1 M1 hW1 ts1 lx1 rn1 => ?_))
  have r1 : ∀ Qr : Int → Mem → Prop, PM ee n_readExpr_0 [0, 1, 0] M1 (fun z15 M15 => 0 ≤ 24 * (12 * b + e) + nc ∧ 24 * (12 * b + e) + nc < 2880 ∧ PM ee n_sign_0 [41] (up M15 21 (24 * (12 * b + e) + nc) z15) (fun z17 M17 => (0 < (M17 0 46) → Qr 0 M17) ∧ (¬ (0 < (M17 0 46)) → PM ee n_isSign_0 [123] M17 (fun z20 M20 => (z20 ≠ 0 → PM ee n_next_0 [] M20 (fun z23 M23 => PM (ee + 1) n_readConstant_172 [24 * (12 * b + e) + nc, nm, 4] M23 Qr)) ∧ (¬ (z20 ≠ 0) → Qr 0 M20))))) → Xq Qr := fun Qr hq => rch Qr (ts.sg1 (by decide) k40 (by omega) _ ⟨fun y => absurd y (by decide), fun _ => rn1 _ hq⟩)
  have n1 : ∀ L k, ¬ (L = 50 ∧ 6 ≤ k ∧ k ≤ 8) → nPs N (j + 1) (K (j + 1)) (W (j + 1)) L k = N L k := fun L k q => nPs_ne q
  have fn1 : fCn b e ln c N c (nPs N (j + 1) (K (j + 1)) (W (j + 1))) := fCn.x fXn.ps
  generalize hN1 : nPs N (j + 1) (K (j + 1)) (W (j + 1)) = N1 at *
  obtain ⟨v1, tg1, ln1⟩ := Wr hW1
  have zx1 := ts1.x hW1
  have zl : V1 (c 120) 2 = ln := (v1 _ _ (by decide)).trans ((n1 _ _ (by omega)).trans ls.lv)
  rw [zx1.2.2.2.1, zl]
  have hW2 : Wv c S (up (up V1 (c (128 * (24 * (12 * b + e) + nc) + 5)) 1 ln) (c 50) 5 1) = up (up N1 (128 * (24 * (12 * b + e) + nc) + 5) 1 ln) 50 5 1 := by rw [Wv_up hc (by decide), Wv_up hc (by decide), hW1]
  have n2 : ∀ L k, ¬ (L = 50 ∧ k = 5) → ¬ (L = 128 * (24 * (12 * b + e) + nc) + 5 ∧ k = 1) → up (up N1 (128 * (24 * (12 * b + e) + nc) + 5) 1 ln) 50 5 1 L k = N1 L k := fun L k q1 q2 => by rw [up_ne' q1, up_ne' q2]
  have n2a : up (up N1 (128 * (24 * (12 * b + e) + nc) + 5) 1 ln) 50 5 1 (128 * (24 * (12 * b + e) + nc) + 5) 1 = ln := by rw [up_ne' (by omega), up_eq]
  have n25 : up (up N1 (128 * (24 * (12 * b + e) + nc) + 5) 1 ln) 50 5 1 50 5 = 1 := up_eq
  have fn2 : fCn b e ln c N c (up (up N1 (128 * (24 * (12 * b + e) + nc) + 5) 1 ln) 50 5 1) := (fn1.tr (fCn.ua (ln := ln) (cun5 (Or.inl rfl) nc0 nc1) (by omega)) (Int.le_refl _)).tr (fCn.s5 (ln := ln)) (Int.le_refl _)
  have ts2 : TS c (up (up N1 (128 * (24 * (12 * b + e) + nc) + 5) 1 ln) 50 5 1) M1 K P W E nt (j + 1) := ts1.fr (fun _ _ => rfl) (fun L k q => n2 L k (by unfold rdR at q; omega) (by unfold rdR at q; omega)) (fun _ _ => rfl) (fun _ => rfl)
  generalize hN2 : up (up N1 (128 * (24 * (12 * b + e) + nc) + 5) 1 ln) 50 5 1 = N2 at *
  have nN : ∀ L k, ¬ (L = 50 ∧ 5 ≤ k ∧ k ≤ 8) → ¬ (L = 128 * (24 * (12 * b + e) + nc) + 5 ∧ k = 1) → N2 L k = N L k := fun L k q1 q2 => (n2 L k (by omega) q2).trans (n1 L k (by omega))
  have x140 : M1 0 40 = M 0 40 := lx1 _ _ (by omega)
  have x151 : M1 0 51 = M 0 51 := lx1 _ _ (by omega)
  have ls2 : MLS c N2 M1 K P W E nt b (12 * b + e) 1 B (j + 1) ln := ls.fr (st' := 1) ts2 n25 ((nN _ _ (by omega) (by omega)).trans ls.lv) (fun i _ _ => nN _ _ (by omega) (by omega)) (by omega) x151 x140 ((lx1 _ _ (by omega)).trans w0) ((nN _ _ (by omega) (by omega)).trans ls.f) (lx1 _ _ (by omega)) (lx1 _ _ (by omega))
  have fm1 : fCm b e (M 0 40) (M 0 51) M M1 := fCm.lx lx1
  refine ⟨yf, yg, g5, CT.im (by omega) (fun d2 hd2 => ?_)⟩
  refine rd_expr (e := ee) (gm := gm) hc cn (by omega) (by omega) hW2 ls2 (by omega) (fun V3 M3 gm3 x j3 l3 er run => ⟨fun y => absurd y (by decide), fun _ => ⟨yf, CT.im (by omega) (fun d3 hd3 => ?_)⟩⟩) (fun V3 M3 z yf' run => ⟨fun _ => ?_, fun y => absurd rfl y⟩)
  · have er' := er
    obtain ⟨ls3, fn3, fm3, gf3, T3, ⟨p1, p2, p3, p4, p5⟩, ⟨u1, u2, u3, u4, u5, u6⟩⟩ := er
    rw [x140, x151] at fm3
    rw [x140] at u4 u5 gf3
    have m4 : ∀ k i, ¬ (k = 21 ∧ i = 24 * (12 * b + e) + nc) → up M3 21 (24 * (12 * b + e) + nc) x k i = M3 k i := fun k i q => up_ne' q
    have m4a : up M3 21 (24 * (12 * b + e) + nc) x 21 (24 * (12 * b + e) + nc) = x := up_eq
    have fm4 : fCm b e (M 0 40) (M 0 51) M (up M3 21 (24 * (12 * b + e) + nc) x) := (fm1.tr (fCm.y fm3) (Int.le_refl _) (Int.le_refl _)).tr (fCm.ua (cum20 (Or.inr rfl) nc0 nc1)) (Int.le_refl _) (Int.le_refl _)
    have ts4 : TS c (Wv c S V3) (up M3 21 (24 * (12 * b + e) + nc) x) K P W E nt j3 := ls3.ts.fr (fun _ _ => rfl) (fun _ _ _ => rfl) (fun i hi => m4 _ _ (by omega)) (fun i => m4 _ _ (by omega))
    have r2 : ∀ Qr : Int → Mem → Prop, PM ee n_sign_0 [41] (up M3 21 (24 * (12 * b + e) + nc) x) (fun z17 M17 => (0 < (M17 0 46) → Qr 0 M17) ∧ (¬ (0 < (M17 0 46)) → PM ee n_isSign_0 [123] M17 (fun z20 M20 => (z20 ≠ 0 → PM ee n_next_0 [] M20 (fun z23 M23 => PM (ee + 1) n_readConstant_172 [24 * (12 * b + e) + nc, nm, 4] M23 Qr)) ∧ (¬ (z20 ≠ 0) → Qr 0 M20)))) → Xq Qr := fun Qr hq => r1 Qr (run _ ⟨by omega, by omega, hq⟩)
    generalize hM4 : up M3 21 (24 * (12 * b + e) + nc) x = M4 at *
    have w4 : M4 0 46 = 0 := (m4 _ _ (by omega)).trans ls3.w
    have fn3' : fCn b e ln c N c (Wv c S V3) := fn2.tr (fCn.x fn3) (Int.le_refl _)
    by_cases k41 : K j3 = 41
    · refine ct_acc1 (e := ee - 1) hc rfl ts4 k41 (by decide) (by omega) (by omega) (fun V5 M5 hW5 ts5 lx5 rn5 => ⟨fun _ => ⟨yf, ?_⟩, fun y => absurd (by decide) y⟩)
      have n5 : ∀ L k, ¬ (L = 50 ∧ 6 ≤ k ∧ k ≤ 8) → Wv c S V5 L k = Wv c S V3 L k := fun L k q => by rw [hW5]; exact nPs_ne q
      have m5 : ∀ k i, ¬ (k = 0 ∧ 3 ≤ i ∧ i ≤ 6) → M5 k i = M4 k i := lx5
      have ts5' : TS c (Wv c S V5) M5 K P W E nt (j3 + 1) := by rw [hW5]; exact ts5
      have x540 : M5 0 40 = M3 0 40 := (m5 _ _ (by omega)).trans (m4 _ _ (by omega))
      have fn5 : fCn b e ln c N c (Wv c S V5) := by rw [hW5]; exact fn3'.tr (fCn.x fXn.ps) (Int.le_refl _)
      have fm5 : fCm b e (M 0 40) (M 0 51) M M5 := fm4.tr (fCm.lx lx5) (Int.le_refl _) (Int.le_refl _)
      have n5N : ∀ L k, ¬ (L = 50 ∧ 5 ≤ k ∧ k ≤ 11) → ¬ (L = 120 ∧ k = 2) → ¬ ((L = 121 ∨ L = 122) ∧ ln ≤ k) → ¬ (L = 128 * (24 * (12 * b + e) + nc) + 5 ∧ k = 1) → Wv c S V5 L k = N L k := fun L k q1 q2 q3 q4 => (n5 L k (by omega)).trans ((fn3 L k (by omega) q2 q3).trans (nN L k (by omega) q4))
      have nq : ∀ L k, L % 128 < 30 → ¬ (L = 128 * (24 * (12 * b + e) + nc) + 5 ∧ k = 1) → Wv c S V5 L k = N L k := fun L k q0 q1 => n5N L k (by omega) (by omega) (by omega) q1
      have m5M : ∀ k i, k ≠ 0 → ¬ (35 ≤ k ∧ k ≤ 39) → ¬ (48 ≤ k ∧ k ≤ 50) → ¬ (k = 21 ∧ i = 24 * (12 * b + e) + nc) → M5 k i = M k i := fun k i q0 q1 q2 q3 => (m5 k i (by omega)).trans ((m4 k i q3).trans ((fm3 k i (by omega) (by omega) (by omega)).trans (lx1 k i (by omega))))
      have ow3 : ∀ p, p < ln → owU ow ln l3 (1000 * e + nc) p = ow p := fun p q => owU_lt q
      have GA : GRW (M 0 40) ln (M 0 51) N M gm ow (Wv c S V5) M5 gm3 (owU ow ln l3 (1000 * e + nc)) := fC_grw gf3 ow3 fn5 fm5
      have wd2 := h.wd.fr (R := M 0 51) (gm' := gm) (N' := N2) (M' := M1) (fC_grw (fun _ _ _ => rfl) (fun _ _ => rfl) fn2 fm1) ls.r
      rw [← x140] at wd2
      obtain ⟨wd3, rt3⟩ := wd2.exp (sl := 1000 * e + nc) cn ls2.r er' (by omega)
      have rt3 := rt3 1 (Int.le_refl _)
      have G35 : GRW (M3 0 40) (l3 + 1) (M3 0 51) (Wv c S V3) M3 gm3 (owU ow ln l3 (1000 * e + nc)) (Wv c S V5) M5 gm3 (owU ow ln l3 (1000 * e + nc)) := ⟨fun i _ _ => ⟨n5 _ _ (by omega), n5 _ _ (by omega)⟩, fun _ _ _ => rfl, fun _ _ => rfl, fun k i _ _ _ => (m5 _ _ (by omega)).trans (m4 _ _ (by omega)), fun k i _ _ _ => (m5 _ _ (by omega)).trans (m4 _ _ (by omega))⟩
      have wd5 := wd3.fr G35 ls3.r
      rw [← x540] at wd5
      have ls5 : MLS c (Wv c S V5) M5 K P W E nt b (12 * b + e) 1 B (j3 + 1) (l3 + 1) := ls3.fr (st' := 1) ts5' ((n5 _ _ (by omega)).trans ls3.sv) ((n5 _ _ (by omega)).trans ls3.lv) (fun i _ _ => n5 _ _ (by omega)) (by omega) ((m5 _ _ (by omega)).trans (m4 _ _ (by omega))) x540 ((m5 _ _ (by omega)).trans w4) ((n5 _ _ (by omega)).trans ls3.f) ((m5 _ _ (by omega)).trans (m4 _ _ (by omega))) ((m5 _ _ (by omega)).trans (m4 _ _ (by omega)))
      have mc' : ∀ k, 13 ≤ k → k ≤ 18 → M5 k (12 * b + e) = M k (12 * b + e) := fun k k1 k2 => m5M _ _ (by omega) (by omega) (by omega) (by omega)
      have ei5 : EI c (Wv c S V5) M5 gm3 (owU ow ln l3 (1000 * e + nc)) K P W E nt b B (M5 0 40) (l3 + 1) e nc nu nk nh ns := h.ei.fr GA ls.r (by omega) (by omega) (fun L k q => ⟨rfl, nq _ _ (itn_ne q).1 (fun y => (itn_nq q).1 y.1)⟩) (fun k i q => m5M _ _ (itm_ne q).1 (itm_ne q).2.1 (itm_ne q).2.2.1 (fun y => (itm_ne q).2.2.2.2.2.2.2.1 ⟨Or.inr y.1, by omega⟩))
      have he5 : HE c (Wv c S V5) M5 (12 * b + e) := hE.fr (fun L k q => ⟨rfl, nq _ _ (by unfold hdL at q; omega) (by unfold hdL at q; omega)⟩) (fun L q => ⟨rfl, nq _ _ (by unfold hiL at q; omega) (by omega)⟩) mc' (fun i => m5M _ _ (by omega) (by omega) (by omega) (by omega))
      obtain ⟨q14, q15, q16, q17, q18⟩ := h.ct
      have rd5 : RDI c (Wv c S V5) M5 gm3 (owU ow ln l3 (1000 * e + nc)) (owU eo ln (l3 + 1) e) cs K P W E nt b B 1 (j3 + 1) (l3 + 1) e nc nu nk nh ns cb 1 := h.nx fn5 fm5 GA (by omega) (by omega) (fun p q => owU_lt q) ls5 (h.hb.cu e0 b0 fn5 fm5 (fun k _ => n5N _ _ (by omega) (by omega) (by omega) (by omega)) (nq _ _ (by omega) (by omega)) (m5M _ _ (by omega) (by omega) (by omega) (by omega)) (fun i _ _ => m5M _ _ (by omega) (by omega) (by omega) (by omega))) he5 ⟨(mc' 14 (by decide) (by decide)).trans q14, (mc' 15 (by decide) (by decide)).trans q15, (mc' 16 (by decide) (by decide)).trans q16, (mc' 17 (by decide) (by decide)).trans q17, (mc' 18 (by decide) (by decide)).trans q18⟩ ei5 wd5
      have ic5 : IC c (Wv c S V5) M5 gm3 (owU ow ln l3 (1000 * e + nc)) b B (M5 0 40) (l3 + 1) e (24 * (12 * b + e) + nc) nc := by
        have n51 : Wv c S V5 (128 * (24 * (12 * b + e) + nc) + 5) 1 = ln := (n5 _ _ (by omega)).trans ((fn3 _ _ (by omega) (by omega) (by omega)).trans n2a)
        have m521 : M5 21 (24 * (12 * b + e) + nc) = x := (m5 _ _ (by omega)).trans m4a
        unfold IC
        rw [n51, m521, nq _ _ (by omega) (by omega), nq _ _ (by omega) (by omega), nq _ _ (by omega) (by omega), nq _ _ (by omega) (by omega), nq _ _ (by omega) (by omega), nq _ _ (by omega) (by omega), m5M 20 _ (by decide) (by decide) (by decide) (by omega)]
        refine ⟨⟨i1, i2, i3, i4, i5⟩, ⟨i6.m7 (fun i => m5M _ _ (by omega) (by omega) (by omega) (by omega)), i7⟩, Or.inr ⟨l0, ?_⟩, fun a a0 a1 => (i9 a a0 a1).fr GA (by omega) (by omega) (nq _ _ (by omega) (by omega)) (m5M _ _ (by omega) (by omega) (by omega) (by omega))⟩
        exact rt3.fr G35 (by omega) (Int.le_refl _)
      have zx5 := ts5'.x (V := V5) rfl
      rw [zx5.1]
      refine co_acc hc hd he nc0 nc1 rfl (by omega) rd5 (gf.cu e0 e1 l0 BX fn5 fm5) ic5 (fun a a0 a1 => (nq _ _ (by omega) (by omega)).trans (bz a a0 a1)) hok hbad (fun Qr hq => r2 Qr (ts4.sn1 w4 (by decide) k41 (by omega) rn5 _ ⟨fun y => absurd y ?_, fun _ => hq⟩))
      rw [m5 _ _ (by omega), w4]; decide
    · refine ct_acc0 hc rfl ts4 k41 (by omega) (fun V5 hW5 => ⟨fun y => absurd rfl y, fun _ => ?_⟩)
      have wp : 0 < mFt M4 (if K j3 = 0 then 1 else 2) (P j3) 0 46 := by rw [mFt_46]; exact ftp (by decide)
      exact hbad V5 (mFt M4 (if K j3 = 0 then 1 else 2) (P j3)) ((gf.cu e0 e1 l0 BX fn3' fm4).tr (fun _ _ => rfl) (fun L k q => by rw [hW5]; exact gf_nft q) (fun k i q => gf_mft q)) (by rw [hW5]; exact FTS.ft (ftp (by decide))) (fun Qr hq => r2 Qr (ts4.sn0 w4 (by decide) k41 (by omega) _ ⟨fun _ => hq, fun y => absurd wp y⟩))
  · obtain ⟨x1, x2, x3, x4, x5⟩ := yf'
    rw [x140, x151] at x2
    have fm6 : fCm b e (M 0 40) (M 0 51) M (up M3 21 (24 * (12 * b + e) + nc) z) := (fm1.tr (fCm.y x2) (Int.le_refl _) (Int.le_refl _)).tr (fCm.ua (cum20 (Or.inr rfl) nc0 nc1)) (Int.le_refl _) (Int.le_refl _)
    have w46 : up M3 21 (24 * (12 * b + e) + nc) z 0 46 = M3 0 46 := up_ne' (by omega)
    have w47 : up M3 21 (24 * (12 * b + e) + nc) z 0 47 = M3 0 47 := up_ne' (by omega)
    have wp : 0 < up M3 21 (24 * (12 * b + e) + nc) z 0 46 := by rw [w46]; exact x3
    exact hbad V3 (up M3 21 (24 * (12 * b + e) + nc) z) (gf.cu e0 e1 l0 BX (fn2.tr (fCn.x x1) (Int.le_refl _)) fm6) ⟨wp, by rw [w46]; exact x4, by rw [w47]; exact x5⟩ (fun Qr hq => r1 Qr (run _ ⟨by omega, by omega, sn_w wp (by omega) _ ⟨fun _ => hq, fun y => absurd wp y⟩⟩))
end COT
