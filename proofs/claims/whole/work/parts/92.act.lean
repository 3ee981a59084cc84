/-! ===== book: an act's expr ===== -/
section ACX
variable {l : Launch} {G : GT} {c c0 : Int → Int} {S : Sh} {V N M gm N0 M0 N3 M2 : Mem} {Q : Int → Sh → Mem → Prop} {d mc ms ee : Nat} {ow eo cs K P W E : Int → Int} {nt b B st j ln e nc nu nk nh ns cb pc j2 Lb kb bs xr sv lv a : Int}
set_option maxHeartbeats 2000000 in
theorem act_tail (hc : Cn c S) (h : RDI c N M gm ow eo cs K P W E nt b B st j ln e nc nu nk nh ns cb pc) (gf : GF b B c0 N0 M0 c N M) (hd : 80 ≤ d) (he : 100 ≤ ee)
    (hcs : (xr = -1 ∧ Lb = 128 * (12 * b + e) + 7 ∧ kb = 19 ∧ bs = 4 * (12 * b + e) ∧ sv = 2 ∧ lv = 2) ∨ (xr = 24 * (12 * b + e) + nc ∧ (0 ≤ nc ∧ nc < 24) ∧ Lb = 128 * (24 * (12 * b + e) + nc) + 6 ∧ kb = 22 ∧ bs = 4 * (24 * (12 * b + e) + nc) ∧ sv = 3 ∧ lv = 3))
    (hbod : ∀ a, 0 ≤ a → a < 4 → BOD N M gm ow B (M 0 40) ln Lb kb bs a lv) (a0 : 0 ≤ a) (a1 : a < 4)
    (hW3 : Wv c S V = N3) (n3 : ∀ L k, ¬ (L = 50 ∧ 5 ≤ k ∧ k ≤ 9) → ¬ (L = 51 ∧ 0 ≤ k) → ¬ (L = 128 * b + 1 ∧ k = 2) → ¬ (L = Lb ∧ k = a) → N3 L k = N L k) (n3a : N3 Lb a = ln) (n35 : N3 50 5 = sv) (m2 : ∀ k i, ¬ (k = 0 ∧ 3 ≤ i ∧ i ≤ 6) → ¬ (k = 11 ∧ i = b) → ¬ (k = 12 ∧ 4 * b ≤ i ∧ i < 4 * b + 4) → M2 k i = M k i) (ts3 : TS c N3 M2 K P W E nt j2) (jj : j + 1 < j2) (hb3 : HB c N3 M2 b)
    (ref : ∀ Qr : Int → Mem → Prop, PM (ee - 1) n_sign_0 [61] M2 (fun z11 M11 => PM ee n_readAct_224 [xr, a, 0, 1, 1, fa sv] M11 Qr) → PM ee n_readAct_0 [xr] M Qr)
    (hok : ∀ V' M' gm' ow' eo' j' ln', RDI c (Wv c S V') M' gm' ow' eo' cs K P W E nt b B sv j' ln' e nc nu nk nh ns cb pc → GF b B c0 N0 M0 c (Wv c S V') M' → j < j' → (∀ a, 0 ≤ a → a < 4 → BOD (Wv c S V') M' gm' ow' B (M' 0 40) ln' Lb kb bs a lv) → GRW (M 0 40) ln (M 0 51) N M gm ow (Wv c S V') M' gm' ow' → M 0 40 ≤ M' 0 40 → ln ≤ ln' → (∀ L k, L % 128 < 30 → ¬ (L = 128 * b + 1 ∧ k = 2) → L ≠ Lb → Wv c S V' L k = N L k) → (∀ k, k < 0 → Wv c S V' Lb k = N Lb k) → (∀ k i, k = 7 ∨ k = 20 ∨ k = 21 → M' k i = M k i) → 0 ≤ Wv c S V' Lb a → (∀ a', 0 ≤ a' → a' ≠ a → Wv c S V' Lb a' = N Lb a') → M' 11 b = M2 11 b → RunM ee n_readAct_0 [xr] M 0 M' → Q 1 S V')
    (hbad : ∀ V' M', GF b B c0 N0 M0 c (Wv c S V') M' → FTS (Wv c S V') M' → RunM ee n_readAct_0 [xr] M 0 M' → Q 0 S V') :
    CT l G bX5_accept d mc ms [vr (c 50), vi 61] S V (fun z11 S11 V11 mc11 ms11 => (z11 = 0 → Q 0 S11 V11) ∧ (¬ (z11 = 0) → S11.1 (c 50) = 6 ∧ CT l G bX5_readSum d mc11 ms11 [vr (c 50), vi 0] S11 V11 (fun z14 S14 V14 mc14 ms14 => (z14 = 0 → Q 0 S14 V14) ∧ (¬ (z14 = 0) → S14.1 (c 50) = 6 ∧ CT l G bX5_accept d mc14 ms14 [vr (c 50), vi 59] S14 V14 (fun z17 S17 V17 mc17 ms17 => (z17 = 0 → Q 0 S17 V17) ∧ (¬ (z17 = 0) → Q 1 S17 V17)))))) := by
  obtain ⟨e0, e1, b0, b1, B0, B1⟩ := h.bd
  have ls := h.ls
  have hE := h.he
  have ntb := ts3.ntb
  have l0 := ls.l0
  have lj := ls.lj
  have w0 := ls.w
  have nc1 := hE.nc1
  have nc0 := hE.nc0
  obtain ⟨q14, q15, q16, q17, q18⟩ := h.ct
  obtain ⟨ya, yb, yc, yd, ye, yf, yg⟩ := ts3.x hW3
  have BX : B ≤ M 0 40 := h.wd.2.2.2.2.2.2.1
  have sv01 : 0 ≤ sv ∧ sv ≤ 3 := by omega
  have cn : CN b B sv := ⟨b0, b1, B0, B1, sv01.1, sv01.2⟩
  have fz : fv sv = 1 ∧ fo sv = 1 := by unfold fv fo; rw [if_pos (by omega), if_pos (by omega)]; exact ⟨rfl, rfl⟩
  have cuL : cuN b e Lb := by
    rcases hcs with q | q
    · rw [q.2.1]; exact cu3 (by omega)
    · rw [q.2.2.1]; exact Or.inr (Or.inl ⟨by omega, by omega, by omega⟩)
  have cuK : cuM b e (M 0 40) (M 0 51) kb (bs + a) := by
    rcases hcs with q | q
    · rw [q.2.2.1, q.2.2.2.1]; exact Or.inr (Or.inr (Or.inr (Or.inr (Or.inl ⟨by omega, by omega, by omega⟩))))
    · rw [q.2.2.2.1, q.2.2.2.2.1]; exact Or.inr (Or.inr (Or.inr (Or.inr (Or.inr (Or.inr (Or.inl ⟨by omega, by omega, by omega⟩))))))
  have Lne : Lb ≠ 128 * (12 * b + e) + 3 ∧ Lb % 128 < 30 ∧ 3 ≤ Lb % 128 ∧ Lb ≠ 50 := by omega
  have fn3 : fCn b e ln c N c N3 := ⟨fun _ _ => rfl, fun L k q1 q2 q3 q4 q5 q6 => n3 L k (by omega) q3 q4 (fun y => q1 (by rw [y.1]; exact cuL)), rfl, n3 _ _ (by omega) (by omega) (by omega) (by omega), n3 _ _ (by omega) (by omega) (by omega) (by omega)⟩
  have fm2 : fCm b e (M 0 40) (M 0 51) M M2 := fun k i q => m2 k i (fun y => q (Or.inl ⟨y.1, by omega⟩)) (fun y => q (Or.inr (Or.inl y))) (fun y => q (Or.inr (Or.inr (Or.inl y))))
  have w2 : M2 0 46 = 0 := (m2 _ _ (by omega) (by omega) (by omega)).trans w0
  have x240 : M2 0 40 = M 0 40 := m2 _ _ (by omega) (by omega) (by omega)
  have x251 : M2 0 51 = M 0 51 := m2 _ _ (by omega) (by omega) (by omega)
  have g2 : M2 0 41 = 12 * b + e := (m2 _ _ (by omega) (by omega) (by omega)).trans ls.g41
  -- the reference's last words
  have lst : ∀ (z : Int) (Mx : Mem) (Qr : Int → Mem → Prop), Mx 0 41 = 12 * b + e → Qr 0 (up Mx kb (bs + a) z) → (xr ≠ (-1) → -2147483648 ≤ 4 * xr ∧ 4 * xr ≤ 2147483647 ∧ -2147483648 ≤ (4 * xr) + a ∧ (4 * xr) + a ≤ 2147483647 ∧ 0 ≤ ((4 * xr) + a) ∧ ((4 * xr) + a) < 11520 ∧ Qr 0 (up Mx 22 ((4 * xr) + a) z)) ∧ (¬ (xr ≠ (-1)) → -2147483648 ≤ 4 * (Mx 0 41) ∧ 4 * (Mx 0 41) ≤ 2147483647 ∧ -2147483648 ≤ (4 * (Mx 0 41)) + a ∧ (4 * (Mx 0 41)) + a ≤ 2147483647 ∧ 0 ≤ ((4 * (Mx 0 41)) + a) ∧ ((4 * (Mx 0 41)) + a) < 480 ∧ Qr 0 (up Mx 19 ((4 * (Mx 0 41)) + a) z)) := fun z Mx Qr hg hq => by
    rw [hg]
    rcases hcs with q | q
    · rw [q.2.2.1, q.2.2.2.1] at hq
      exact ⟨fun y => absurd q.1 y, fun _ => ⟨by omega, by omega, by omega, by omega, by omega, by omega, hq⟩⟩
    · rw [q.2.2.2.1, q.2.2.2.2.1, ← q.1] at hq
      exact ⟨fun _ => ⟨by omega, by omega, by omega, by omega, by omega, by omega, hq⟩, fun y => absurd (by omega) y⟩
  have r224 : ∀ (M4 : Mem) (Qr : Int → Mem → Prop), PM (ee - 1) n_readExpr_0 [fv sv, fo sv, fa sv] M4 (fun z1 M1 => PM (ee - 1) n_sign_0 [59] M1 (fun z3 M3 => (xr ≠ (-1) → -2147483648 ≤ 4 * xr ∧ 4 * xr ≤ 2147483647 ∧ -2147483648 ≤ (4 * xr) + a ∧ (4 * xr) + a ≤ 2147483647 ∧ 0 ≤ ((4 * xr) + a) ∧ ((4 * xr) + a) < 11520 ∧ Qr 0 (up M3 22 ((4 * xr) + a) z1)) ∧ (¬ (xr ≠ (-1)) → -2147483648 ≤ 4 * (M3 0 41) ∧ 4 * (M3 0 41) ≤ 2147483647 ∧ -2147483648 ≤ (4 * (M3 0 41)) + a ∧ (4 * (M3 0 41)) + a ≤ 2147483647 ∧ 0 ≤ ((4 * (M3 0 41)) + a) ∧ ((4 * (M3 0 41)) + a) < 480 ∧ Qr 0 (up M3 19 ((4 * (M3 0 41)) + a) z1)))) → PM ee n_readAct_224 [xr, a, 0, 1, 1, fa sv] M4 Qr := fun M4 Qr hq => by
    rw [fz.1, fz.2] at hq
    obtain ⟨e', rfl⟩ : ∃ e', ee = e' + 1 := ⟨ee - 1, by omega⟩
    exact st_readAct_224 hq
  have gfup : ∀ (Mx : Mem) (z : Int) (k i : Int), ¬ gfM b B k i → up Mx kb (bs + a) z k i = Mx k i := fun Mx z k i q => up_ne' (fun y => q (by
    rw [y.1, y.2]
    rcases hcs with p | p
    · rw [p.2.2.1, p.2.2.2.1]; exact Or.inr (Or.inr (Or.inr (Or.inr (Or.inl ⟨by omega, by omega, by omega⟩))))
    · rw [p.2.2.2.1, p.2.2.2.2.1]; exact Or.inr (Or.inr (Or.inr (Or.inr (Or.inr (Or.inr (Or.inl ⟨rfl, by omega, by omega⟩))))))))
  have kb0 : kb ≠ 0 ∧ kb ≠ 7 ∧ kb ≠ 20 ∧ kb ≠ 21 ∧ ¬ (35 ≤ kb ∧ kb ≤ 39) ∧ ¬ (48 ≤ kb ∧ kb ≤ 50) ∧ ¬ (13 ≤ kb ∧ kb ≤ 18) ∧ kb ≠ 11 ∧ kb ≠ 12 := by omega
  refine CT.im (by omega) (fun d1 hd1 => ?_)
  by_cases k61 : K j2 = 61
  · refine ct_acc1 (e := ee - 1 - 1) hc hW3 ts3 k61 (by decide) (by omega) (by omega) (fun V4 M4 hW4 ts4 lx4 rn4 => ⟨fun y => absurd y (by decide), fun _ => ⟨yf, CT.im (by omega) (fun d3 hd3 => ?_)⟩⟩)
    have jlt := ts3.lt (show K j2 ≠ 1 by omega)
    have n4 : ∀ L k, ¬ (L = 50 ∧ 6 ≤ k ∧ k ≤ 8) → nPs N3 (j2 + 1) (K (j2 + 1)) (W (j2 + 1)) L k = N3 L k := fun L k q => nPs_ne q
    have m4 : ∀ k i, ¬ (k = 0 ∧ 3 ≤ i ∧ i ≤ 6) → M4 k i = M2 k i := lx4
    have hls4 := ls.fr (st' := sv) ts4 (by rw [n4 _ _ (by omega)]; exact n35) (by rw [n4 _ _ (by omega), n3 _ _ (by omega) (by omega) (by omega) (by omega)]; exact ls.lv) (fun i _ _ => by rw [n4 _ _ (by omega), n3 _ _ (by omega) (by omega) (by omega) (by omega)]) (by omega) ((m4 _ _ (by omega)).trans x251) ((m4 _ _ (by omega)).trans x240) ((m4 _ _ (by omega)).trans w2) (by rw [n4 _ _ (by omega), n3 _ _ (by omega) (by omega) (by omega) (by omega)]; exact ls.f) ((m4 _ _ (by omega)).trans (m2 _ _ (by omega) (by omega) (by omega))) ((m4 _ _ (by omega)).trans (m2 _ _ (by omega) (by omega) (by omega)))
    have x40 : M4 0 40 = M 0 40 := (m4 _ _ (by omega)).trans x240
    have x51 : M4 0 51 = M 0 51 := (m4 _ _ (by omega)).trans x251
    have fn4 : fCn b e ln c N c (nPs N3 (j2 + 1) (K (j2 + 1)) (W (j2 + 1))) := fn3.tr (fCn.x fXn.ps) (Int.le_refl _)
    have fm4 : fCm b e (M 0 40) (M 0 51) M M4 := fm2.tr (fCm.lx lx4) (Int.le_refl _) (Int.le_refl _)
    have pre3 : ∀ Qr : Int → Mem → Prop, PM ee n_readAct_224 [xr, a, 0, 1, 1, fa sv] M4 Qr → PM ee n_readAct_0 [xr] M Qr := fun Qr hq => ref Qr (ts3.sn1 w2 (by decide) k61 (by omega) rn4 _ hq)
    refine rd_expr (e := ee - 1) (gm := gm) hc cn (by omega) (by omega) hW4 hls4 (by omega) (fun V5 M5 gm5 x j5 l5 er run => ⟨fun y => absurd y (by decide), fun _ => ?_⟩) (fun V5 M5 z yf' run => ⟨fun _ => ?_, fun y => absurd rfl y⟩)
    · have er' := er
      obtain ⟨ls5, fn5, fm5, gf5, T5, ⟨p1, p2, p3, p4, p5⟩, ⟨u1, u2, u3, u4, u5, u6⟩⟩ := er
      rw [x40, x51] at fm5
      rw [x40] at u4 u5
      have fm6 : fCm b e (M 0 40) (M 0 51) M M5 := fm4.tr (fCm.y fm5) (Int.le_refl _) (Int.le_refl _)
      have fnn : fCn b e ln c N c (Wv c S V5) := fn4.tr (fCn.x fn5) (Int.le_refl _)
      have pre4 : ∀ Qr : Int → Mem → Prop, PM (ee - 1) n_sign_0 [59] M5 (fun z3 M3 => (xr ≠ (-1) → -2147483648 ≤ 4 * xr ∧ 4 * xr ≤ 2147483647 ∧ -2147483648 ≤ (4 * xr) + a ∧ (4 * xr) + a ≤ 2147483647 ∧ 0 ≤ ((4 * xr) + a) ∧ ((4 * xr) + a) < 11520 ∧ Qr 0 (up M3 22 ((4 * xr) + a) x)) ∧ (¬ (xr ≠ (-1)) → -2147483648 ≤ 4 * (M3 0 41) ∧ 4 * (M3 0 41) ≤ 2147483647 ∧ -2147483648 ≤ (4 * (M3 0 41)) + a ∧ (4 * (M3 0 41)) + a ≤ 2147483647 ∧ 0 ≤ ((4 * (M3 0 41)) + a) ∧ ((4 * (M3 0 41)) + a) < 480 ∧ Qr 0 (up M3 19 ((4 * (M3 0 41)) + a) x))) → PM ee n_readAct_0 [xr] M Qr := fun Qr hq => pre3 Qr (r224 M4 Qr (run _ hq))
      refine ⟨yf, CT.im (by omega) (fun d4 hd4 => ?_)⟩
      by_cases k59 : K j5 = 59
      · refine ct_acc1 (e := ee - 1 - 1) hc rfl ls5.ts k59 (by decide) (by omega) (by omega) (fun V7 M6 hW7 ts7 lx7 rn7 => ⟨fun y => absurd y (by decide), fun _ => ?_⟩)
        have m7 : ∀ k i, ¬ (k = 0 ∧ 3 ≤ i ∧ i ≤ 6) → ¬ (k = kb ∧ i = bs + a) → up M6 kb (bs + a) x k i = M5 k i := fun k i q0 q1 => (up_ne' q1).trans (lx7 k i q0)
        have m7k : up M6 kb (bs + a) x kb (bs + a) = x := up_eq
        have fn7 : fCn b e ln c N c (Wv c S V7) := by rw [hW7]; exact fnn.tr (fCn.x fXn.ps) (Int.le_refl _)
        have fm7 : fCm b e (M 0 40) (M 0 51) M (up M6 kb (bs + a) x) := (fm6.tr (fCm.lx lx7) (Int.le_refl _) (Int.le_refl _)).tr (fCm.ua cuK) (Int.le_refl _) (Int.le_refl _)
        have g6 : M6 0 41 = 12 * b + e := (lx7 _ _ (by omega)).trans ls5.g41
        have run7 : RunM ee n_readAct_0 [xr] M 0 (up M6 kb (bs + a) x) := fun Qr hq => pre4 Qr (ls5.ts.sn1 ls5.w (by decide) k59 (by omega) rn7 _ (lst x M6 Qr g6 hq))
        have tsz : TS c (nPs (Wv c S V5) (j5 + 1) (K (j5 + 1)) (W (j5 + 1))) (up M6 kb (bs + a) x) K P W E nt (j5 + 1) := ts7.fr (fun _ _ => rfl) (fun _ _ _ => rfl) (fun i hi => up_ne' (by omega)) (fun i => up_ne' (by omega))
        generalize hM7 : up M6 kb (bs + a) x = M7 at *
        have m7M : ∀ k i, ¬ (k = 0) → ¬ (35 ≤ k ∧ k ≤ 39) → ¬ (48 ≤ k ∧ k ≤ 50) → ¬ (k = kb ∧ i = bs + a) → ¬ (k = 11 ∧ i = b) → ¬ (k = 12 ∧ 4 * b ≤ i ∧ i < 4 * b + 4) → M7 k i = M k i := fun k i q0 q1 q2 q3 q4 q5 => (m7 k i (by omega) q3).trans ((fm5 k i (by omega) (by omega) (by omega)).trans ((m4 k i (by omega)).trans (m2 k i (by omega) q4 q5)))
        have m72 : ∀ k i, ¬ (k = 0) → ¬ (35 ≤ k ∧ k ≤ 39) → ¬ (48 ≤ k ∧ k ≤ 50) → ¬ (k = kb ∧ i = bs + a) → M7 k i = M2 k i := fun k i q0 q1 q2 q3 => (m7 k i (by omega) q3).trans ((fm5 k i (by omega) (by omega) (by omega)).trans (m4 k i (by omega)))
        have x740 : M7 0 40 = M5 0 40 := m7 _ _ (by omega) (by omega)
        have n7 : ∀ L k, ¬ (L = 50 ∧ 6 ≤ k ∧ k ≤ 11) → ¬ (L = 120 ∧ k = 2) → ¬ ((L = 121 ∨ L = 122) ∧ ln ≤ k) → Wv c S V7 L k = N3 L k := fun L k q1 q2 q3 => by rw [hW7, nPs_ne (by omega), fn5 L k (by omega) q2 q3]; exact n4 _ _ (by omega)
        have nq : ∀ L k, L % 128 < 30 → ¬ (L = 128 * b + 1 ∧ k = 2) → ¬ (L = Lb ∧ k = a) → Wv c S V7 L k = N L k := fun L k q0 q1 q2 => by rw [n7 _ _ (by omega) (by omega) (by omega), n3 _ _ (by omega) (by omega) q1 q2]
        have ls7 : MLS c (Wv c S V7) M7 K P W E nt b (12 * b + e) sv B (j5 + 1) (l5 + 1) := ls5.fr (by rw [hW7]; exact tsz) (by rw [hW7, nPs_ne (by omega)]; exact ls5.sv) (by rw [hW7, nPs_ne (by omega)]; exact ls5.lv) (fun i _ _ => by rw [hW7, nPs_ne (by omega)]) (by omega) (m7 _ _ (by omega) (by omega)) x740 ((m7 _ _ (by omega) (by omega)).trans ls5.w) (by rw [hW7, nPs_ne (by omega)]; exact ls5.f) (m7 _ _ (by omega) (by omega)) (m7 _ _ (by omega) (by omega))
        have wd1 := h.wd.fr (R := M 0 51) (gm' := gm) (N' := nPs N3 (j2 + 1) (K (j2 + 1)) (W (j2 + 1))) (M' := M4) (fC_grw (fun _ _ _ => rfl) (fun _ _ => rfl) fn4 fm4) ls.r
        rw [← x40] at wd1
        obtain ⟨wd3, rt3⟩ := wd1.exp (sl := -1) cn hls4.r er' (by omega)
        have rt3 := rt3 lv (by omega)
        have G57 : GRW (M5 0 40) (l5 + 1) (M5 0 51) (Wv c S V5) M5 gm5 (owU ow ln l5 (-1)) (Wv c S V7) M7 gm5 (owU ow ln l5 (-1)) := ⟨fun i _ _ => by rw [hW7]; exact ⟨nPs_ne (by omega), nPs_ne (by omega)⟩, fun _ _ _ => rfl, fun _ _ => rfl, fun k i k1 k2 _ => m7 _ _ (by omega) (by omega), fun k i k1 k2 _ => m7 _ _ (by omega) (by omega)⟩
        have GA : GRW (M 0 40) ln (M 0 51) N M gm ow (Wv c S V7) M7 gm5 (owU ow ln l5 (-1)) := fC_grw (fun k y q => gf5 k y (by omega)) (fun p q => owU_lt q) fn7 fm7
        have bod7 : ∀ a', 0 ≤ a' → a' < 4 → BOD (Wv c S V7) M7 gm5 (owU ow ln l5 (-1)) B (M7 0 40) (l5 + 1) Lb kb bs a' lv := fun a' p0 p1 => by
          by_cases y : a' = a
          · subst y
            refine Or.inr ?_
            rw [n7 _ _ (by omega) (by omega) (by omega), n3a, m7k]
            exact ⟨l0, rt3.fr G57 (by omega) (Int.le_refl _)⟩
          · exact (hbod a' p0 p1).fr GA (by omega) (by omega) (nq _ _ (by omega) (by omega) (by omega)) (m7M _ _ (by omega) (by omega) (by omega) (by omega) (by omega) (by omega))
        have ebod : ∀ a', 0 ≤ a' → a' < 4 → BOD (Wv c S V7) M7 gm5 (owU ow ln l5 (-1)) B (M7 0 40) (l5 + 1) (128 * (12 * b + e) + 7) 19 (4 * (12 * b + e)) a' 2 := fun a' p0 p1 => by
          rcases hcs with p | p
          · have := bod7 a' p0 p1
            rw [p.2.1, p.2.2.1, p.2.2.2.1, p.2.2.2.2.2] at this
            exact this
          · exact (h.ei.2.2.2.2.2 a' p0 p1).fr GA (by omega) (by omega) (nq _ _ (by omega) (by omega) (by omega)) (m7M _ _ (by omega) (by omega) (by omega) (by omega) (by omega) (by omega))
        have ei7 : EI c (Wv c S V7) M7 gm5 (owU ow ln l5 (-1)) K P W E nt b B (M7 0 40) (l5 + 1) e nc nu nk nh ns := h.ei.frb GA ls.r (by omega) (by omega) (fun L k q ne => ⟨rfl, nq _ _ (itn_ne q).1 (fun y => by have := (itn_ne q).2.2.2.2.2.2.1; omega) (fun y => by
          rcases hcs with p | p
          · exact ne (y.1.trans p.2.1)
          · exact (itn_nq q).2.1 (y.1.trans p.2.2.1))⟩) (fun k i q ne => m7M _ _ (itm_ne q).1 (itm_ne q).2.1 (itm_ne q).2.2.1 (fun y => by
          rcases hcs with p | p
          · exact ne (y.1.trans p.2.2.1)
          · have := (itm_ne q).2.2.2.2.2.2.1
            omega) (fun y => (itm_ne q).2.2.2.1 (by omega)) (fun y => (itm_ne q).2.2.2.1 (by omega))) ebod
        have mc : ∀ k, 13 ≤ k → k ≤ 18 → M7 k (12 * b + e) = M k (12 * b + e) := fun k k1 k2 => m7M _ _ (by omega) (by omega) (by omega) (by omega) (by omega) (by omega)
        refine hok V7 M7 gm5 (owU ow ln l5 (-1)) (owU eo ln (l5 + 1) e) (j5 + 1) (l5 + 1) (h.nx fn7 fm7 GA (by omega) (by omega) (fun p q => owU_lt q) ls7 (hb3.fr (fun _ _ => rfl) (fun k => n7 _ _ (by omega) (by omega) (by omega)) (fun k => n7 _ _ (by omega) (by omega) (by omega)) (n7 _ _ (by omega) (by omega) (by omega)) (fun k _ => n7 _ _ (by omega) (by omega) (by omega)) (fun i _ _ => ⟨rfl, n7 _ _ (by omega) (by omega) (by omega)⟩) (m72 _ _ (by omega) (by omega) (by omega) (by omega)) (m72 _ _ (by omega) (by omega) (by omega) (by omega)) (fun i _ _ => m72 _ _ (by omega) (by omega) (by omega) (by omega)) (fun i => m72 _ _ (by omega) (by omega) (by omega) (by omega))) ?_ ⟨(mc 14 (by decide) (by decide)).trans q14, (mc 15 (by decide) (by decide)).trans q15, (mc 16 (by decide) (by decide)).trans q16, (mc 17 (by decide) (by decide)).trans q17, (mc 18 (by decide) (by decide)).trans q18⟩ ei7 ?_) (gf.cu e0 e1 l0 BX fn7 fm7) (by omega) bod7 GA (by omega) (by omega) (fun L k q0 q1 q2 => nq L k q0 q1 (by omega)) (fun k q => nq _ _ (by omega) (by omega) (by omega)) (fun k i q => m7M _ _ (by omega) (by omega) (by omega) (by omega) (by omega) (by omega)) (by rw [n7 _ _ (by omega) (by omega) (by omega), n3a]; exact l0) (fun a' p0 ne => nq _ _ (by omega) (by omega) (by omega)) (m72 _ _ (by omega) (by omega) (by omega) (by omega)) run7
        · refine hE.gen (fun _ _ => rfl) (fun L k q1 q2 q3 => nq L k (by unfold hdL at q1; omega) (by unfold hdL at q1; omega) (by unfold hdL at q1; omega)) (mc 13 (by decide) (by decide)) (fun i => m7M _ _ (by omega) (by omega) (by omega) (by omega) (by omega) (by omega)) ?_ ?_ ?_ ?_ ?_ ?_ ?_ ?_
          · rw [nq _ _ (by omega) (by omega) (by omega), mc 14 (by decide) (by decide)]; exact ⟨hE.nc, hE.nc0, hE.nc1⟩
          · rw [nq _ _ (by omega) (by omega) (by omega), mc 15 (by decide) (by decide)]; exact ⟨hE.nt, hE.nt0, hE.nt1⟩
          · rw [nq _ _ (by omega) (by omega) (by omega), mc 16 (by decide) (by decide)]; exact ⟨hE.nk, hE.nk0, hE.nk1⟩
          · rw [nq _ _ (by omega) (by omega) (by omega), mc 17 (by decide) (by decide)]; exact ⟨hE.nh, hE.nh0, hE.nh1⟩
          · rw [nq _ _ (by omega) (by omega) (by omega), mc 18 (by decide) (by decide)]; exact ⟨hE.nw, hE.nw0, hE.nw1⟩
          · intro i i0 i1
            rw [mc 14 (by decide) (by decide)] at i1
            rw [nq _ _ (by omega) (by omega) (by omega), nq _ _ (by omega) (by omega) (by omega)]; exact hE.ci i i0 i1
          · intro i i0 i1
            rw [mc 15 (by decide) (by decide)] at i1
            rw [nq _ _ (by omega) (by omega) (by omega), nq _ _ (by omega) (by omega) (by omega)]; exact hE.ti i i0 i1
          · intro i i0 i1
            rw [mc 18 (by decide) (by decide)] at i1
            rw [nq _ _ (by omega) (by omega) (by omega), nq _ _ (by omega) (by omega) (by omega)]; exact hE.si i i0 i1
        · rw [x740]
          exact wd3.fr G57 ls5.r
      · refine ct_acc0 hc rfl ls5.ts k59 (by omega) (fun V7 hW7 => ⟨fun _ => ?_, fun y => absurd rfl y⟩)
        have g6 : mFt M5 (if K j5 = 0 then 1 else 2) (P j5) 0 41 = 12 * b + e := (mFt_ne (by omega)).trans ls5.g41
        have u46 : up (mFt M5 (if K j5 = 0 then 1 else 2) (P j5)) kb (bs + a) x 0 46 = mFt M5 (if K j5 = 0 then 1 else 2) (P j5) 0 46 := up_ne' (by omega)
        have u47 : up (mFt M5 (if K j5 = 0 then 1 else 2) (P j5)) kb (bs + a) x 0 47 = mFt M5 (if K j5 = 0 then 1 else 2) (P j5) 0 47 := up_ne' (by omega)
        exact hbad V7 (up (mFt M5 (if K j5 = 0 then 1 else 2) (P j5)) kb (bs + a) x) ((gf.cu e0 e1 l0 BX fnn fm6).tr (fun _ _ => rfl) (fun L k q => by rw [hW7]; exact gf_nft q) (fun k i q => (gfup _ _ k i q).trans (gf_mft q))) ⟨by rw [u46, mFt_46]; exact ftp (by decide), by rw [u46, hW7, nFt_10, mFt_46], by rw [u47, hW7, nFt_11, mFt_47]; exact ⟨rfl, ls5.ts.pb⟩⟩ (fun Qr hq => pre4 Qr (ls5.ts.sn0 ls5.w (by decide) k59 (by omega) _ (lst x _ Qr g6 hq)))
    · obtain ⟨x1, x2, x3, x4, x5⟩ := yf'
      rw [x40, x51] at x2
      have g5 : M5 0 41 = 12 * b + e := (x2 _ _ (by omega) (by omega) (by omega)).trans ((m4 _ _ (by omega)).trans g2)
      have u46 : up M5 kb (bs + a) z 0 46 = M5 0 46 := up_ne' (by omega)
      have u47 : up M5 kb (bs + a) z 0 47 = M5 0 47 := up_ne' (by omega)
      exact hbad V5 (up M5 kb (bs + a) z) ((gf.cu e0 e1 l0 BX (fn4.tr (fCn.x x1) (Int.le_refl _)) (fm4.tr (fCm.y x2) (Int.le_refl _) (Int.le_refl _))).tr (fun _ _ => rfl) (fun _ _ _ => rfl) (fun k i q => gfup _ _ k i q)) ⟨by rw [u46]; exact x3, by rw [u46]; exact x4, by rw [u47]; exact x5⟩ (fun Qr hq => pre3 Qr (r224 M4 Qr (run _ (sn_w x3 (by omega) _ (lst z M5 Qr g5 hq)))))
  · refine ct_acc0 hc hW3 ts3 k61 (by omega) (fun V4 hW4 => ⟨fun _ => ?_, fun y => absurd rfl y⟩)
    have wp : 0 < mFt M2 (if K j2 = 0 then 1 else 2) (P j2) 0 46 := by rw [mFt_46]; exact ftp (by decide)
    have g6 : mFt M2 (if K j2 = 0 then 1 else 2) (P j2) 0 41 = 12 * b + e := (mFt_ne (by omega)).trans g2
    have u46 : up (mFt M2 (if K j2 = 0 then 1 else 2) (P j2)) kb (bs + a) (-1) 0 46 = mFt M2 (if K j2 = 0 then 1 else 2) (P j2) 0 46 := up_ne' (by omega)
    have u47 : up (mFt M2 (if K j2 = 0 then 1 else 2) (P j2)) kb (bs + a) (-1) 0 47 = mFt M2 (if K j2 = 0 then 1 else 2) (P j2) 0 47 := up_ne' (by omega)
    exact hbad V4 (up (mFt M2 (if K j2 = 0 then 1 else 2) (P j2)) kb (bs + a) (-1)) ((gf.cu e0 e1 l0 BX fn3 fm2).tr (fun _ _ => rfl) (fun L k q => by rw [hW4]; exact gf_nft q) (fun k i q => (gfup _ _ k i q).trans (gf_mft q))) ⟨by rw [u46]; exact wp, by rw [u46, hW4, nFt_10, mFt_46], by rw [u47, hW4, nFt_11, mFt_47]; exact ⟨rfl, ts3.pb⟩⟩ (fun Qr hq => ref Qr (ts3.sn0 w2 (by decide) k61 (by omega) _ (r224 _ Qr (rn_xw wp (by omega) _ (sn_w wp (by omega) _ (lst (-1) _ Qr g6 hq))))))
end ACX
