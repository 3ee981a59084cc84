/-! ===== book: names linked: one reference settled ===== -/
def NLK (N0 M0 gm : Mem) (eo K W : Int → Int) (b p : Int) (M : Mem) (x : Int) : Prop := (M0 35 x ≠ 10 → M 35 x = M0 35 x) ∧ (M0 35 x ≠ 10 → M0 35 x ≠ 12 → M 36 x = M0 36 x) ∧ (M0 35 x = 10 → p ≤ gm 1 x → M 35 x = 10) ∧ (M0 35 x = 10 → gm 1 x < p → (0 ≤ lcn N0 M0 eo K W b (gm 1 x) → M 35 x = 10 ∧ M 36 x = 24 * (12 * b + own N0 M0 eo K W b (gm 1 x)) + lcn N0 M0 eo K W b (gm 1 x)) ∧ (lcn N0 M0 eo K W b (gm 1 x) < 0 → M 35 x = 11 ∧ M 36 x = 4 * (12 * b + own N0 M0 eo K W b (gm 1 x)) + lho N0 M0 eo K W b (gm 1 x))) ∧ (M0 35 x = 12 → gm 1 x < p → M 36 x = 4 * (12 * b + own N0 M0 eo K W b (gm 1 x)) + ltb N0 M0 eo K W b (gm 1 x))
/-- the reference's side: all references ahead of step p are settled -/
def LMP (N0 M0 gm : Mem) (eo cs K W : Int → Int) (b B p : Int) (M : Mem) : Prop := (∀ k i, ¬ ((k = 35 ∨ k = 36) ∧ B ≤ i ∧ i < M0 0 40) → ¬ (k = 32 ∧ 432 * b ≤ i ∧ i < 432 * b + 432) → M k i = M0 k i) ∧ (∀ x, B ≤ x → x < M0 0 40 → NLK N0 M0 gm eo K W b p M x) ∧ (∀ q, 0 ≤ q → q < p → N0 121 q = 14 → M 32 (cs q) = lcn N0 M0 eo K W b q)
section LKR
variable {c : Int → Int} {N0 M0 M gm : Mem} {ow eo cs K P W E : Int → Int} {nt b B j ln ne p x : Int} {e : Nat}
theorem PE.ens {X e' : Int} (h : PE c N0 M0 gm ow eo K P W E nt b B X ln e') : ENs N0 M0 (12 * b + e') := by
  obtain ⟨h1, h2, h3, ⟨i1, i2, i3, i4, i5, i6⟩, h5⟩ := h
  exact ⟨fun i i0 i1' => (i1 i i0 i1').2.1.1, fun i i0 i1' => (i2 i i0 i1').2.1, fun i i0 i1' => (i4 i i0 i1').1, fun i i0 i1' => (i5 i i0 i1').2.1⟩
theorem ENs.m {g : Int} (h : ENs N0 M0 g) (m7 : ∀ i, M 7 i = M0 7 i) (m : ∀ k i, k = 14 ∨ k = 15 ∨ k = 17 ∨ k = 18 ∨ k = 20 ∨ k = 23 ∨ k = 27 ∨ k = 29 → M k i = M0 k i) : ENs N0 M g := by
  unfold ENs
  rw [m 14 g (by decide), m 15 g (by decide), m 17 g (by decide), m 18 g (by decide)]
  exact ⟨fun i i0 i1 => by rw [m 20 _ (by decide)]; exact (h.1 i i0 i1).m7 m7, fun i i0 i1 => by rw [m 23 _ (by decide)]; exact (h.2.1 i i0 i1).m7 m7, fun i i0 i1 => by rw [m 27 _ (by decide)]; exact (h.2.2.1 i i0 i1).m7 m7, fun i i0 i1 => by rw [m 29 _ (by decide)]; exact (h.2.2.2 i i0 i1).m7 m7⟩
theorem BKI.nm (h : BKI c N0 M0 gm ow eo cs K P W E nt b B j ln ne) {t : Int} (t0 : 0 ≤ t) (t1 : t < nt) (k3 : K t = 3) : NR M0 (W t) (nmv P E b t) ∧ nmv P E b t / 16 = 3000 * b + P t ∧ 0 ≤ P t ∧ P t ≤ 3000 := by
  obtain ⟨h1, h2, h3, h4, tx, hb, pe, wd, ss, ⟨e0, e1, b0, b1, B0, B1⟩⟩ := h
  exact h1.nrt b0 b1 tx t0 t1 k3
set_option maxHeartbeats 2000000 in
theorem lk_nod (h : BKI c N0 M0 gm ow eo cs K P W E nt b B j ln ne) (hm : LMP N0 M0 gm eo cs K W b B p M) (p0 : 0 ≤ p) (p1 : p < ln) (l3 : ln ≤ 3000) (e0 : 0 ≤ eo p) (e1 : eo p < ne) (x0 : B ≤ x) (x1 : x < M0 0 40) (gx : gm 1 x = p) (o14 : N0 121 p ≠ 14) (rf : RFn N0 M0 K P E nt b p x) (m39 : M0 39 x = 12 * b + eo p) (he : 4 ≤ e) (Qr : Int → Mem → Prop)
    (hq0 : own N0 M0 eo K W b p < 0 → Qr 0 (mFt M 4 (P (N0 122 p))))
    (hn : 0 ≤ own N0 M0 eo K W b p → M 35 x ≠ 12 → (0 ≤ lcn N0 M0 eo K W b p → Qr 0 (up (up M 35 x 10) 36 x (24 * (12 * b + own N0 M0 eo K W b p) + lcn N0 M0 eo K W b p))) ∧ (lcn N0 M0 eo K W b p < 0 → 0 ≤ lho N0 M0 eo K W b p → Qr 0 (up (up M 35 x 11) 36 x (4 * (12 * b + own N0 M0 eo K W b p) + lho N0 M0 eo K W b p))) ∧ (lcn N0 M0 eo K W b p < 0 → lho N0 M0 eo K W b p < 0 → Qr 0 (mFt M 4 (P (tkn N0 K p)))))
    (ht : 0 ≤ own N0 M0 eo K W b p → M 35 x = 12 → (0 ≤ ltb N0 M0 eo K W b p → Qr 0 (up M 36 x (4 * (12 * b + own N0 M0 eo K W b p) + ltb N0 M0 eo K W b p))) ∧ (ltb N0 M0 eo K W b p < 0 → Qr 0 (mFt M 4 (P (tkn N0 K p))))) : PM (e + 1) n_settle_0 [rcn (N0 121) p.toNat] M Qr := by
  have hnm : ∀ {t : Int}, 0 ≤ t → t < nt → K t = 3 → NR M0 (W t) (nmv P E b t) ∧ nmv P E b t / 16 = 3000 * b + P t ∧ 0 ≤ P t ∧ P t ≤ 3000 := fun {t} => h.nm (P := P)
  obtain ⟨ts, ⟨lv, hr⟩, ⟨l0, lj, a0, a1⟩, ⟨w0, f0, b9⟩, tx, ⟨hB, h10⟩, pe, wd, ss, ⟨ne0, ne12, b0, b1, B0, B1⟩⟩ := h
  obtain ⟨mf, mn, mc⟩ := hm
  have j1 := ts.j1
  have ntb := ts.ntb
  have mk : ∀ k i, k ≠ 35 → k ≠ 36 → k ≠ 32 → M k i = M0 k i := fun k i q1 q2 q3 => mf k i (by omega) (by omega)
  have m7 : ∀ i, M 7 i = M0 7 i := fun i => mk _ _ (by decide) (by decide) (by decide)
  have r0 := rcn_0 (f := N0 121) p.toNat
  have r1 := rcn_n (f := N0 121) p.toNat
  obtain ⟨f48, t0, t1, k3, fcs⟩ := rf
  have y48 : M 48 (rcn (N0 121) p.toNat) = x := (mk _ _ (by decide) (by decide) (by decide)).trans f48
  have y39 : M 39 x = 12 * b + eo p := (mk _ _ (by decide) (by decide) (by decide)).trans m39
  have h9 : M 0 9 = b := (mk _ _ (by decide) (by decide) (by decide)).trans b9
  have go : ∀ (o u : Int), 0 ≤ o → o < ne → own N0 M0 eo K W b p = o → tkn N0 K p = u → 0 ≤ u → u < nt → K u = 3 → M0 50 (rcn (N0 121) p.toNat) = nmv P E b u → PM (e + 1) n_settle_79 [rcn (N0 121) p.toNat, x, 12 * b + eo p, 12 * b + o] M Qr := by
    intro o u o0 o1 ow tk u0 u1 ku f50
    obtain ⟨nr, nq, pp0, pp1⟩ := hnm u0 u1 ku
    have P1 := pe o o0 o1
    have hE := P1.1
    have q14 : M 14 (12 * b + o) = M0 14 (12 * b + o) := mk _ _ (by decide) (by decide) (by decide)
    have q15 : M 15 (12 * b + o) = M0 15 (12 * b + o) := mk _ _ (by decide) (by decide) (by decide)
    have q17 : M 17 (12 * b + o) = M0 17 (12 * b + o) := mk _ _ (by decide) (by decide) (by decide)
    have hl : lcn N0 M0 eo K W b p = fdx (cnm N0 (12 * b + o)) (W u) (M 14 (12 * b + o)).toNat 0 := by unfold lcn; rw [ow, tk, q14]
    have hh : lho N0 M0 eo K W b p = fdx (N0 (128 * (12 * b + o) + 13)) (W u) (M 17 (12 * b + o)).toNat 0 := by unfold lho; rw [ow, tk, q17]
    have ht' : ltb N0 M0 eo K W b p = fdx (tnm N0 (12 * b + o)) (W u) (M 15 (12 * b + o)).toNat 0 := by unfold ltb; rw [ow, tk, q15]
    have ge : 0 ≤ own N0 M0 eo K W b p := by rw [ow]; exact o0
    have hn' := hn ge
    have ht'' := ht ge
    rw [ow, hl, hh, tk] at hn'
    rw [ow, ht', tk] at ht''
    exact s79 (N := N0) (W := W) h9 b0 b1 (by omega) (by omega) r0 (by omega) ((mk _ _ (by decide) (by decide) (by decide)).trans f50) (nr.m7 m7) nq pp0 pp1 (by rw [q14]; exact ⟨hE.nc0, hE.nc1⟩) (by rw [q15]; exact ⟨hE.nt0, hE.nt1⟩) (by rw [q17]; exact ⟨hE.nh0, hE.nh1⟩) (P1.ens.m m7 (fun k i q => mk _ _ (by omega) (by omega) (by omega))) he (by omega) (by omega) y39 hn' ht''
  rcases fcs with ⟨k46, f49, f50⟩ | ⟨k46, t2, k32, f49, f50⟩
  · have ow : own N0 M0 eo K W b p = eo p := by unfold own; rw [if_neg (fun y => k46 y.2)]
    have tk : tkn N0 K p = N0 122 p := by unfold tkn; rw [if_neg (fun y => k46 y.2)]
    exact set_A r0 (by omega) y48 (by omega) (by omega) y39 ((mk _ _ (by decide) (by decide) (by decide)).trans f49) (go (eo p) _ e0 e1 ow tk t0 (by omega) k3 f50)
  · have ow : own N0 M0 eo K W b p = fdx (enm N0 b) (W (N0 122 p)) (M0 10 b).toNat 0 := by unfold own; rw [if_pos ⟨o14, k46⟩]
    have tk : tkn N0 K p = N0 122 p + 2 := by unfold tkn; rw [if_pos ⟨o14, k46⟩]
    obtain ⟨nr, nq, pp0, pp1⟩ := hnm t0 (by omega) k3
    have q10 : M 10 b = M0 10 b := mk _ _ (by decide) (by decide) (by decide)
    have fr := fdx_rng (f := enm N0 b) (v := W (N0 122 p)) (M0 10 b).toNat 0 (Int.le_refl _)
    have en := rn_enumOf (e := e) (M := M) (f := enm N0 b) h9 b0 b1 (by omega) (fun i i0 i1 => (by rw [mk 13 _ (by decide) (by decide) (by decide)]; exact (pe i i0 (by omega)).1.nm.m7 m7 : NR M (enm N0 b i) (M 13 (12 * b + i)))) (nr.m7 m7) (by omega)
    rw [q10, ← ow] at en
    rw [← ow] at fr
    exact set_B h9 b0 b1 r0 (by omega) y48 (by omega) (by omega) y39 ((mk _ _ (by decide) (by decide) (by decide)).trans f49) nr.1 en (by omega) (by omega) nq pp0 pp1 (by omega) (fun q => hq0 (by omega)) (fun q => go _ _ q (by omega) rfl tk (by omega) t2 k32 f50)
/-- the nodes other than x stand -/
theorem NLK.oth {M' : Mem} {y : Int} (h : NLK N0 M0 gm eo K W b p M y) (n35 : M' 35 y = M 35 y) (n36 : M' 36 y = M 36 y) (nx : M0 35 y = 10 ∨ M0 35 y = 12 → gm 1 y ≠ p) : NLK N0 M0 gm eo K W b (p + 1) M' y := by
  obtain ⟨h1, h2, h3, h4, h5⟩ := h
  unfold NLK
  rw [n35, n36]
  exact ⟨h1, h2, fun q1 q2 => h3 q1 (by omega), fun q1 q2 => h4 q1 (by have := nx (Or.inl q1); omega), fun q1 q2 => h5 q1 (by have := nx (Or.inr q1); omega)⟩
/-- a step's reference: which node -/
theorem BKI.ndx (h : BKI c N0 M0 gm ow eo cs K P W E nt b B j ln ne) (p0 : 0 ≤ p) (p1 : p < ln) (o : N0 121 p = 11 ∨ N0 121 p = 12) : ∃ x, B ≤ x ∧ x < M0 0 40 ∧ gm 1 x = p ∧ ((N0 121 p = 11 ∧ M0 35 x = 10) ∨ (N0 121 p = 12 ∧ M0 35 x = 12)) ∧ RFn N0 M0 K P E nt b p x ∧ M0 39 x = 12 * b + eo p ∧ (∀ y, B ≤ y → y < M0 0 40 → M0 35 y = 10 ∨ M0 35 y = 12 → gm 1 y = p → y = x) := by
  obtain ⟨ts, ⟨lv, hr⟩, ⟨l0, lj, a0, a1⟩, ⟨w0, f0, b9⟩, tx, ⟨hB, h10⟩, pe, wd, ss, ⟨ne0, ne12, b0, b1, B0, B1⟩⟩ := h
  have rfx : ∀ y, B ≤ y → y < M0 0 40 → M0 35 y = 10 ∨ M0 35 y = 12 → RFn N0 M0 K P E nt b (gm 1 y) y ∧ (M0 35 y = 10 → N0 121 (gm 1 y) = 11) ∧ (M0 35 y = 12 → N0 121 (gm 1 y) = 12) ∧ M0 39 y = 12 * b + eo (gm 1 y) := fun y y0 y1 k => by
    obtain ⟨n1, n2, n3, n4⟩ := wd.1 y y0 y1
    have pk := n1.2.2.2.2
    have lt := n1.1
    refine ⟨?_, ?_, ?_, n3 _ (Int.le_refl _) (by omega)⟩
    · rcases pk with q | q | q | q | q | q | q | q | q
      all_goals first | exact q.2.2.2 | exact q.2.2.2.2.2.2.2.2.2 | (exfalso; omega)
    · intro k'
      unfold PCk at pk
      omega
    · intro k'
      unfold PCk at pk
      omega
  have cv : ∃ x, B ≤ x ∧ x < M0 0 40 ∧ gm 1 x = p ∧ ((N0 121 p = 11 ∧ M0 35 x = 10) ∨ (N0 121 p = 12 ∧ M0 35 x = 12)) := by
    rcases wd.2.1 p p0 p1 with q | q | q
    · omega
    · rcases o with o | o
      · obtain ⟨x, q1, q2, q3, q4⟩ := q.2.2.1 o
        exact ⟨x, q1, q2, q3, Or.inl ⟨o, q4⟩⟩
      · obtain ⟨x, q1, q2, q3, q4⟩ := q.2.2.2.1 o
        exact ⟨x, q1, q2, q3, Or.inr ⟨o, q4⟩⟩
    · have := q.1; omega
  obtain ⟨x, x0, x1, gx, ox⟩ := cv
  have rx := rfx x x0 x1 (by omega)
  rw [gx] at rx
  refine ⟨x, x0, x1, gx, ox, rx.1, rx.2.2.2, fun y y0 y1 k gy => ?_⟩
  have ry := rfx y y0 y1 k
  rw [gy] at ry
  have e1 := rx.1.1
  have e2 := ry.1.1
  omega
set_option maxHeartbeats 2000000 in
/-- one reference settled, or its fault -/
theorem lk_ref (h : BKI c N0 M0 gm ow eo cs K P W E nt b B j ln ne) (hm : LMP N0 M0 gm eo cs K W b B p M) (p0 : 0 ≤ p) (p1 : p < ln) (l3 : ln ≤ 3000) (e0 : 0 ≤ eo p) (e1 : eo p < ne) (o : N0 121 p = 11 ∨ N0 121 p = 12 ∨ N0 121 p = 14) (he : 4 ≤ e) : (OKs N0 M0 eo K W b p → ∃ M', RunM (e + 1) n_settle_0 [rcn (N0 121) p.toNat] M 0 M' ∧ LMP N0 M0 gm eo cs K W b B (p + 1) M') ∧ (¬ OKs N0 M0 eo K W b p → RunM (e + 1) n_settle_0 [rcn (N0 121) p.toNat] M 0 (mFt M 4 (P (btk N0 M0 eo K W b p)))) := by
  obtain ⟨mf, mn, mc⟩ := id hm
  have mk : ∀ k i, k ≠ 35 → k ≠ 36 → k ≠ 32 → M k i = M0 k i := fun k i q1 q2 q3 => mf k i (by omega) (by omega)
  by_cases o14 : N0 121 p = 14
  · have hnm : ∀ {t : Int}, 0 ≤ t → t < nt → K t = 3 → NR M0 (W t) (nmv P E b t) ∧ nmv P E b t / 16 = 3000 * b + P t ∧ 0 ≤ P t ∧ P t ≤ 3000 := fun {t} => h.nm (P := P)
    obtain ⟨ts, ⟨lv, hr⟩, ⟨l0, lj, a0, a1⟩, ⟨w0, f0, b9⟩, tx, ⟨hB, h10⟩, pe, wd, ss, ⟨ne0, ne12, b0, b1, B0, B1⟩⟩ := h
    have ow : own N0 M0 eo K W b p = eo p := by unfold own; rw [if_neg (fun y => y.1 o14)]
    have tk : tkn N0 K p = N0 122 p := by unfold tkn; rw [if_neg (fun y => y.1 o14)]
    have bt : btk N0 M0 eo K W b p = N0 122 p := by unfold btk; rw [ow, if_neg (by omega), tk]
    have r0 := rcn_0 (f := N0 121) p.toNat
    have r1 := rcn_n (f := N0 121) p.toNat
    have m7 : ∀ i, M 7 i = M0 7 i := fun i => mk _ _ (by decide) (by decide) (by decide)
    have cst : CST N0 M0 eo cs K P E nt b p := by
      rcases wd.2.1 p p0 p1 with q | q | q
      · omega
      · have := q.1; omega
      · exact q
    obtain ⟨-, ⟨f48, f49, f50⟩, ⟨t0, t1, k3⟩, ⟨c0, c1⟩⟩ := cst
    obtain ⟨nr, nq, pp0, pp1⟩ := hnm t0 t1 k3
    have P1 := pe (eo p) e0 e1
    have hE := P1.1
    have q14 : M 14 (12 * b + eo p) = M0 14 (12 * b + eo p) := mk _ _ (by decide) (by decide) (by decide)
    have hl : lcn N0 M0 eo K W b p = fdx (cnm N0 (12 * b + eo p)) (W (N0 122 p)) (M 14 (12 * b + eo p)).toNat 0 := by unfold lcn; rw [ow, tk, q14]
    have run : ∀ Qr : Int → Mem → Prop, (0 ≤ lcn N0 M0 eo K W b p → Qr 0 (up M 32 (cs p) (lcn N0 M0 eo K W b p))) → (lcn N0 M0 eo K W b p < 0 → Qr 0 (mFt M 4 (P (N0 122 p)))) → PM (e + 1) n_settle_0 [rcn (N0 121) p.toNat] M Qr := fun Qr hq1 hq0 => by
      rw [hl] at hq1 hq0
      exact set_C (N := N0) (W := W) ((mk _ _ (by decide) (by decide) (by decide)).trans b9) b0 b1 r0 (by omega) ((mk _ _ (by decide) (by decide) (by decide)).trans f48) ((mk _ _ (by decide) (by decide) (by decide)).trans f49) (by omega) (by omega) c0 c1 ((mk _ _ (by decide) (by decide) (by decide)).trans f50) (nr.m7 m7) nq pp0 pp1 (by rw [q14]; exact ⟨hE.nc0, hE.nc1⟩) (P1.ens.m m7 (fun k i q => mk _ _ (by omega) (by omega) (by omega))) he hq1 hq0
    refine ⟨fun ok => ⟨up M 32 (cs p) (lcn N0 M0 eo K W b p), fun Qr hq => run Qr (fun _ => hq) (fun y => absurd (ok.2.2 o14) (by omega)), ?_, ?_, ?_⟩, fun ok => ?_⟩
    · intro k i q1 q2
      rw [up_ne' (by omega)]
      exact mf k i q1 q2
    · intro y y0 y1
      refine (mn y y0 y1).oth (up_ne' (by omega)) (up_ne' (by omega)) (fun q gy => ?_)
      have pk := (wd.1 y y0 y1).1.2.2.2.2
      unfold PCk at pk
      rw [gy] at pk
      omega
    · intro q q0 q1 oq
      by_cases y : q = p
      · rw [y, up_eq]
      · have := wd.2.2.1 q p q0 (by omega) p1 oq o14
        rw [up_ne' (by omega)]
        exact mc q q0 (by omega) oq
    · rw [bt]
      refine fun Qr hq => run Qr (fun y => absurd ⟨fun z => absurd z (by omega), fun z => absurd z (by omega), fun _ => y⟩ ok) (fun _ => hq)
  · have o' : N0 121 p = 11 ∨ N0 121 p = 12 := by omega
    obtain ⟨x, x0, x1, gx, ox, rf, m39, uq⟩ := h.ndx p0 p1 o'
    have nx := mn x x0 x1
    have run := lk_nod h hm p0 p1 l3 e0 e1 x0 x1 gx o14 rf m39 he
    have c10 : M0 35 x = 10 → M 35 x = 10 := fun q => nx.2.2.1 q (by omega)
    have c12 : M0 35 x = 12 → M 35 x = 12 := fun q => (nx.1 (by omega)).trans q
    have upd : ∀ M' : Mem, (∀ k i, ¬ ((k = 35 ∨ k = 36) ∧ i = x) → M' k i = M k i) → NLK N0 M0 gm eo K W b (p + 1) M' x → LMP N0 M0 gm eo cs K W b B (p + 1) M' := fun M' fm nl => by
      refine ⟨fun k i q1 q2 => (fm k i (by omega)).trans (mf k i q1 q2), fun y y0 y1 => ?_, fun q q0 q1 oq => ?_⟩
      · by_cases z : y = x
        · rw [z]; exact nl
        · exact (mn y y0 y1).oth (fm _ _ (by omega)) (fm _ _ (by omega)) (fun k gy => z (uq y y0 y1 k gy))
      · have : q ≠ p := fun z => o14 (z ▸ oq)
        rw [fm _ _ (by omega)]
        exact mc q q0 (by omega) oq
    refine ⟨fun ok => ?_, fun ok => ?_⟩
    · obtain ⟨k1, k2, k3⟩ := ok
      rcases ox with ⟨o11, m35⟩ | ⟨o12, m35⟩
      · obtain ⟨w0, w1⟩ := k1 o11
        by_cases lc : 0 ≤ lcn N0 M0 eo K W b p
        · refine ⟨up (up M 35 x 10) 36 x (24 * (12 * b + own N0 M0 eo K W b p) + lcn N0 M0 eo K W b p), fun Qr hq => run Qr (fun y => absurd w0 (by omega)) (fun _ _ => ⟨fun _ => hq, fun y => absurd lc (by omega), fun y => absurd lc (by omega)⟩) (fun _ y => absurd (c10 m35) (by omega)), upd _ (fun k i q => by rw [up_ne' (by omega), up_ne' (by omega)]) ?_⟩
          have u35 : up (up M 35 x 10) 36 x (24 * (12 * b + own N0 M0 eo K W b p) + lcn N0 M0 eo K W b p) 35 x = 10 := by rw [up_ne' (by omega), up_eq]
          have u36 : up (up M 35 x 10) 36 x (24 * (12 * b + own N0 M0 eo K W b p) + lcn N0 M0 eo K W b p) 36 x = 24 * (12 * b + own N0 M0 eo K W b p) + lcn N0 M0 eo K W b p := up_eq
          unfold NLK
          rw [u35, u36, gx]
          exact ⟨fun y => absurd m35 y, fun y => absurd m35 y, fun _ _ => rfl, fun _ _ => ⟨fun _ => ⟨rfl, rfl⟩, fun y => absurd lc (by omega)⟩, fun y => by omega⟩
        · have lh : 0 ≤ lho N0 M0 eo K W b p := by omega
          refine ⟨up (up M 35 x 11) 36 x (4 * (12 * b + own N0 M0 eo K W b p) + lho N0 M0 eo K W b p), fun Qr hq => run Qr (fun y => absurd w0 (by omega)) (fun _ _ => ⟨fun y => absurd y lc, fun _ _ => hq, fun _ y => absurd lh (by omega)⟩) (fun _ y => absurd (c10 m35) (by omega)), upd _ (fun k i q => by rw [up_ne' (by omega), up_ne' (by omega)]) ?_⟩
          have u35 : up (up M 35 x 11) 36 x (4 * (12 * b + own N0 M0 eo K W b p) + lho N0 M0 eo K W b p) 35 x = 11 := by rw [up_ne' (by omega), up_eq]
          have u36 : up (up M 35 x 11) 36 x (4 * (12 * b + own N0 M0 eo K W b p) + lho N0 M0 eo K W b p) 36 x = 4 * (12 * b + own N0 M0 eo K W b p) + lho N0 M0 eo K W b p := up_eq
          unfold NLK
          rw [u35, u36, gx]
          exact ⟨fun y => absurd m35 y, fun y => absurd m35 y, fun _ y => by omega, fun _ _ => ⟨fun y => absurd y lc, fun _ => ⟨rfl, rfl⟩⟩, fun y => by omega⟩
      · obtain ⟨w0, w1⟩ := k2 (Or.inl o12)
        refine ⟨up M 36 x (4 * (12 * b + own N0 M0 eo K W b p) + ltb N0 M0 eo K W b p), fun Qr hq => run Qr (fun y => absurd w0 (by omega)) (fun _ y => absurd (c12 m35) y) (fun _ _ => ⟨fun _ => hq, fun y => absurd w1 (by omega)⟩), upd _ (fun k i q => up_ne' (by omega)) ?_⟩
        have u35 : up M 36 x (4 * (12 * b + own N0 M0 eo K W b p) + ltb N0 M0 eo K W b p) 35 x = 12 := by rw [up_ne' (by omega)]; exact c12 m35
        have u36 : up M 36 x (4 * (12 * b + own N0 M0 eo K W b p) + ltb N0 M0 eo K W b p) 36 x = 4 * (12 * b + own N0 M0 eo K W b p) + ltb N0 M0 eo K W b p := up_eq
        unfold NLK
        rw [u35, u36, gx]
        exact ⟨fun _ => m35.symm, fun _ y => absurd m35 y, fun y => by omega, fun y => by omega, fun _ _ => rfl⟩
    · intro Qr hq
      have bt0 : own N0 M0 eo K W b p < 0 → btk N0 M0 eo K W b p = N0 122 p := fun y => by unfold btk; rw [if_pos y]
      have bt1 : 0 ≤ own N0 M0 eo K W b p → btk N0 M0 eo K W b p = tkn N0 K p := fun y => by unfold btk; rw [if_neg (by omega)]
      refine run Qr (fun y => ?_) (fun w0 m12 => ⟨fun y => ?_, fun y z => ?_, fun y z => ?_⟩) (fun w0 m12 => ⟨fun y => ?_, fun y => ?_⟩)
      · rw [← bt0 y]; exact hq
      · refine absurd ⟨fun _ => ⟨w0, Or.inl y⟩, fun z => ?_, fun z => absurd z o14⟩ ok
        have : N0 121 p = 12 := by omega
        rcases ox with q | q
        · omega
        · exact absurd (c12 q.2) m12
      · refine absurd ⟨fun _ => ⟨w0, Or.inr z⟩, fun u => ?_, fun u => absurd u o14⟩ ok
        have : N0 121 p = 12 := by omega
        rcases ox with q | q
        · omega
        · exact absurd (c12 q.2) m12
      · rw [← bt1 w0]; exact hq
      · refine absurd ⟨fun z => ?_, fun _ => ⟨w0, y⟩, fun z => absurd z o14⟩ ok
        rcases ox with q | q
        · have := c10 q.2; omega
        · omega
      · rw [← bt1 w0]; exact hq
end LKR
