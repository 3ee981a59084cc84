/-! ===== book: names linked: the reference ===== -/
theorem up_self {M : Mem} {k i : Int} : up M k i (M k i) = M := by
  funext a j
  by_cases h : a = k ∧ j = i
  · rw [h.1, h.2, up_eq]
  · exact up_ne' h
section TKA
variable {c : Int → Int} {N M : Mem} {K P W E : Int → Int} {nt j b t : Int}
def mAt (M : Mem) (k p e w : Int) : Mem := up (up (up (up M 0 3 k) 0 4 p) 0 5 e) 0 6 w
theorem mAt_ne {k p e w a i : Int} (h : ¬ (a = 0 ∧ 3 ≤ i ∧ i ≤ 6)) : mAt M k p e w a i = M a i := by
  unfold mAt
  rw [up_ne' (by omega), up_ne' (by omega), up_ne' (by omega), up_ne' (by omega)]
theorem TS.tok (h : TS c N M K P W E nt j) (t0 : 0 ≤ t) (t1 : t < nt) : TS c (nPs N t (K t) (W t)) (mAt M (rkd (K t)) (P t) (E t) (W t)) K P W E nt t := by
  obtain ⟨h1, ⟨h2, h3, h4⟩, ⟨h5, h6, h7, h8⟩, h9, _, _, _, hw⟩ := h
  have e1 : mAt M (rkd (K t)) (P t) (E t) (W t) 1 = M 1 := funext fun i => mAt_ne (by omega)
  have e2 : mAt M (rkd (K t)) (P t) (E t) (W t) 0 2 = M 0 2 := mAt_ne (by omega)
  refine ⟨h1.rg (fun _ _ => rfl) (fun L k q => nPs_ne (by unfold rdS at q; omega)), ⟨fun i i0 => (nPs_ne (by omega)).trans (h2 i i0), fun i i0 => (nPs_ne (by omega)).trans (h3 i i0), fun i i0 => (nPs_ne (by omega)).trans (h4 i i0)⟩, ⟨(nPs_ne (by omega)).trans h5, ?_, ?_, up_eq⟩, ?_, ⟨?_, ?_, ?_, fun _ => up_eq⟩, t0, t1, ?_⟩
  · unfold nPs; rw [up_ne (by omega), up_ne (by omega), up_eq]
  · unfold nPs; rw [up_ne (by omega), up_eq]
  · rw [e1, e2]; exact h9
  · unfold mAt; rw [up_ne' (by omega), up_ne' (by omega), up_ne' (by omega), up_eq]
  · unfold mAt; rw [up_ne' (by omega), up_ne' (by omega), up_eq]
  · unfold mAt; rw [up_ne' (by omega), up_eq]
  · rw [e1, e2]; exact hw
/-- any name of the text -/
theorem TS.nrt (h : TS c N M K P W E nt j) (b0 : 0 ≤ b) (b1 : b < 10) (tx : ∀ i, 0 ≤ i → i < M 0 2 → M 7 (3000 * b + i) = M 1 i) (t0 : 0 ≤ t) (t1 : t < nt) (k3 : K t = 3) : NR M (W t) (nmv P E b t) ∧ nmv P E b t / 16 = 3000 * b + P t ∧ 0 ≤ P t ∧ P t ≤ 3000 := by
  have h' := h.tok t0 t1
  have nr := h'.nr b0 b1 (fun i i0 i1 => by
    rw [mAt_ne (by omega)] at i1
    rw [mAt_ne (by omega), mAt_ne (by omega)]
    exact tx i i0 i1) (by omega) (by omega)
  have wd := h'.t1.wd (by omega) (by omega)
  have pl := h'.t1.pl
  have l3 := h'.t1.2.1
  refine ⟨nr.1.m7 (fun i => (mAt_ne (by omega)).symm), ?_, by omega, by omega⟩
  unfold nmv
  omega
end TKA
section STL
variable {e : Nat} {M N : Mem} {K P W E : Int → Int} {b r x x3 y0 u o nm p ci : Int} {Qr : Int → Mem → Prop}
theorem rn_lacks (h9 : M 0 9 = b) (b0 : 0 ≤ b) (b1 : b < 10) (q : nm / 16 = 3000 * b + p) (n0 : 0 ≤ nm) (p0 : 0 ≤ p) (p1 : p ≤ 3000) (he : 1 ≤ e) : RunM e n_lacks_0 [nm] M 0 (mFt M 4 p) := by
  obtain ⟨e', rfl⟩ : ∃ e', e = e' + 1 := ⟨e - 1, by omega⟩
  intro Q hq
  refine st_lacks_0 ?_
  unfold B_lacks_0
  rw [h9, Int.tdiv_eq_ediv_of_nonneg n0, q, show 3000 * b + p - 3000 * b = p from by omega]
  exact ⟨by omega, by omega, by omega, by omega, hq⟩
/-- a name looked for in enum y0 -/
theorem s79 (h9 : M 0 9 = b) (b0 : 0 ≤ b) (b1 : b < 10) (g0 : 0 ≤ y0) (g1 : y0 < 120) (r0 : 0 ≤ r) (r1 : r < 3100) (m50 : M 50 r = nmv P E b u) (nr : NR M (W u) (nmv P E b u)) (nq : nmv P E b u / 16 = 3000 * b + P u) (p0 : 0 ≤ P u) (p1 : P u ≤ 3000) (n14 : 0 ≤ M 14 y0 ∧ M 14 y0 ≤ 24) (n15 : 0 ≤ M 15 y0 ∧ M 15 y0 ≤ 4) (n17 : 0 ≤ M 17 y0 ∧ M 17 y0 ≤ 4) (ens : ENs N M y0) (he : 4 ≤ e) (x0 : 0 ≤ x) (x1 : x < 31000) (m39 : M 39 x = x3)
    (hn : M 35 x ≠ 12 → (0 ≤ fdx (cnm N y0) (W u) (M 14 y0).toNat 0 → Qr 0 (up (up M 35 x 10) 36 x (24 * y0 + fdx (cnm N y0) (W u) (M 14 y0).toNat 0))) ∧ (fdx (cnm N y0) (W u) (M 14 y0).toNat 0 < 0 → 0 ≤ fdx (N (128 * y0 + 13)) (W u) (M 17 y0).toNat 0 → Qr 0 (up (up M 35 x 11) 36 x (4 * y0 + fdx (N (128 * y0 + 13)) (W u) (M 17 y0).toNat 0))) ∧ (fdx (cnm N y0) (W u) (M 14 y0).toNat 0 < 0 → fdx (N (128 * y0 + 13)) (W u) (M 17 y0).toNat 0 < 0 → Qr 0 (mFt M 4 (P u))))
    (ht : M 35 x = 12 → (0 ≤ fdx (tnm N y0) (W u) (M 15 y0).toNat 0 → Qr 0 (up M 36 x (4 * y0 + fdx (tnm N y0) (W u) (M 15 y0).toNat 0))) ∧ (fdx (tnm N y0) (W u) (M 15 y0).toNat 0 < 0 → Qr 0 (mFt M 4 (P u)))) : PM (e + 1) n_settle_79 [r, x, x3, y0] M Qr := by
  have fc := fdx_rng (f := cnm N y0) (v := W u) (M 14 y0).toNat 0 (Int.le_refl _)
  have ft := fdx_rng (f := tnm N y0) (v := W u) (M 15 y0).toNat 0 (Int.le_refl _)
  have fh := fdx_rng (f := N (128 * y0 + 13)) (v := W u) (M 17 y0).toNat 0 (Int.le_refl _)
  have lk := rn_lacks (e := e) h9 b0 b1 nq nr.1 p0 p1 (by omega)
  generalize hzc : fdx (cnm N y0) (W u) (M 14 y0).toNat 0 = zc at *
  generalize hzt : fdx (tnm N y0) (W u) (M 15 y0).toNat 0 = zt at *
  generalize hzh : fdx (N (128 * y0 + 13)) (W u) (M 17 y0).toNat 0 = zh at *
  refine st_settle_79 ⟨fun _ => ⟨by omega, by omega, g0, g1, r0, r1, ?_⟩, fun y => absurd (by omega) y⟩
  rw [m50]
  refine rn_among (e := e) (k := 20) (base := 24 * y0) (n := M 14 y0) (f := cnm N y0) (by decide) (by omega) (by rw [show ml 20 = 2880 from by decide]; omega) (by decide) (fun i i0 i1 => ens.1 i i0 i1) nr (by omega) _ ?_
  rw [hzc]
  refine ⟨fun _ => ⟨x0, x1, by omega, by omega, g0, g1, r0, r1, ?_⟩, fun y => absurd x0 y⟩
  rw [m50, ← m39, up_self]
  refine rn_among (e := e) (k := 23) (base := 4 * y0) (n := M 15 y0) (f := tnm N y0) (by decide) (by omega) (by rw [show ml 23 = 480 from by decide]; omega) (by decide) (fun i i0 i1 => ens.2.1 i i0 i1) nr (by omega) _ ?_
  rw [hzt]
  refine ⟨by omega, by omega, g0, g1, r0, r1, ?_⟩
  rw [m50]
  refine rn_among (e := e) (k := 27) (base := 4 * y0) (n := M 17 y0) (f := N (128 * y0 + 13)) (by decide) (by omega) (by rw [show ml 27 = 480 from by decide]; omega) (by decide) (fun i i0 i1 => ens.2.2.1 i i0 i1) nr (by omega) _ ?_
  rw [hzh]
  refine ⟨x0, x1, fun k12 => ⟨fun zc0 => ?_, fun zc0 => ⟨fun zh0 => ?_, fun zh0 => ⟨r0, r1, ?_⟩⟩⟩, fun k12 => ⟨fun zt0 => ?_, fun zt0 => ⟨r0, r1, ?_⟩⟩⟩
  · exact st_settle_266 ⟨x0, x1, fun _ => ⟨fun y => absurd y zc0, fun _ => ⟨fun y => absurd y zc0, fun _ => ⟨by omega, by omega, by omega, by omega, (hn k12).1 (by omega)⟩⟩⟩, fun y => absurd k12 y⟩
  · have zm : zc = -1 := by omega
    exact st_settle_266 ⟨x0, x1, fun _ => ⟨fun _ => ⟨fun _ => ⟨by omega, by omega, by omega, by omega, (hn k12).2.1 (by omega) (by omega)⟩, fun y => absurd zm y⟩, fun y => absurd zm y⟩, fun y => absurd k12 y⟩
  · rw [m50]
    exact lk _ ((hn k12).2.2 (by omega) (by omega))
  · exact st_settle_266 ⟨x0, x1, fun y => absurd y k12, fun _ => ⟨by omega, by omega, by omega, by omega, (ht (by omega)).1 (by omega)⟩⟩
  · rw [m50]
    exact lk _ ((ht (by omega)).2 (by omega))
/-- a reference without a dot -/
theorem set_A (r0 : 0 ≤ r) (r1 : r < 3100) (m48 : M 48 r = x) (x0 : 0 ≤ x) (x1 : x < 31000) (m39 : M 39 x = x3) (m49 : M 49 r = -1) (hq : PM (e + 1) n_settle_79 [r, x, x3, x3] M Qr) : PM (e + 1) n_settle_0 [r] M Qr := by
  refine st_settle_0 ?_
  unfold B_settle_0
  rw [m48, m39, m49]
  exact ⟨r0, r1, fun _ => ⟨x0, x1, fun y => absurd rfl y, fun _ => hq⟩, fun y => absurd x0 y⟩
/-- one with a dot -/
theorem set_B (h9 : M 0 9 = b) (b0 : 0 ≤ b) (b1 : b < 10) (r0 : 0 ≤ r) (r1 : r < 3100) (m48 : M 48 r = x) (x0 : 0 ≤ x) (x1 : x < 31000) (m39 : M 39 x = x3) (m49 : M 49 r = nm) (n0 : 0 ≤ nm) (en : RunM e n_enumOf_0 [nm] M o M) (o1 : o < 12) (o0 : -1 ≤ o) (nq : nm / 16 = 3000 * b + p) (p0 : 0 ≤ p) (p1 : p ≤ 3000) (he : 1 ≤ e) (hq0 : o = -1 → Qr 0 (mFt M 4 p)) (hq1 : 0 ≤ o → PM (e + 1) n_settle_79 [r, x, x3, 12 * b + o] M Qr) : PM (e + 1) n_settle_0 [r] M Qr := by
  have lk := rn_lacks (e := e) h9 b0 b1 nq n0 p0 p1 he
  refine st_settle_0 ?_
  unfold B_settle_0
  rw [m48, m39, m49]
  refine ⟨r0, r1, fun _ => ⟨x0, x1, fun _ => en _ ⟨fun oo => ?_, fun oo => ?_⟩, fun y => absurd (by omega) y⟩, fun y => absurd x0 y⟩
  · rw [h9, m49]
    refine ⟨by omega, by omega, r0, r1, en _ ⟨by omega, by omega, hq1 (by omega)⟩⟩
  · refine st_settle_79 ⟨fun y => absurd rfl y, fun _ => ⟨r0, r1, ?_⟩⟩
    rw [m49]
    exact lk _ (hq0 (by omega))
/-- a case -/
theorem set_C (h9 : M 0 9 = b) (b0 : 0 ≤ b) (b1 : b < 10) (r0 : 0 ≤ r) (r1 : r < 3100) (m48 : M 48 r = -1 - ci) (m49 : M 49 r = -1) (g0 : 0 ≤ y0) (g1 : y0 < 120) (c0 : 36 * y0 ≤ ci) (c1 : ci < 36 * y0 + 36) (m50 : M 50 r = nmv P E b u) (nr : NR M (W u) (nmv P E b u)) (nq : nmv P E b u / 16 = 3000 * b + P u) (p0 : 0 ≤ P u) (p1 : P u ≤ 3000) (n14 : 0 ≤ M 14 y0 ∧ M 14 y0 ≤ 24) (ens : ENs N M y0) (he : 4 ≤ e) (hq1 : 0 ≤ fdx (cnm N y0) (W u) (M 14 y0).toNat 0 → Qr 0 (up M 32 ci (fdx (cnm N y0) (W u) (M 14 y0).toNat 0))) (hq0 : fdx (cnm N y0) (W u) (M 14 y0).toNat 0 < 0 → Qr 0 (mFt M 4 (P u))) : PM (e + 1) n_settle_0 [r] M Qr := by
  have fc := fdx_rng (f := cnm N y0) (v := W u) (M 14 y0).toNat 0 (Int.le_refl _)
  have lk := rn_lacks (e := e) h9 b0 b1 nq nr.1 p0 p1 (by omega)
  have td1 : ci.tdiv 12 = ci / 12 := Int.tdiv_eq_ediv_of_nonneg (by omega)
  have td2 : (ci / 12).tdiv 3 = ci / 12 / 3 := Int.tdiv_eq_ediv_of_nonneg (by omega)
  have td : (((-1) - (-1 - ci)).tdiv 12).tdiv 3 = y0 := by
    rw [show (-1 : Int) - (-1 - ci) = ci from by omega, td1, td2]
    omega
  refine st_settle_0 ?_
  unfold B_settle_0
  rw [m48, m49, td]
  refine ⟨r0, r1, fun y => absurd y (by omega), fun _ => ⟨by omega, by omega, fun y => absurd rfl y, fun _ => ?_⟩⟩
  refine st_settle_79 ⟨fun _ => ⟨by omega, by omega, g0, g1, r0, r1, ?_⟩, fun y => absurd (by omega) y⟩
  rw [m50]
  refine rn_among (e := e) (k := 20) (base := 24 * y0) (n := M 14 y0) (f := cnm N y0) (by decide) (by omega) (by rw [show ml 20 = 2880 from by decide]; omega) (by decide) (fun i i0 i1 => ens.1 i i0 i1) nr (by omega) _ ⟨fun y => absurd y (by omega), fun _ => ⟨fun z0 => ?_, fun z0 => ⟨r0, r1, ?_⟩⟩⟩
  · rw [show (-1 : Int) - (-1 - ci) = ci from by omega]
    exact ⟨by omega, by omega, by omega, by omega, hq1 (by omega)⟩
  · rw [m50]
    exact lk _ (hq0 (by omega))
end STL
