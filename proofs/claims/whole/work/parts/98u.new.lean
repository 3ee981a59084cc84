/-! ===== book: the new book stands ===== -/
def NBK (c : Int → Int) (N M N1 M1 gm : Mem) (ow eo cs K P W E : Int → Int) (nt b B j ln ne : Int) : Prop := (BKI c N1 M1 gm ow eo cs K P W E nt b B j ln ne ∧ 1 ≤ ne ∧ BCD c N1 b ln ∧ BAR c N1 b ln) ∧ (∀ L k, bkL b L → ¬ ((L = 128 * b + 21 ∨ L = 128 * b + 22) ∧ 0 ≤ k) → N L k = N1 L k) ∧ (∀ q, 0 ≤ q → q < ln → N (128 * b + 21) q = LOp N1 M1 eo K W b q ∧ N (128 * b + 22) q = LAr N1 M1 eo K W b q ∧ OKs N1 M1 eo K W b q) ∧ (∀ k i, ¬ (k = 0 ∧ (i = 2 ∨ i = 8)) → k ≠ 35 → k ≠ 36 → k ≠ 32 → k ≠ 52 → k ≠ 53 → k ≠ 55 → k ≠ 59 → k ≠ 62 → M k i = M1 k i) ∧ ((∀ x, B ≤ x → x < M1 0 40 → NLK N1 M1 gm eo K W b ln M x) ∧ (∀ q, 0 ≤ q → q < ln → N1 121 q = 14 → M 32 (cs q) = lcn N1 M1 eo K W b q)) ∧ ((∀ i, 160 * b ≤ i → i < 160 * b + 160 → M 52 i = 0) ∧ (∀ i, 12 * b ≤ i → i < 12 * b + 12 → M 53 i = 0) ∧ (∀ i, 48 * b ≤ i → i < 48 * b + 48 → M 55 i = 0) ∧ M 59 b = 0 ∧ M 62 b = 0) ∧ N 62 b = c (128 * b + 1)
section BKC
variable {c : Int → Int} {N0 M0 gm : Mem} {ow eo cs K P W E : Int → Int} {nt b B j ln ne p x : Int}
/-- every step is an enum's -/
theorem BKI.cov (h : BKI c N0 M0 gm ow eo cs K P W E nt b B j ln ne) (ne1 : 1 ≤ ne) (p0 : 0 ≤ p) (p1 : p < ln) : 0 ≤ eo p ∧ eo p < ne := by
  obtain ⟨ts, ⟨lv, hr⟩, ⟨l0, lj, a0, a1⟩, ⟨w0, f0, b9⟩, tx, ⟨hB, h10⟩, pe, wd, ⟨s1, s2⟩, ⟨ne0, ne12, b0, b1, B0, B1⟩⟩ := h
  have cl : ∀ (r : Nat) (n : Int), n = r → n ≤ ne → p < (if n = 0 then 0 else N0 (128 * (12 * b + (n - 1)) + 3) 2) → 0 ≤ eo p ∧ eo p < ne := by
    intro r
    induction r with
    | zero =>
      intro n hn n1 hp
      rw [if_pos (by omega)] at hp
      omega
    | succ r ih =>
      intro n hn n1 hp
      rw [if_neg (by omega)] at hp
      obtain ⟨-, -, -, -, ⟨F0, F1, F2⟩, heo, t1, t2⟩ := pe (n - 1) (by omega) (by omega)
      by_cases y : N0 (128 * (12 * b + (n - 1)) + 3) 1 ≤ p
      · have := heo p y hp
        omega
      · refine ih (n - 1) (by omega) (by omega) ?_
        by_cases z : n - 1 = 0
        · have := t1 z
          omega
        · rw [if_neg z, ← t2 (by omega)]
          omega
  refine cl ne.toNat ne (by omega) (Int.le_refl _) ?_
  rw [if_neg (by omega), ← s2 (by omega)]
  exact p1
theorem BKI.ol (h : BKI c N0 M0 gm ow eo cs K P W E nt b B j ln ne) (ne1 : 1 ≤ ne) (p0 : 0 ≤ p) (p1 : p < ln) : own N0 M0 eo K W b p < ne := by
  have cv := h.cov (P := P) ne1 p0 p1
  have h10 := h.2.2.2.2.2.1.2
  unfold own
  split
  · have fr := fdx_rng (f := enm N0 b) (v := W (N0 122 p)) (M0 10 b).toNat 0 (Int.le_refl _)
    omega
  · exact cv.2
/-- an entry's two steps lead to one place -/
theorem BKI.n12 (h : BKI c N0 M0 gm ow eo cs K P W E nt b B j ln ne) (x0 : B ≤ x) (x1 : x < M0 0 40) (kx : M0 35 x = 12) : N0 121 (gm 1 x) = 12 ∧ N0 121 (gm 2 (M0 37 x)) = 13 ∧ own N0 M0 eo K W b (gm 2 (M0 37 x)) = own N0 M0 eo K W b (gm 1 x) ∧ ltb N0 M0 eo K W b (gm 2 (M0 37 x)) = ltb N0 M0 eo K W b (gm 1 x) := by
  obtain ⟨ts, ⟨lv, hr⟩, ⟨l0, lj, a0, a1⟩, ⟨w0, f0, b9⟩, tx, ⟨hB, h10⟩, pe, wd, ss, ⟨ne0, ne12, b0, b1, B0, B1⟩⟩ := h
  obtain ⟨n1, n2, n3, n4⟩ := wd.1 x x0 x1
  have pk := n1.2.2.2.2
  have lt := n1.1
  have q12 : N0 121 (gm 1 x) = 12 ∧ N0 122 (gm 2 (M0 37 x)) = N0 122 (gm 1 x) ∧ gm 2 x = gm 2 (M0 37 x) + 1 ∧ gm 1 (M0 37 x) = gm 1 x + 1 ∧ B ≤ M0 37 x ∧ M0 37 x < M0 0 40 ∧ N0 121 (gm 2 (M0 37 x)) = 13 := by
    unfold PCk at pk
    omega
  have c1 := (wd.1 (M0 37 x) q12.2.2.2.2.1 q12.2.2.2.2.2.1).1.1
  have eoe : eo (gm 2 (M0 37 x)) = eo (gm 1 x) := by
    have u1 := n3 (gm 2 (M0 37 x)) (by omega) (by omega)
    have u2 := n3 (gm 1 x) (Int.le_refl _) (by omega)
    omega
  have ow' : own N0 M0 eo K W b (gm 2 (M0 37 x)) = own N0 M0 eo K W b (gm 1 x) := by
    unfold own
    rw [q12.2.2.2.2.2.2, q12.1, q12.2.1, eoe]
    by_cases k : K (N0 122 (gm 1 x) + 1) = 46
    · rw [if_pos ⟨by decide, k⟩, if_pos ⟨by decide, k⟩]
    · rw [if_neg (fun y => k y.2), if_neg (fun y => k y.2)]
  have tk : tkn N0 K (gm 2 (M0 37 x)) = tkn N0 K (gm 1 x) := by
    unfold tkn
    rw [q12.2.2.2.2.2.2, q12.1, q12.2.1]
    by_cases k : K (N0 122 (gm 1 x) + 1) = 46
    · rw [if_pos ⟨by decide, k⟩, if_pos ⟨by decide, k⟩]
    · rw [if_neg (fun y => k y.2), if_neg (fun y => k y.2)]
  exact ⟨q12.1, q12.2.2.2.2.2.2, ow', by unfold ltb; rw [ow', tk]⟩
end BKC
def gmN (gm : Mem) (ow : Int → Int) (B X : Int) : Mem := fun k y => if k = 0 then (if B ≤ y ∧ y < X then 1 else 0) else if k = 5 then ow y else gm k y
theorem gmN_0 {gm : Mem} {ow : Int → Int} {B X y : Int} (h : B ≤ y) (h2 : y < X) : gmN gm ow B X 0 y = 1 := by unfold gmN; rw [if_pos rfl, if_pos ⟨h, h2⟩]
theorem gmN_i {gm : Mem} {ow : Int → Int} {B X y : Int} (h : gmN gm ow B X 0 y = 1) : B ≤ y ∧ y < X := by
  unfold gmN at h
  rw [if_pos rfl] at h
  by_cases q : B ≤ y ∧ y < X
  · exact q
  · rw [if_neg q] at h; exact absurd h (by decide)
theorem gmN_k {gm : Mem} {ow : Int → Int} {B X k y : Int} (h : k ≠ 0) (h2 : k ≠ 5) : gmN gm ow B X k y = gm k y := by unfold gmN; rw [if_neg h, if_neg h2]
theorem gmN_5 {gm : Mem} {ow : Int → Int} {B X y : Int} : gmN gm ow B X 5 y = ow y := by unfold gmN; rw [if_neg (by decide), if_pos rfl]
section BKW
variable {c : Int → Int} {N M N1 M1 gm : Mem} {ow eo cs K P W E : Int → Int} {nt b B j ln ne p x : Int}
theorem NBK.op (h : NBK c N M N1 M1 gm ow eo cs K P W E nt b B j ln ne) (p0 : 0 ≤ p) (p1 : p < ln) : (N1 121 p ≠ 5 → N1 121 p ≠ 11 → N1 121 p ≠ 12 → N1 121 p ≠ 13 → N (128 * b + 21) p = N1 121 p ∧ (N1 121 p ≠ 14 → N (128 * b + 22) p = N1 122 p) ∧ (N1 121 p = 14 → N (128 * b + 22) p = lcn N1 M1 eo K W b p)) ∧ (N1 121 p = 5 → N (128 * b + 21) p = 1 ∧ N (128 * b + 22) p = M1 14 (12 * b + eo p)) ∧ (N1 121 p = 11 → (0 ≤ lcn N1 M1 eo K W b p → N (128 * b + 21) p = 15 ∧ N (128 * b + 22) p = own N1 M1 eo K W b p * 24 + lcn N1 M1 eo K W b p) ∧ (lcn N1 M1 eo K W b p < 0 → N (128 * b + 21) p = 16 ∧ N (128 * b + 22) p = 100 + own N1 M1 eo K W b p * 4 + lho N1 M1 eo K W b p)) ∧ (N1 121 p = 12 → N (128 * b + 21) p = 17 ∧ N (128 * b + 22) p = own N1 M1 eo K W b p) ∧ (N1 121 p = 13 → N (128 * b + 21) p = 18 ∧ N (128 * b + 22) p = own N1 M1 eo K W b p * 4 + ltb N1 M1 eo K W b p) := by
  obtain ⟨q1, q2, q3⟩ := h.2.2.1 p p0 p1
  rw [q1, q2]
  unfold LOp LAr
  refine ⟨fun a1 a2 a3 a4 => ?_, fun a => ?_, fun a => ⟨fun a1 => ?_, fun a1 => ?_⟩, fun a => ?_, fun a => ?_⟩
  · rw [if_neg a1, if_neg a2, if_neg a3, if_neg a4, if_neg a1, if_neg a2, if_neg a3, if_neg a4]
    exact ⟨rfl, fun y => by rw [if_neg y], fun y => by rw [if_pos y]⟩
  · rw [if_pos a, if_pos a]; exact ⟨rfl, rfl⟩
  · rw [if_neg (by omega), if_pos a, if_pos a1, if_neg (by omega), if_pos a, if_pos a1]; exact ⟨rfl, rfl⟩
  · rw [if_neg (by omega), if_pos a, if_neg (by omega), if_neg (by omega), if_pos a, if_neg (by omega)]; exact ⟨rfl, rfl⟩
  · rw [if_neg (by omega), if_neg (by omega), if_pos a, if_neg (by omega), if_neg (by omega), if_pos a]; exact ⟨rfl, rfl⟩
  · rw [if_neg (by omega), if_neg (by omega), if_neg (by omega), if_pos a, if_neg (by omega), if_neg (by omega), if_neg (by omega), if_pos a]; exact ⟨rfl, rfl⟩
set_option maxHeartbeats 2000000 in
theorem NBK.lck (h : NBK c N M N1 M1 gm ow eo cs K P W E nt b B j ln ne) (x0 : B ≤ x) (x1 : x < M1 0 40) : LCk N M (gmN gm ow B (M1 0 40)) b x := by
  have hop := fun (p : Int) => h.op (P := P) (p := p)
  obtain ⟨⟨hI, ne1, bcd, bar⟩, hN, hq, hM, ⟨hn, hcs⟩, hz, h62⟩ := h
  have cov := fun p => hI.cov (P := P) (p := p) ne1
  have oln := fun p => hI.ol (P := P) (p := p) ne1
  have n12 := hI.n12 (P := P) x0 x1
  obtain ⟨ts, ⟨lv, hr⟩, ⟨l0, lj, a0, a1⟩, ⟨w0, f0, b9⟩, tx, ⟨hB, h10⟩, pe, wd, ss, ⟨ne0, ne12, b0, b1, B0, B1⟩⟩ := hI
  have g : ∀ k y, k ≠ 0 → k ≠ 5 → gmN gm ow B (M1 0 40) k y = gm k y := fun k y q1 q2 => gmN_k q1 q2
  have mk : ∀ k i, k = 37 ∨ k = 38 ∨ k = 39 ∨ k = 10 ∨ k = 14 ∨ k = 15 ∨ k = 17 → M k i = M1 k i := fun k i q => hM k i (by omega) (by omega) (by omega) (by omega) (by omega) (by omega) (by omega) (by omega) (by omega)
  obtain ⟨d1, d2, d3, d4⟩ := wd.1 x x0 x1
  have lt := d1.1
  have pk := d1.2.2.2.2
  obtain ⟨v1, v2, v3, v4, v5⟩ := hn x x0 x1
  unfold LCk
  simp only [g 1 _ (by decide) (by decide), g 2 _ (by decide) (by decide), g 3 _ (by decide) (by decide), g 4 _ (by decide) (by decide)]
  have ltc : ∀ y, B ≤ y → y < M1 0 40 → 0 ≤ gm 1 y ∧ gm 1 y < gm 2 y ∧ gm 2 y < ln := fun y y0 y1 => ⟨(wd.1 y y0 y1).1.1.1, (wd.1 y y0 y1).1.1.2.1, (wd.1 y y0 y1).2.1.2.2⟩
  have p1 : gm 1 x < ln := by omega
  have h1 := hop (gm 1 x) (by omega) p1
  rcases pk with q | q | q | q | q | q | q | q | q
  · left
    have m36 := v2 (by omega) (by omega)
    have m35 := v1 (by omega)
    obtain ⟨o1, o2, o3⟩ := h1.1 (by omega) (by omega) (by omega) (by omega)
    rw [m35, m36, o1, o2 (by omega)]
    exact q
  · right; left
    have m36 := v2 (by omega) (by omega)
    have m35 := v1 (by omega)
    obtain ⟨k1, k2, k3, k4, k5, k6, k7⟩ := q
    have lc := ltc _ k2 k3
    obtain ⟨o1, o2, o3⟩ := (hop (gm 2 (M1 36 x)) (by omega) (by omega)).1 (by omega) (by omega) (by omega) (by omega)
    rw [m35, m36, o1]
    exact ⟨k1, gmN_0 k2 k3, k4, k5, k6, by have := d4.1 k1; omega, k7⟩
  · right; right; left
    have m36 := v2 (by omega) (by omega)
    have m35 := v1 (by omega)
    have m37 := mk 37 x (by decide)
    obtain ⟨k1, k2, k3, k4, k5, k6, k7, k8, k9, k10, k11, k12, k13, k14⟩ := q
    have lc := ltc _ k5 k6
    obtain ⟨o1, o2, o3⟩ := (hop (gm 2 (M1 37 x)) (by omega) (by omega)).1 (by omega) (by omega) (by omega) (by omega)
    have nd := d4.2.1 k1 k2
    have m35c := (hn _ k3 k4).1
    rw [m35, m36, m37, o1, mk 38 _ (by decide)]
    refine ⟨k1, k2, gmN_0 k3 k4, gmN_0 k5 k6, k7, k8, k9, k10, k11, fun _ _ => k12, fun y => k13 (fun z => y ?_), by omega, by omega, k14⟩
    rw [m35c (by omega)]
    exact z
  · right; right; right; left
    have m35 := v1 (by omega)
    obtain ⟨o1, o2, o3⟩ := h1.1 (by omega) (by omega) (by omega) (by omega)
    rw [m35, o1]
    exact q
  · right; right; right; right; left
    have m35 := v1 (by omega)
    obtain ⟨o1, o2, o3⟩ := h1.1 (by omega) (by omega) (by omega) (by omega)
    rw [m35, o1]
    exact q
  · right; right; right; right; right; left
    have m35 := v1 (by omega)
    obtain ⟨o1, o2, o3⟩ := h1.1 (by omega) (by omega) (by omega) (by omega)
    rw [m35, o1]
    exact q
  · right; right; right; right; right; right; left
    have m35 := v1 (by omega)
    have m39 := mk 39 x (by decide)
    have e39 := d3 (gm 1 x) (Int.le_refl _) (by omega)
    have cv := cov (gm 1 x) (by omega) p1
    obtain ⟨o1, o2⟩ := h1.2.1 q.2.2
    rw [m35, m39, o1, o2, e39, mk 14 _ (by decide)]
    exact ⟨q.1, q.2.1, rfl, by omega, by omega, rfl⟩
  · obtain ⟨k1, k2, k3, k4⟩ := q
    have ok := (hq (gm 1 x) (by omega) p1).2.2.1 k3
    have ol := oln (gm 1 x) (by omega) p1
    have P1 := pe _ ok.1 ol
    have fc := fdx_rng (f := cnm N1 (12 * b + own N1 M1 eo K W b (gm 1 x))) (v := W (tkn N1 K (gm 1 x))) (M1 14 (12 * b + own N1 M1 eo K W b (gm 1 x))).toNat 0 (Int.le_refl _)
    have fh := fdx_rng (f := N1 (128 * (12 * b + own N1 M1 eo K W b (gm 1 x)) + 13)) (v := W (tkn N1 K (gm 1 x))) (M1 17 (12 * b + own N1 M1 eo K W b (gm 1 x))).toNat 0 (Int.le_refl _)
    have hl : lcn N1 M1 eo K W b (gm 1 x) = fdx (cnm N1 (12 * b + own N1 M1 eo K W b (gm 1 x))) (W (tkn N1 K (gm 1 x))) (M1 14 (12 * b + own N1 M1 eo K W b (gm 1 x))).toNat 0 := rfl
    have hh : lho N1 M1 eo K W b (gm 1 x) = fdx (N1 (128 * (12 * b + own N1 M1 eo K W b (gm 1 x)) + 13)) (W (tkn N1 K (gm 1 x))) (M1 17 (12 * b + own N1 M1 eo K W b (gm 1 x))).toNat 0 := rfl
    rw [← hl] at fc
    rw [← hh] at fh
    have hv := v4 k1 p1
    have ho := h1.2.2.1 k3
    have n14 := P1.1.nc0
    have n17 := P1.1.nh0
    by_cases lc : 0 ≤ lcn N1 M1 eo K W b (gm 1 x)
    · right; right; right; right; right; right; right; left
      obtain ⟨u1, u2⟩ := hv.1 lc
      obtain ⟨u3, u4⟩ := ho.1 lc
      rw [u1, u2, u3, u4]
      refine ⟨rfl, k2, rfl, own N1 M1 eo K W b (gm 1 x), lcn N1 M1 eo K W b (gm 1 x), ok.1, ?_, lc, ?_, rfl, by omega⟩
      · rw [mk 10 _ (by decide), h10]; exact ol
      · rw [mk 14 _ (by decide)]; omega
    · right; right; right; right; right; right; right; right; left
      obtain ⟨u1, u2⟩ := hv.2 (by omega)
      obtain ⟨u3, u4⟩ := ho.2 (by omega)
      rw [u1, u2, u3, u4]
      have lh : 0 ≤ lho N1 M1 eo K W b (gm 1 x) := by have := ok.2; omega
      refine ⟨rfl, k2, rfl, own N1 M1 eo K W b (gm 1 x), lho N1 M1 eo K W b (gm 1 x), ok.1, ?_, lh, ?_, rfl, by omega⟩
      · rw [mk 10 _ (by decide), h10]; exact ol
      · rw [mk 17 _ (by decide)]; omega
  · right; right; right; right; right; right; right; right; right
    obtain ⟨k1, k2, k3, k4, k5, k6, k7, k8, k9, k10⟩ := q
    obtain ⟨j1, j2, j3, j4⟩ := n12 k1
    have lc := ltc _ k3 k4
    have ok := (hq (gm 1 x) (by omega) p1).2.2.2.1 (Or.inl k2)
    have ol := oln (gm 1 x) (by omega) p1
    have P1 := pe _ ok.1 ol
    have ft := fdx_rng (f := tnm N1 (12 * b + own N1 M1 eo K W b (gm 1 x))) (v := W (tkn N1 K (gm 1 x))) (M1 15 (12 * b + own N1 M1 eo K W b (gm 1 x))).toNat 0 (Int.le_refl _)
    have hl : ltb N1 M1 eo K W b (gm 1 x) = fdx (tnm N1 (12 * b + own N1 M1 eo K W b (gm 1 x))) (W (tkn N1 K (gm 1 x))) (M1 15 (12 * b + own N1 M1 eo K W b (gm 1 x))).toNat 0 := rfl
    rw [← hl] at ft
    have n15 := P1.1.nt0
    obtain ⟨u1, u2⟩ := h1.2.2.2.1 k2
    obtain ⟨u3, u4⟩ := (hop (gm 2 (M1 37 x)) (by omega) (by omega)).2.2.2.2 k8
    have m35 := v1 (by omega)
    have m37 := mk 37 x (by decide)
    have m36 := v5 k1 p1
    rw [m35, m37, u1, u2, u3, u4, j3, j4, m36]
    refine ⟨k1, rfl, gmN_0 k3 k4, k5, k6, k7, by have := d4.2.2 k1; omega, rfl, own N1 M1 eo K W b (gm 1 x), ltb N1 M1 eo K W b (gm 1 x), ok.1, ?_, ok.2, ?_, rfl, rfl, by omega⟩
    · rw [mk 10 _ (by decide), h10]; exact ol
    · rw [mk 15 _ (by decide)]; omega
end BKW
