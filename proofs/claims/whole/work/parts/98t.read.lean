/-! ===== book: a text read ===== -/
theorem rkd_0 {k : Int} : rkd k = 0 ↔ k = 1 := by
  unfold rkd
  by_cases a : k = 0
  · rw [if_pos a]; omega
  · rw [if_neg a]
    by_cases a1 : k = 1
    · rw [if_pos a1]; omega
    · rw [if_neg a1]
      by_cases a2 : k = 2
      · rw [if_pos a2]; omega
      · rw [if_neg a2]
        by_cases a3 : k ≤ 15
        · rw [if_pos a3]; omega
        · rw [if_neg a3]; omega
section BKL
variable {l : Launch} {G : GT} {c0 : Int → Int} {N0 M0 : Mem} {Q : Int → Sh → Mem → Prop} {d E2 : Nat} {K P W E : Int → Int} {nt b B x0 : Int} {Xq : (Int → Mem → Prop) → Prop}
set_option maxHeartbeats 2000000 in
theorem bk_loop (hd : 130 ≤ d) (he : 120 ≤ E2)
    (hok : ∀ c' S' V' N1 M1 M' gm ow eo cs j ln ne, Cn c' S' → 0 ≤ S'.2.2 → c' 50 = x0 → BKI c' N1 M1 gm ow eo cs K P W E nt b B j ln ne → 1 ≤ ne → BCD c' N1 b ln → BAR c' N1 b ln → LIV N1 M1 gm eo cs K W b B ln ln (Wv c' S' V') M' → GFB b B c0 N0 M0 c' N1 M1 → (∀ Qr : Int → Mem → Prop, Qr 0 M' → Xq Qr) → Q (c' (128 * b + 1)) S' V')
    (hbad : ∀ c' S' V' M', Cn c' S' → 0 ≤ S'.2.2 → GFB b B c0 N0 M0 c' (Wv c' S' V') M' → FTS (Wv c' S' V') M' → (∀ Qr : Int → Mem → Prop, Qr 0 M' → Xq Qr) → Q 0 S' V') :
    ∀ (r : Nat) (e j ln : Int) (c : Int → Int) (S : Sh) (V M gm : Mem) (ow eo cs : Int → Int) (mc ms : Nat), 12 - e = r → Cn c S → 0 ≤ S.2.2 → c 50 = x0 → BKI c (Wv c S V) M gm ow eo cs K P W E nt b B j ln e → GFB b B c0 N0 M0 c (Wv c S V) M → (e = 0 ∨ K j ≠ 1) → 81 * (12 - e) + 16 ≤ mc → 491 * (12 - e) + 278 + 4 * nt ≤ ms → (∀ Qr : Int → Mem → Prop, PM (E2 + 4) n_readBook_39 [] M Qr → Xq Qr) → XJ l G bX5_readBook Q d 43 [vr x0, vi 1, vi e] [] S V mc ms := by
  have step : ∀ (e j ln : Int) (c : Int → Int) (S : Sh) (V M gm : Mem) (ow eo cs : Int → Int) (mc ms : Nat), Cn c S → 0 ≤ S.2.2 → c 50 = x0 → BKI c (Wv c S V) M gm ow eo cs K P W E nt b B j ln e → GFB b B c0 N0 M0 c (Wv c S V) M → (e = 0 ∨ K j ≠ 1) → 81 * (12 - e) + 16 ≤ mc → 491 * (12 - e) + 278 + 4 * nt ≤ ms → (∀ Qr : Int → Mem → Prop, PM (E2 + 4) n_readBook_39 [] M Qr → Xq Qr) → (∀ (j ln : Int) (c : Int → Int) (S : Sh) (V M gm : Mem) (ow eo cs : Int → Int) (mc ms : Nat), e < 12 → Cn c S → 0 ≤ S.2.2 → c 50 = x0 → BKI c (Wv c S V) M gm ow eo cs K P W E nt b B j ln (e + 1) → GFB b B c0 N0 M0 c (Wv c S V) M → K j ≠ 1 → 81 * (12 - (e + 1)) + 16 ≤ mc → 491 * (12 - (e + 1)) + 278 + 4 * nt ≤ ms → (∀ Qr : Int → Mem → Prop, PM (E2 + 4) n_readBook_39 [] M Qr → Xq Qr) → XJ l G bX5_readBook Q d 43 [vr x0, vi 1, vi (e + 1)] [] S V mc ms) → XJ l G bX5_readBook Q d 43 [vr x0, vi 1, vi e] [] S V mc ms := by
    intro e j ln c S V M gm ow eo cs mc ms hc h0 hx h gf hkj hmc hms rch ih
    have ee12 : 0 ≤ e ∧ e ≤ 12 := ⟨h.2.2.2.2.2.2.2.2.2.1, h.2.2.2.2.2.2.2.2.2.2.1⟩
    have nt0 : 1 ≤ nt := by have := h.1.j0; have := h.1.j1; omega
    have en := bk_enum (l := l) (G := G) (Q := Q) (d := d) (mc := mc) (ms := ms) (E2 := E2) (x2 := e) hc h0 hx rfl h gf (by omega) he ee12.1 ee12.2 (by omega) (by omega) (fun c1 S1 V1 M1 gm1 ow1 eo1 cs1 j1 l1 mc1 ms1 a1 a2 a3 a4 a5 a6 a7 a8 a9 run => ?_) (fun c1 S1 V1 M1 a1 a2 a3 a4 run => hbad c1 S1 V1 M1 a1 a2 a3 a4 (fun Qr hq => rch Qr (st_readBook_39 (run _ ⟨fun _ => st_readBook_59 ⟨fun _ => hq, fun _ => ⟨fun _ => hq, fun y => absurd a4.1 (by omega)⟩⟩, fun y => absurd a4.1 (by omega)⟩))))
    · have zx := h.1.x (V := V) rfl
      rw [hx] at zx
      refine vX5_readBook_43 ⟨fun y => absurd y (by omega), fun _ => ⟨fun y => absurd y (by decide), fun _ => ⟨fun e0 => ⟨zx.2.2.2.2.2.1, en⟩, fun e0 => ⟨zx.2.2.2.2.2.1, fun k1 => ?_, fun k1 => en⟩⟩⟩⟩
      rw [zx.1] at k1
      rcases hkj with q | q
      · exact absurd q e0
      · exact absurd k1 q
    · have k3 := a4.1.t1.k3
      have w1 : M1 0 46 = 0 := a4.2.2.2.1.1
      by_cases k1 : K j1 = 1
      · have m3 : M1 0 3 = 0 := by rw [k3]; exact rkd_0.2 k1
        have zx := a4.1.x (V := V1) rfl
        have lj : 0 ≤ l1 ∧ l1 ≤ j1 := ⟨a4.2.2.1.1, a4.2.2.1.2.1⟩
        have j1n := a4.1.j1
        have fin := bk_fin (l := l) (G := G) (Q := Q) (d := d) (mc := mc1) (ms := ms1) (ee := E2 + 2) (Xq := Xq) a1 a2 rfl a4 (by omega) a5 (by omega) (by omega) (by omega) (by omega) (fun Qr hq => rch Qr (st_readBook_39 (run _ ⟨fun y => absurd w1 y, fun _ => ⟨fun y => absurd m3 y, fun _ => hq⟩⟩))) (fun c2 S2 V2 N2 M2 b1 b2 b3 b4 b5 b6 b7 b8 b9 => hok c2 S2 V2 N2 M1 M2 gm1 ow1 eo1 cs1 j1 l1 (e + 1) b1 b2 (b3.trans a3) b4 (by omega) b5 b6 b7 b8 b9) hbad
        rw [a3] at zx fin
        refine vX5_readBook_43 ⟨fun y => absurd y (by omega), fun _ => ⟨fun y => absurd y (by decide), fun _ => ⟨fun y => absurd y (by omega), fun _ => ⟨zx.2.2.2.2.2.1, fun _ => ⟨fun _ => fin, fun y => absurd (by decide) y⟩, fun y => absurd (zx.1.trans k1) y⟩⟩⟩⟩
      · exact ih j1 l1 c1 S1 V1 M1 gm1 ow1 eo1 cs1 mc1 ms1 a7 a1 a2 a3 a4 a5 k1 (by omega) (by omega) (fun Qr hq => rch Qr (st_readBook_39 (run _ ⟨fun y => absurd w1 y, fun _ => ⟨fun _ => hq, fun y => absurd (rkd_0.1 (by rw [← k3]; omega)) k1⟩⟩)))
  intro r
  induction r with
  | zero =>
    intro e j ln c S V M gm ow eo cs mc ms hr hc h0 hx h gf hkj hmc hms rch
    exact step e j ln c S V M gm ow eo cs mc ms hc h0 hx h gf hkj hmc hms rch (fun j ln c S V M gm ow eo cs mc ms q => absurd q (by omega))
  | succ r ih =>
    intro e j ln c S V M gm ow eo cs mc ms hr hc h0 hx h gf hkj hmc hms rch
    exact step e j ln c S V M gm ow eo cs mc ms hc h0 hx h gf hkj hmc hms rch (fun j ln c S V M gm ow eo cs mc ms _ b1 b2 b3 b4 b5 b6 b7 b8 b9 => ih (e + 1) j ln c S V M gm ow eo cs mc ms (by omega) b1 b2 b3 b4 b5 (Or.inr b6) b7 b8 b9)
end BKL
section BKR
variable {l : Launch} {G : GT} {c : Int → Int} {S : Sh} {V N M : Mem} {Q : Int → Sh → Mem → Prop} {d E2 mc ms : Nat} {K P W E : Int → Int} {nt b : Int}
/-- the first token -/
theorem ct_pass_1 (hc : Cn c S) (hW : Wv c S V = N) (q : Rrd c N M) (k41 : ∀ i, 0 ≤ i → N 41 i = K i) (k43 : ∀ i, 0 ≤ i → N 43 i = W i) (h3 : N 40 3 = nt) (h6 : N 50 6 = -1) (n1 : 1 ≤ nt) (n2 : nt ≤ 3001) (hd : 1 ≤ d) (hk : ∀ V', Wv c S V' = nPs N 0 (K 0) (W 0) → Q 1 S V') : Ct l G bX5_pass Q d mc ms [vr (c 50), vi 1, vi 2] S V := qX5_pass fun _ _ _ => vX5_pass_0 <| by
  obtain ⟨v', tg, ln⟩ := Wr hW
  have im : imin (-1 + 1) (nt - 1) = 0 := by unfold imin; split <;> omega
  refine ⟨fun _ => ?_, fun y => absurd (by decide) y⟩
  simp (disch := omega) only [v', tg, ln, q.g50, q.r0, q.g40, q.t0, q.t2, q.g41, q.n41, q.g43, q.n43, h6, h3, im]
  refine ⟨trivial, by omega, by omega, trivial, by omega, by omega, hd, trivial, by omega, by omega, trivial, by omega, hk _ ?_⟩
  rw [Wv_up hc (by decide), Wv_up hc (by decide), Wv_up hc (by decide), hW, k41 _ (by omega), k43 _ (by omega)]
  rfl
set_option maxHeartbeats 2000000 in
theorem rd_book (hc : Cn c S) (h0 : 0 ≤ S.2.2) (hW : Wv c S V = N) (rd : Rrd c N M) (k41 : ∀ i, 0 ≤ i → N 41 i = K i) (k42 : ∀ i, 0 ≤ i → N 42 i = P i) (k43 : ∀ i, 0 ≤ i → N 43 i = W i) (h3 : N 40 3 = nt) (tk : TK (M 1) (M 0 2) K P W E nt) (hw : ∀ i, 0 ≤ i → i < M 0 2 → wb (M 1 i) = M 1 i) (b9 : M 0 9 = b) (b0 : 0 ≤ b) (b1 : b < 10) (x0 : 0 ≤ M 0 40) (x1 : M 0 40 ≤ 27000) (tx : ∀ i, 0 ≤ i → i < M 0 2 → M 7 (3000 * b + i) = M 1 i) (ntl : nt ≤ M 0 2 + 1) (hd : 140 ≤ d) (he : 120 ≤ E2)
    (hmc : 1000 ≤ mc) (hms : 6200 + 4 * nt ≤ ms)
    (hok : ∀ c' S' V' N1 M1 M' gm ow eo cs j ln ne, Cn c' S' → 0 ≤ S'.2.2 → c' 50 = c 50 → BKI c' N1 M1 gm ow eo cs K P W E nt b (M 0 40) j ln ne → 1 ≤ ne → BCD c' N1 b ln → BAR c' N1 b ln → LIV N1 M1 gm eo cs K W b (M 0 40) ln ln (Wv c' S' V') M' → GFB b (M 0 40) c N M c' N1 M1 → RunM (E2 + 4) n_readBook_0 [] M 0 M' → Q (c' (128 * b + 1)) S' V')
    (hbad : ∀ c' S' V' M', Cn c' S' → 0 ≤ S'.2.2 → GFB b (M 0 40) c N M c' (Wv c' S' V') M' → FTS (Wv c' S' V') M' → RunM (E2 + 4) n_readBook_0 [] M 0 M' → Q 0 S' V') : Ct l G bX5_readBook Q d mc ms [vr (c 50)] S V := by
  have n1 := tk.2.1
  have l3 : M 0 2 ≤ 3000 := tk.2.2.2.2.2.2
  obtain ⟨v', tg, lnn⟩ := Wr hW
  have g50 : S.1 (c 50) = 6 := (tg _).trans rd.g50
  have y1 : V (c 50) 1 = c 120 := (v' _ _ (by decide)).trans rd.r1
  have g120 : S.1 (c 120) = 2 := (tg _).trans rd.g120
  refine qX5_readBook fun c50 => vX5_readBook_0 ?_
  rw [y1]
  refine ⟨g50, g120, by omega, by omega, ?_⟩
  intro S1 V1 r1 mc1 ms1 q1 q2 q3 q4 q5
  subst q1 q2 q3 q4 q5
  have hWa : Wv c S (up (up (up V (c 50) 10 0) (c 50) 11 0) (c 120) 2 0) = up (up (up N 50 10 0) 50 11 0) 120 2 0 := by rw [Wv_up hc (by decide), Wv_up hc (by decide), Wv_up hc (by decide), hW]
  have na : ∀ L k, ¬ (L = 50 ∧ (k = 10 ∨ k = 11)) → ¬ (L = 120 ∧ k = 2) → up (up (up N 50 10 0) 50 11 0) 120 2 0 L k = N L k := fun L k p1 p2 => by rw [up_ne' (by omega), up_ne' (by omega), up_ne' (by omega)]
  have na10 : up (up (up N 50 10 0) 50 11 0) 120 2 0 50 10 = 0 := by rw [up_ne' (by omega), up_ne' (by omega), up_eq]
  have na2 : up (up (up N 50 10 0) 50 11 0) 120 2 0 120 2 = 0 := up_eq
  generalize up (up (up N 50 10 0) 50 11 0) 120 2 0 = Na at *
  obtain ⟨c1, hc1, h1, hW1, e1, f1⟩ := al (L := 128 * b + 1) (t := 1) (n := 0) hc h0 hWa
  have x50 : c 50 = c1 50 := (f1 50 (by omega)).symm
  generalize nw S 1 0 = S1 at *
  generalize clr (up (up (up V (c 50) 10 0) (c 50) 11 0) (c 120) 2 0) (S.2.2 + 1) = V1 at *
  generalize hr1 : S.2.2 + 1 = r1 at *
  refine ⟨by rw [← e1]; exact (hc1.2 _).1, ?_⟩
  refine CT.of (d - 1) 1 12 (ct_bokInit (b := b) (Q := fun _ S3 V3 => ∃ c3 N3, (Cn c3 S3 ∧ 0 ≤ S3.2.2 ∧ Wv c3 S3 V3 = N3) ∧ (∀ L, L ≠ 128 * b + 2 → c3 L = c1 L) ∧ (∀ L k, L ≠ 128 * b + 2 → ¬ (L = 128 * b + 1 ∧ k = 0) → N3 L k = nwl Na (128 * b + 1) 1 0 L k) ∧ N3 (128 * b + 1) 0 = c3 (128 * b + 2) ∧ N3 (128 * b + 2) (-1) = 33 ∧ N3 (128 * b + 2) (-2) = 12) hc1 h1 hW1 e1 nwl_tag (by omega) (fun c' S' V' N' b1 b2 b3 b4 b5 b6 b7 b8 => ⟨c', N', ⟨b1, b2, b3⟩, b4, b5, b6, b7, b8⟩)) (by omega) (by omega) (by omega) (fun z3 S3 V3 hq => ?_)
  obtain ⟨c3, N3, ⟨hc3, h3', hW3⟩, f3, n3, k0, t2, l2⟩ := hq
  have fc : ∀ L, L ≠ 128 * b + 1 → L ≠ 128 * b + 2 → c3 L = c L := fun L p1 p2 => (f3 L p2).trans (f1 L p1)
  have nn : ∀ L k, L ≠ 128 * b + 1 → L ≠ 128 * b + 2 → N3 L k = Na L k := fun L k p1 p2 => (n3 L k p2 (by omega)).trans (nwl_ne p1)
  have nz : ∀ k, 1 ≤ k → N3 (128 * b + 1) k = 0 := fun k p1 => by rw [n3 _ _ (by omega) (by omega)]; unfold nwl; rw [if_pos rfl, if_neg (by omega), if_neg (by omega)]
  have ntg : N3 (128 * b + 1) (-1) = 1 := by rw [n3 _ _ (by omega) (by omega), nwl_tag]
  have y50 : c 50 = c3 50 := (fc _ (by omega) (by omega)).symm
  have yr : r1 = c3 (128 * b + 1) := by rw [f3 _ (by omega)]; exact e1.symm
  rw [y50, yr]
  have hW4 : Wv c3 S3 (up (up V3 (c3 50) 3 (c3 (128 * b + 1))) (c3 50) 6 (-1)) = up (up N3 50 3 (c3 (128 * b + 1))) 50 6 (-1) := by rw [Wv_up hc3 (by decide), Wv_up hc3 (by decide), hW3]
  have n4 : ∀ L k, ¬ (L = 50 ∧ (k = 3 ∨ k = 6)) → up (up N3 50 3 (c3 (128 * b + 1))) 50 6 (-1) L k = N3 L k := fun L k p => by rw [up_ne' (by omega), up_ne' (by omega)]
  have n43 : up (up N3 50 3 (c3 (128 * b + 1))) 50 6 (-1) 50 3 = c3 (128 * b + 1) := by rw [up_ne' (by omega), up_eq]
  have n46 : up (up N3 50 3 (c3 (128 * b + 1))) 50 6 (-1) 50 6 = -1 := up_eq
  generalize up (up N3 50 3 (c3 (128 * b + 1))) 50 6 (-1) = N4 at *
  have nN : ∀ L k, L ≠ 128 * b + 1 → L ≠ 128 * b + 2 → ¬ (L = 50 ∧ (k = 3 ∨ k = 6 ∨ k = 10 ∨ k = 11)) → ¬ (L = 120 ∧ k = 2) → N4 L k = N L k := fun L k p1 p2 p3 p4 => (n4 L k (by omega)).trans ((nn L k p1 p2).trans (na L k (by omega) p4))
  have rd4 : Rrd c3 N4 M := rd.rg (fun L p => fc L (by unfold rdL at p; omega) (by unfold rdL at p; omega)) (fun L k p => nN L k (by unfold rdS at p; omega) (by unfold rdS at p; omega) (by unfold rdS at p; omega) (by unfold rdS at p; omega))
  refine ⟨by rw [(Wr hW3).2.1, nn _ _ (by omega) (by omega), na _ _ (by omega) (by omega)]; exact rd.g50, CT.im (by omega) (fun d2 hd2 => ct_pass_1 (K := K) (W := W) (nt := nt) hc3 hW4 rd4 (fun i i0 => (nN _ _ (by omega) (by omega) (by omega) (by omega)).trans (k41 i i0)) (fun i i0 => (nN _ _ (by omega) (by omega) (by omega) (by omega)).trans (k43 i i0)) ((nN _ _ (by omega) (by omega) (by omega) (by omega)).trans h3) n46 n1 (by omega) (by omega) (fun V5 hW5 => ?_))⟩
  -- the reference
  have mu : ∀ k i, ¬ (k = 0 ∧ (i = 46 ∨ i = 51 ∨ i = 5)) → ¬ ((k = 10 ∨ k = 11) ∧ i = b) → up (up (up (up (up M 0 46 0) 0 51 0) 0 5 0) 10 b 0) 11 b 0 k i = M k i := fun k i p1 p2 => by rw [up_ne' (by omega), up_ne' (by omega), up_ne' (by omega), up_ne' (by omega), up_ne' (by omega)]
  have mu46 : up (up (up (up (up M 0 46 0) 0 51 0) 0 5 0) 10 b 0) 11 b 0 0 46 = 0 := by rw [up_ne' (by omega), up_ne' (by omega), up_ne' (by omega), up_ne' (by omega), up_eq]
  have mu51 : up (up (up (up (up M 0 46 0) 0 51 0) 0 5 0) 10 b 0) 11 b 0 0 51 = 0 := by rw [up_ne' (by omega), up_ne' (by omega), up_ne' (by omega), up_eq]
  have mu5 : up (up (up (up (up M 0 46 0) 0 51 0) 0 5 0) 10 b 0) 11 b 0 0 5 = 0 := by rw [up_ne' (by omega), up_ne' (by omega), up_eq]
  have mu10 : up (up (up (up (up M 0 46 0) 0 51 0) 0 5 0) 10 b 0) 11 b 0 10 b = 0 := by rw [up_ne' (by omega), up_eq]
  have mu11 : up (up (up (up (up M 0 46 0) 0 51 0) 0 5 0) 10 b 0) 11 b 0 11 b = 0 := up_eq
  have ref0 : ∀ Qr : Int → Mem → Prop, PM (E2 + 3) n_next_0 [] (up (up (up (up (up M 0 46 0) 0 51 0) 0 5 0) 10 b 0) 11 b 0) (fun z1 M1 => PM (E2 + 4) n_readBook_39 [] M1 Qr) → PM (E2 + 4) n_readBook_0 [] M Qr := fun Qr hq => st_readBook_0 (by
    unfold B_readBook_0
    rw [b9]
    exact ⟨b0, b1, hq⟩)
  generalize up (up (up (up (up M 0 46 0) 0 51 0) 0 5 0) 10 b 0) 11 b 0 = Mu at *
  have e1' : Mu 1 = M 1 := funext fun i => mu _ _ (by omega) (by omega)
  have e2' : Mu 0 2 = M 0 2 := mu _ _ (by omega) (by omega)
  obtain ⟨E3, hE3⟩ : ∃ E3, E2 + 3 = E3 + 7 := ⟨E2 - 4, by omega⟩
  obtain ⟨M5, r5, lx5, at5⟩ := pm_next (d := E3) (M := Mu) (n := nt) (j := 0) (by rw [e1', e2']; exact tk) (by rw [e1', e2']; exact hw) (by decide) (by omega) (Or.inl (by rw [mu5]; rfl))
  rw [← hE3] at r5
  have m5 : ∀ k i, ¬ (k = 0 ∧ ((3 ≤ i ∧ i ≤ 6) ∨ i = 46 ∨ i = 51)) → ¬ ((k = 10 ∨ k = 11) ∧ i = b) → M5 k i = M k i := fun k i p1 p2 => (lx5 k i (by omega)).trans (mu k i (by omega) p2)
  have e15 : M5 1 = M 1 := funext fun i => m5 _ _ (by omega) (by omega)
  have e25 : M5 0 2 = M 0 2 := m5 _ _ (by omega) (by omega)
  have n5 : ∀ L k, ¬ (L = 50 ∧ 6 ≤ k ∧ k ≤ 8) → nPs N4 0 (K 0) (W 0) L k = N4 L k := fun L k p => nPs_ne p
  have ts5 : TS c3 (nPs N4 0 (K 0) (W 0)) M5 K P W E nt 0 := by
    refine ⟨rd4.rg (fun _ _ => rfl) (fun L k p => nPs_ne (by unfold rdS at p; omega)), ⟨fun i i0 => (n5 _ _ (by omega)).trans ((nN _ _ (by omega) (by omega) (by omega) (by omega)).trans (k41 i i0)), fun i i0 => (n5 _ _ (by omega)).trans ((nN _ _ (by omega) (by omega) (by omega) (by omega)).trans (k42 i i0)), fun i i0 => (n5 _ _ (by omega)).trans ((nN _ _ (by omega) (by omega) (by omega) (by omega)).trans (k43 i i0))⟩, ⟨(n5 _ _ (by omega)).trans ((nN _ _ (by omega) (by omega) (by omega) (by omega)).trans h3), ?_, ?_, up_eq⟩, ?_, at5, Int.le_refl _, by omega, ?_⟩
    · unfold nPs; rw [up_ne (by omega), up_ne (by omega), up_eq]
    · unfold nPs; rw [up_ne (by omega), up_eq]
    · rw [e15, e25]; exact tk
    · rw [e15, e25]; exact hw
  have nb : ∀ k, nPs N4 0 (K 0) (W 0) (128 * b + 1) k = N3 (128 * b + 1) k := fun k => (n5 _ _ (by omega)).trans (n4 _ _ (by omega))
  have m510 : M5 10 b = 0 := (lx5 _ _ (by omega)).trans mu10
  have m511 : M5 11 b = 0 := (lx5 _ _ (by omega)).trans mu11
  have x540 : M5 0 40 = M 0 40 := m5 _ _ (by omega) (by omega)
  have bki : BKI c3 (nPs N4 0 (K 0) (W 0)) M5 (fun _ _ => 0) (fun _ => -1) (fun _ => 0) (fun _ => 0) K P W E nt b (M 0 40) 0 0 0 := by
    refine ⟨ts5, ⟨?_, ?_⟩, ⟨Int.le_refl _, Int.le_refl _, by omega, by omega⟩, ⟨(lx5 _ _ (by omega)).trans mu46, ?_, (m5 _ _ (by omega) (by omega)).trans b9⟩, ?_, ⟨⟨?_, (nb _).trans ntg, (nb _).trans k0, ?_, ?_, by rw [nb, nz _ (by decide), m510], by omega, by omega, by rw [nb, nz _ (by decide), m511], by omega, by omega, (nb _).trans (nz _ (by decide)), (nb _).trans (nz _ (by decide)), fun i i0 i1 => by omega, fun i i0 i1 => by omega⟩, m510⟩, fun e' a a1 => by omega, ⟨fun x a a1 => by omega, fun p a a1 => by omega, fun p p' a a1 a2 => by omega, fun p a a1 => by omega, fun p a => ?_, ⟨Int.le_refl _, Int.le_refl _, fun p a a1 => by omega⟩, by omega, Int.le_refl _⟩, ⟨fun _ => rfl, fun a => by omega⟩, Int.le_refl _, by decide, b0, b1, x0, x1⟩
    · exact (n5 _ _ (by omega)).trans ((n4 _ _ (by omega)).trans ((nn _ _ (by omega) (by omega)).trans na2))
    · rw [(lx5 0 51 (by omega)).trans mu51]; rfl
    · exact (n5 _ _ (by omega)).trans ((n4 _ _ (by omega)).trans ((nn _ _ (by omega) (by omega)).trans na10))
    · intro i i0 i1
      rw [e25] at i1
      rw [m5 _ _ (by omega) (by omega), m5 _ _ (by omega) (by omega)]
      exact tx i i0 i1
    · exact (n5 _ _ (by omega)).trans n43
    · exact (n5 _ _ (by omega)).trans ((n4 _ _ (by omega)).trans t2)
    · exact (n5 _ _ (by omega)).trans ((n4 _ _ (by omega)).trans l2)
    · exact absurd (show (0 : Int) ≤ -1 from a) (by decide)
  have gf : GFB b (M 0 40) c N M c3 (nPs N4 0 (K 0) (W 0)) M5 := by
    refine ⟨fun L p => fc L (fun y => p (by unfold bkL; omega)) (fun y => p (by unfold bkL; omega)), fun L k p => (gb_nps p).trans (nN L k (fun y => p (Or.inl (by unfold bkL; omega))) (fun y => p (Or.inl (by unfold bkL; omega))) (fun y => p (Or.inr (Or.inl ⟨y.1, by omega, by omega⟩))) (fun y => p (Or.inr (Or.inr (Or.inr (Or.inl y)))))), fun k i p => m5 k i (fun y => p (Or.inl ⟨y.1, by omega⟩)) (fun y => p (Or.inr (Or.inl y)))⟩
  rw [← hW5] at bki gf
  exact bk_loop (E2 := E2) (c0 := c) (N0 := N) (M0 := M) (K := K) (P := P) (W := W) (E := E) (nt := nt) (b := b) (B := M 0 40) (x0 := c3 50) (Xq := fun Qr => PM (E2 + 4) n_readBook_0 [] M Qr) (by omega) he (fun c' S' V' N1 M1 M' gm ow eo cs j ln ne a1 a2 a3 a4 a5 a6 a7 a8 a9 a10 => hok c' S' V' N1 M1 M' gm ow eo cs j ln ne a1 a2 (a3.trans y50.symm) a4 a5 a6 a7 a8 a9 a10) hbad 12 0 0 0 c3 S3 V5 M5 (fun _ _ => 0) (fun _ => -1) (fun _ => 0) (fun _ => 0) _ _ (by decide) hc3 h3' rfl bki gf (Or.inl rfl) (by omega) (by omega) (fun Qr hq => ref0 Qr (r5 _ hq))
end BKR
