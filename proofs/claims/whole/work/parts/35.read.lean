/-! ===== evaluation: what a step reads ===== -/
theorem pm_use_ok {d : Nat} {M : Mem} {Q : Int → Mem → Prop} {b it : Int} (hb : M 0 9 = b) (b0 : 0 ≤ b) (b1 : b < 10) (i0 : 0 ≤ it) (i1 : it < 148) (h2 : M 52 (160 * b + it) ≠ 2) (h0 : M 52 (160 * b + it) ≠ 0) (hq : Q 0 M) : PM (d + 1) n_use_0 [it] M Q := by
  refine st_use_0 ?_
  unfold B_use_0
  rw [hb]
  exact ⟨by omega, by omega, by omega, by omega, by omega, by omega, fun _ => ⟨fun _ => hq, fun z => absurd h0 z⟩, fun z => absurd h2 z⟩
section EV4
variable {l : Launch} {G : GT} {Q : Int → Sh → Mem → Prop} {c : Int → Int} {S : Sh} {V N M gm : Mem} {U : Int → Int} {b D x cst ra e j p : Int} {d dm : Nat}
theorem ct_readConstant (hU : UseOK c S gm b D) (hc : Cn c S) (hW : Wv c S V = N) (E : EvI c N M gm U b) (hD : M 0 64 = D) (hf : M 0 65 = 0) (hN : D = 0 → NU b M) (hx : gm 0 x = 1) (x0 : 0 ≤ x) (x1 : x < 31000) (k : M 35 x = 10) (a : M 36 x = 24 * (12 * b + e) + j) (e0 : 0 ≤ e) (e1 : e < M 10 b) (j0 : 0 ≤ j) (j1 : j < M 14 (12 * b + e)) (q0 : gm 1 x = p) (p0 : 0 ≤ p) (p2 : gm 2 x = p + 1) (ow : OW b gm M U p (p + 1) D) (g3 : 1 ≤ gm 3 x) (t : N 30 3 + 45 * (12 - D) ≤ 950) (hd : 10 * (12 - D) + 6 ≤ (d : Int)) (hdm : 100 * (12 - D) + 7 ≤ (dm : Int)) (hk : ∀ V' N' M' U' z, Wv c S V' = N' → VP c b gm x cst ra dm D N M U N' M' U' z → (M' 0 65 = 0 → N' 30 3 = N 30 3) → (M' 0 65 ≠ 0 → z = 0) → Q z S V') : Ct l G bX10_readConstant Q d 0 0 [vr (c 30), vi e, vi j] S V := by
  have ne1 := E.bh.bk.ne1
  have nc1 := (E.bh.be e0 e1).en.nc1
  have dp1 := E.dp1
  have dp0 := E.dp0
  have b0 := E.b0
  have b1 := E.b1
  have g12 : (12 * b + e) % 12 = e := by omega
  obtain ⟨dm', rfl⟩ : ∃ k, dm = k + 2 := ⟨dm - 2, by omega⟩
  refine qX10_readConstant fun _ _ _ => vX10_readConstant_0 ⟨by rw [(Wr hW).2.1]; exact E.wk.g30, CT.im (by omega) (fun d1 hd1 => hU l G _ d1 (dm' + 1) e V N M U hW E hD hf hN (Or.inl ⟨by omega, e0, e1⟩) t (by omega) (by omega) (fun V1 N1 M1 U1 hW1 hr s1 n9 n10 hs => ?_))⟩
  have E1 := s1.1
  have st1 := s1.stm
  obtain ⟨v, tg, ln⟩ := Wr hW1
  have m10 : M1 10 b = M 10 b := st1 10 _ (by decide) (by decide)
  have m14 : M1 14 (12 * b + e) = M 14 (12 * b + e) := st1 14 _ (by decide) (by decide)
  have e1' : e < M1 10 b := by omega
  have he := E1.bh.be e0 e1'
  have w1 : EvS c b gm (gm 1 x) (gm 2 x) N M U N1 M1 U1 := s1.wid (fun p a e => by omega)
  have s1' : M1 0 65 = 0 → D = 0 → M1 52 (160 * b + e) = 1 := fun z0 y => by
    rcases (hs z0).2 with r | r
    · exact r
    · exact absurd r.2 (hN y e e0 (by omega))
  simp (disch := omega) only [v, tg, E1.wk.g30, E1.wb, E1.bh.bk.g1]
  refine ⟨trivial, trivial, CT.pu (by omega) (fun d2 hd2 => ct_enumAtH E1.bh hW1 (fun _ _ => ⟨rfl, rfl, ?_⟩) (fun z => absurd ⟨e0, e1'⟩ z))⟩
  simp (disch := omega) only [v, tg, E1.wk.g30, E1.fl, he.en.g3, he.en.md]
  refine ⟨trivial, fun z => ?_, fun z => ⟨fun _ => ⟨trivial, fun le => ?_, fun gt => ?_⟩, fun y => absurd (hc.2 _).1 y⟩⟩
  · refine hk V1 N1 M1 U1 0 hW1 ⟨fun Q hq => pm_val10 hf x0 x1 k a (by omega) (by omega) j0 (by omega) (by rw [g12]; exact hr _ ⟨fun y => absurd y z, fun _ => hq⟩), w1, FA.of n9 n10 st1 s1.2.2.2.1, fun y => absurd y z⟩ (fun y => absurd y z) (fun _ => rfl)
  · have z0 : M1 0 65 = 0 := by omega
    have D1 : D ≠ 0 := fun y => by
      have := E1.bd.wc e e0 e1' (s1' z0 y)
      omega
    have ow1 := ow.st s1 (Or.inl p0) D1 p (by omega) (by omega)
    have pl1 : p < N1 (128 * b + 20) 2 := by have := E1.ln hx; omega
    have sk := EvS.see (y := M1 63 (M1 0 64 - 1)) (x := e) E1 p0 pl1 ow1.1 ow1.2.2 ow1.2.1
    have s62 := (E1.see (y := 0) (x := 0) p0 pl1 ow1.1 ow1.2.2).1
    have d64 : M1 0 64 = D := s1.2.2.1.trans hD
    have cl1 := E1.bh.bk.cl1
    have nz0 := E1.bh.bk.nz0
    have w2 := w1.tr (lo := gm 1 x) (hi := gm 2 x) sk z0 (by omega) (by omega) (by omega) (by omega) (by omega)
    refine CT.im (by omega) (fun d3 hd3 => ct_see E1 hc hW1 (by omega) (by omega) s62 (fun V2 hW2 => hk V2 (nSee N1 b (M1 62 b) (M1 63 (M1 0 64 - 1)) e) (mSee M1 b (M1 62 b) (M1 63 (M1 0 64 - 1)) e) (fun q => if q = p then 1 else U1 q) (-1) hW2 ⟨fun Q hq => ?_, w2, FA.of ?_ ?_ w2.stm w2.2.2.2.1, fun _ y => absurd y D1⟩ (fun _ => ?_) (fun y => ?_)))
    · refine pm_val10 hf x0 x1 k a (by omega) (by omega) j0 (by omega) ?_
      rw [g12]
      exact hr _ ⟨fun _ => ⟨fun _ => pm_sees E1.nw b0 b1 nz0 (by omega) (by omega) (by omega) (by omega) hq, fun y => absurd le y⟩, fun y => absurd z0 y⟩
    · rw [nSee_ne (by omega)]; exact n9
    · rw [nSee_ne (by omega)]; exact n10
    · rw [nSee_ne (by omega)]; exact (hs z0).1
    · rw [mSee_ne (by omega)] at y
      exact absurd z0 y
  · have z0 : M1 0 65 = 0 := by omega
    refine hk V1 N1 M1 U1 j hW1 ⟨fun Q hq => pm_val10 hf x0 x1 k a (by omega) (by omega) j0 (by omega) (by rw [g12]; exact hr _ ⟨fun _ => ⟨fun y => absurd y gt, fun _ => hq⟩, fun y => absurd z0 y⟩), w1, FA.of n9 n10 st1 s1.2.2.2.1, fun _ y _ => ?_⟩ (fun _ => (hs z0).1) (fun y => absurd z0 y)
    intro N2 M2 U2 E2 st2 lx f2 dm2 hdm2 Q hq
    obtain ⟨k2, rfl⟩ : ∃ k, dm2 = k + 2 := ⟨dm2 - 2, by omega⟩
    have ss := st1.tr st2
    have z2 : M2 52 (160 * b + e) = 1 := by
      have y1 := s1' z0 y
      rw [((lx e e0 (by omega) (by omega)).2 (by omega)).1]
      exact y1
    have e2 : e < M2 10 b := by rw [ss 10 _ (by decide) (by decide)]; exact e1
    have wc := E2.bd.wc e e0 e2 z2
    rw [ss 14 _ (by decide) (by decide)] at wc
    refine pm_val10 f2 x0 x1 (by rw [ss 35 _ (by decide) (by decide)]; exact k) (by rw [ss 36 _ (by decide) (by decide)]; exact a) (by omega) (by omega) j0 (by omega) ?_
    rw [g12]
    exact pm_use_ok E2.nw b0 b1 e0 (by omega) (by omega) (by omega) ⟨fun _ => ⟨fun y => absurd y (by omega), fun _ => hq⟩, fun y => absurd f2 y⟩
theorem ct_readHolder (hU : UseOK c S gm b D) (hc : Cn c S) (hW : Wv c S V = N) (E : EvI c N M gm U b) (hD : M 0 64 = D) (hf : M 0 65 = 0) (hN : D = 0 → NU b M) (hx : gm 0 x = 1) (x0 : 0 ≤ x) (x1 : x < 31000) (k : M 35 x = 11) (a : M 36 x = 4 * (12 * b + e) + j) (e0 : 0 ≤ e) (e1 : e < M 10 b) (j0 : 0 ≤ j) (j1 : j < M 17 (12 * b + e)) (q0 : gm 1 x = p) (p0 : 0 ≤ p) (p2 : gm 2 x = p + 1) (ow : OW b gm M U p (p + 1) D) (g3 : 1 ≤ gm 3 x) (t : N 30 3 + 45 * (12 - D) ≤ 950) (hd : 10 * (12 - D) + 6 ≤ (d : Int)) (hdm : 100 * (12 - D) + 7 ≤ (dm : Int)) (hk : ∀ V' N' M' U' z, Wv c S V' = N' → VP c b gm x cst ra dm D N M U N' M' U' z → (M' 0 65 = 0 → N' 30 3 = N 30 3) → (M' 0 65 ≠ 0 → z = 0) → Q z S V') : Ct l G bX10_readHolder Q d 0 0 [vr (c 30), vi (100 + 4 * e + j)] S V := by
  have ne1 := E.bh.bk.ne1
  have nh1 := (E.bh.be e0 e1).en.nh1
  have dp1 := E.dp1
  have dp0 := E.dp0
  have b0 := E.b0
  have b1 := E.b1
  have ei : (100 + 4 * e + j - 100) / 4 = e := by omega
  have hi : (100 + 4 * e + j - 100) % 4 = j := by omega
  obtain ⟨dm', rfl⟩ : ∃ k, dm = k + 2 := ⟨dm - 2, by omega⟩
  refine qX10_readHolder fun _ _ => vX10_readHolder_0 ⟨by rw [(Wr hW).2.1]; exact E.wk.g30, CT.im (by omega) (fun d1 hd1 => hU l G _ d1 (dm' + 1) (100 + 4 * e + j) V N M U hW E hD hf hN (Or.inr ⟨by omega, by omega, by rw [ei, hi]; exact j1⟩) t (by omega) (by omega) (fun V1 N1 M1 U1 hW1 hr s1 n9 n10 hs => ?_))⟩
  have E1 := s1.1
  have st1 := s1.stm
  obtain ⟨v, tg, ln⟩ := Wr hW1
  have m10 : M1 10 b = M 10 b := st1 10 _ (by decide) (by decide)
  have m17 : M1 17 (12 * b + e) = M 17 (12 * b + e) := st1 17 _ (by decide) (by decide)
  have e1' : e < M1 10 b := by omega
  have he := E1.bh.be e0 e1'
  have w1 : EvS c b gm (gm 1 x) (gm 2 x) N M U N1 M1 U1 := s1.wid (fun p a e => by omega)
  have s1' : M1 0 65 = 0 → D = 0 → M1 52 (160 * b + (100 + 4 * e + j)) = 1 := fun z0 y => by
    rcases (hs z0).2 with r | r
    · exact r
    · exact absurd r.2 (hN y _ (by omega) (by omega))
  simp (disch := omega) only [v, tg, E1.wk.g30, E1.wb, E1.bh.bk.g1, E1.fl]
  refine ⟨trivial, fun z0 => ⟨trivial, CT.pu (by omega) (fun d2 hd2 => ct_stateOfE E1 hW1 (by omega) (by omega) ⟨rfl, rfl, ?_⟩)⟩, fun z => ?_⟩
  · refine ⟨fun n3 => ⟨by rw [tg]; exact E1.wk.g30, CT.pu (by omega) (fun d3 hd3 => ct_enumOfItem (by omega) (fun y => by omega) (fun _ => ⟨rfl, rfl, ?_⟩))⟩, fun n3 => ?_⟩
    · rw [ei, v _ _ (by decide), E1.wb]
      refine ⟨by rw [tg]; exact E1.bh.bk.g1, CT.pu (by omega) (fun d4 hd4 => ct_enumAtH E1.bh hW1 (fun _ _ => ⟨rfl, rfl, CT.pu (by omega) (fun d5 hd5 => ct_holderOfItem (by omega) (fun y => by omega) (fun _ => ⟨rfl, rfl, fun y => absurd y (hc.2 _).1, fun _ => ⟨fun _ => ?_, fun y => by omega⟩⟩))⟩) (fun z => absurd ⟨e0, e1'⟩ z))⟩
      rw [hi]
      simp (disch := omega) only [v, tg, ln, he.en.g3, he.en.r13, he.en.g15, he.en.n15]
      refine ⟨trivial, trivial, j0, by omega, ?_⟩
      have w1s : M1 52 (160 * b + (100 + 4 * e + j)) = 1 := by
        rcases (hs z0).2 with r | r
        · exact r
        · exact absurd r.1 n3
      rw [E1.bd.ho e j e0 e1' j0 (by omega) w1s]
      refine hk V1 N1 M1 U1 _ hW1 ⟨fun Q hq => pm_val11 hf x0 x1 k a b0 b1 e0 (by omega) j0 (by omega) hr E1.nw (fun _ _ => hq) (fun _ y => by omega) (fun y => absurd z0 y), w1, FA.of n9 n10 st1 s1.2.2.2.1, fun _ y _ => ?_⟩ (fun _ => (hs z0).1) (fun y => absurd z0 y)
      intro N2 M2 U2 E2 st2 lx f2 dm2 hdm2 Q hq
      obtain ⟨k2, rfl⟩ : ∃ k, dm2 = k + 2 := ⟨dm2 - 2, by omega⟩
      have ss := st1.tr st2
      have lz := (lx (100 + 4 * e + j) (by omega) (by omega) (by omega)).2 (by omega)
      have z2 : M2 52 (160 * b + (100 + 4 * e + j)) = 1 := by rw [lz.1]; exact w1s
      have y57 := lz.2.2 (by omega)
      rw [show 48 * b + (100 + 4 * e + j - 100) = 4 * (12 * b + e) + j from by omega] at y57
      refine pm_val11 f2 x0 x1 (by rw [ss 35 _ (by decide) (by decide)]; exact k) (by rw [ss 36 _ (by decide) (by decide)]; exact a) b0 b1 e0 (by omega) j0 (by omega) (M1 := M2) (fun Q hq => pm_use_ok E2.nw b0 b1 (by omega) (by omega) (by omega) (by omega) hq) E2.nw (fun _ _ => by rw [y57]; exact hq) (fun _ y => by omega) (fun y => absurd f2 y)
    · have n3' : M1 52 (160 * b + (100 + 4 * e + j)) = 3 := by omega
      have D1 : D ≠ 0 := fun y => by
        have := s1' z0 y
        omega
      have ow1 := ow.st s1 (Or.inl p0) D1 p (by omega) (by omega)
      have pl1 : p < N1 (128 * b + 20) 2 := by have := E1.ln hx; omega
      have sk := EvS.see (y := M1 63 (M1 0 64 - 1)) (x := 100 + 4 * e + j) E1 p0 pl1 ow1.1 ow1.2.2 ow1.2.1
      have s62 := (E1.see (y := 0) (x := 0) p0 pl1 ow1.1 ow1.2.2).1
      have d64 : M1 0 64 = D := s1.2.2.1.trans hD
      have cl1 := E1.bh.bk.cl1
      have nz0 := E1.bh.bk.nz0
      have w2 := w1.tr (lo := gm 1 x) (hi := gm 2 x) sk z0 (by omega) (by omega) (by omega) (by omega) (by omega)
      refine ⟨by rw [tg]; exact E1.wk.g30, CT.im (by omega) (fun d3 hd3 => ct_see E1 hc hW1 (by omega) (by omega) s62 (fun V2 hW2 => hk V2 (nSee N1 b (M1 62 b) (M1 63 (M1 0 64 - 1)) (100 + 4 * e + j)) (mSee M1 b (M1 62 b) (M1 63 (M1 0 64 - 1)) (100 + 4 * e + j)) (fun q => if q = p then 1 else U1 q) 0 hW2 ⟨fun Q hq => ?_, w2, FA.of ?_ ?_ w2.stm w2.2.2.2.1, fun _ y => absurd y D1⟩ (fun _ => ?_) (fun y => ?_)))⟩
      · exact pm_val11 hf x0 x1 k a b0 b1 e0 (by omega) j0 (by omega) hr E1.nw (fun _ y => absurd n3' y) (fun _ _ => pm_sees E1.nw b0 b1 nz0 (by omega) (by omega) (by omega) (by omega) hq) (fun y => absurd z0 y)
      · rw [nSee_ne (by omega)]; exact n9
      · rw [nSee_ne (by omega)]; exact n10
      · rw [nSee_ne (by omega)]; exact (hs z0).1
      · rfl
  · exact hk V1 N1 M1 U1 0 hW1 ⟨fun Q hq => pm_val11 hf x0 x1 k a b0 b1 e0 (by omega) j0 (by omega) hr E1.nw (fun y => absurd y z) (fun y => absurd y z) (fun _ => hq), w1, FA.of n9 n10 st1 s1.2.2.2.1, fun y => absurd y z⟩ (fun y => absurd y z) (fun _ => rfl)
theorem ct_readEntry {t r : Int} (hc : Cn c S) (hW : Wv c S V = N) (E : EvI c N M gm U b) (hd : 2 ≤ d) (e0 : 0 ≤ e) (e1 : e < M 10 b) (t0 : 0 ≤ t) (t1 : t < M 15 (12 * b + e)) (h1 : r < 0 ∨ M 24 (4 * (12 * b + e) + t) ≤ r → ∀ V', Wv c S V' = nFail N 4 (-1) → Q 0 S V') (h2 : 0 ≤ r → r < M 24 (4 * (12 * b + e) + t) → M 55 (4 * (12 * b + e) + t) ≤ r → M 0 64 ≠ 0 ∧ M 62 b < N (128 * b + 20) 2 ∧ ∀ V', Wv c S V' = nSee N b (M 62 b) (M 63 (M 0 64 - 1)) e → Q 0 S V') (h3 : 0 ≤ r → r < M 55 (4 * (12 * b + e) + t) → Q (M 56 (12 * (4 * (12 * b + e) + t) + r)) S V) : Ct l G bX10_readEntry Q d 0 0 [vr (c 30), vi e, vi t, vi r] S V := by
  have he := E.bh.be e0 e1
  have ht := he.tb t0 t1
  have ne1 := ht.ne1
  have th1 := ht.th1
  obtain ⟨v, tg, ln⟩ := Wr hW
  have tk : S.1 (c 30) = 11 := by rw [tg]; exact E.wk.g30
  refine qX10_readEntry fun _ _ _ _ => vX10_readEntry_0 ⟨tk, ?_⟩
  rw [v _ _ (by decide), E.wb]
  refine ⟨by rw [tg]; exact E.bh.bk.g1, CT.pu (by omega) (fun d2 hd2 => ct_enumAtH E.bh hW (fun _ _ => ⟨rfl, rfl, fun _ => ⟨by rw [tg]; exact he.en.g3, CT.pu (by omega) (fun d3 hd3 => ct_tableAt he hW (fun _ _ => ⟨rfl, rfl, fun y => absurd y (hc.2 _).1, fun _ => ⟨fun lt => ⟨tk, CT.im (by omega) (fun d4 hd4 => ct_fail E hc hW (h1 (Or.inl lt)))⟩, fun ge => ?_⟩⟩) (fun z => absurd ⟨t0, t1⟩ z))⟩, fun z => absurd (hc.2 _).1 z⟩) (fun z => absurd ⟨e0, e1⟩ z))⟩
  simp (disch := omega) only [v, tg, ln, ht.g9, ht.ne, ht.th, ht.r2, ht.g11, ht.n11, E.wk.g30]
  refine ⟨trivial, fun lt => ⟨fun le => ⟨trivial, CT.im (by omega) (fun d4 hd4 => ?_)⟩, fun gt => ⟨trivial, by omega, by omega, ?_⟩⟩, fun ge2 => ⟨trivial, CT.im (by omega) (fun d4 hd4 => ct_fail E hc hW (h1 (Or.inr (by omega))))⟩⟩
  · obtain ⟨y1, y2, y3⟩ := h2 (by omega) lt le
    exact ct_see E hc hW (by omega) y1 y2 y3
  · rw [ht.en r (by omega) (by omega)]
    exact h3 (by omega) (by omega)
end EV4
