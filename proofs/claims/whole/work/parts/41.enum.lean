/-! ===== evaluation: an enum is made, a holder filled ===== -/
def Full (b e : Int) (M : Mem) : Prop := M 53 (12 * b + e) = M 14 (12 * b + e) ∧ ∀ t, 0 ≤ t → t < M 15 (12 * b + e) → M 55 (4 * (12 * b + e) + t) = M 24 (4 * (12 * b + e) + t)
section EV10
variable {l : Launch} {G : GT} {Q : Int → Sh → Mem → Prop} {c : Int → Int} {S : Sh} {gm N0 M0 : Mem} {U0 : Int → Int} {b D T e : Int} {d dm : Nat}
theorem me_65 (hV : ∀ n, Vst c S gm b D 2 n) (hc : Cn c S) (D0 : D ≠ 0) (hT : T + 45 * (12 - D) ≤ 912) (hD : M0 0 64 = D) (e0 : 0 ≤ e) (hd : 10 * (12 - D) + 10 ≤ (d : Int)) (hdm : 84 + 100 * (12 - D) ≤ (dm : Int)) : ∀ (n : Nat) (k : Int) (V N M : Mem) (U : Int → Int), Wv c S V = N → MS c b gm e T N0 M0 U0 N M U → M 0 65 = 0 → e < M 10 b → 0 ≤ k → M 16 (12 * b + e) - k = n → Full b e M → RU gm e (1000 * e + 200 + k) U → (∀ V' N' M' U', Wv c S V' = N' → (∀ Qr : Int → Mem → Prop, Qr 0 M' → PM dm n_startsEnum_173 [12 * b + e, k] M Qr) → MS c b gm e T N0 M0 U0 N' M' U' → (M' 0 65 = 0 → Full b e M') → Q 0 S V') → XJ l G bX10_makeEnum Q d 65 (ML c (12 * b + e) k) [] S V 0 0 := by
  intro n
  induction n with
  | zero =>
    intro k V N M U hW h hf e1 k0 hn fu ru hk
    have E := h.1
    have he := E.bh.be e0 e1
    have ne1 := E.bh.bk.ne1
    have b0 := E.b0
    have b1 := E.b1
    obtain ⟨dm', rfl⟩ : ∃ k, dm = k + 1 := ⟨dm - 1, by have := E.dp1; have := h.2.2.1; omega⟩
    refine vX10_makeEnum_65 ?_
    have q := hk V N M U hW (fun Qr q => st_startsEnum_173 ⟨by omega, by omega, fun _ => q, fun z => absurd (by omega) z⟩) h (fun _ => fu)
    obtain ⟨v, tg, ln⟩ := Wr hW
    simp (disch := omega) only [v, tg, he.en.g3, he.en.nk]
    exact ⟨trivial, fun _ => q, fun z => absurd (by omega) z⟩
  | succ n ih =>
    intro k V N M U hW h hf e1 k0 hn fu ru hk
    have E := h.1
    have he := E.bh.be e0 e1
    have nk1 := he.en.nk1
    have nc1 := he.en.nc1
    have nt1 := he.en.nt1
    have ne1 := E.bh.bk.ne1
    have b0 := E.b0
    have b1 := E.b1
    have dp1 := E.dp1
    have h64 : M 0 64 = D := h.2.2.1.trans hD
    have st3 := h.2.2.2.2.2.1
    have rt := (E.bt e e0 e1).ck k k0 (by omega)
    have T3 := (h.2.2.2.2.2.2.2.2 hf).1
    obtain ⟨dm', rfl⟩ : ∃ k, dm = k + 1 := ⟨dm - 1, by omega⟩
    refine vX10_makeEnum_65 ?_
    obtain ⟨v, tg, ln⟩ := Wr hW
    simp (disch := omega) only [v, tg, ln, he.en.g3, he.en.nk, he.en.r9, he.en.g12, he.en.n12, E.wk.g30, E.fl, hf]
    refine ⟨trivial, fun z => absurd z (by omega), fun _ => ⟨trivial, fun z => absurd rfl z, fun _ => ⟨trivial, k0, by omega, CT.im (by omega) (fun d1 hd1 => ct_wo (dm := dm') (ra := -1) (cst := -1) hV hc hW E h64 hf (fun z => absurd z D0) rt (by decide) (fun z => absurd z (by decide)) ⟨fun z => absurd z (by decide), fun z => absurd z (by decide)⟩ (rt.ow ru (by omega) (by omega) (by omega)) (by omega) (by omega) (by omega) (fun V1 N1 M1 U1 z hW1 vp t1' zf => ?_))⟩⟩⟩
    obtain ⟨run, s1, fa, pv⟩ := vp
    have E1 := s1.1
    have n910 := fa.1 (by have := rt.2.2.1; omega)
    have hs : ∀ p, gm 1 (M 26 (3 * (12 * b + e) + k)) ≤ p → p < gm 2 (M 26 (3 * (12 * b + e) + k)) → gm 5 p = 1000 * e + 200 + k := rt.2.2.2.2
    have h1 := h.step e0 (by omega) hf s1 (fun p a q => by have := hs p a q; omega) n910.1 n910.2 t1'
    obtain ⟨v1, tg1, ln1⟩ := Wr hW1
    have ss := s1.stm
    have e1' : e < M1 10 b := by rw [ss 10 _ (by decide) (by decide)]; exact e1
    have ld := ((s1.2.2.2.1 e e0 (by omega) (by omega)).2 (by omega)).2.1 (by omega)
    have fu1 : Full b e M1 := by
      refine ⟨?_, fun t t0 t1 => ?_⟩
      · rw [ld.1, ss 14 _ (by decide) (by decide)]; exact fu.1
      · rw [ss 15 _ (by decide) (by decide)] at t1
        rw [ld.2.2.1 t t0 (by omega), ss 24 _ (by decide) (by decide)]
        exact fu.2 t t0 t1
    simp (disch := omega) only [v1, tg1, E1.wk.g30, E1.fl]
    refine ⟨trivial, fun nz => ⟨by omega, by omega, ?_⟩, fun z0 => ⟨fun zn => ⟨by omega, by omega, ?_⟩, fun zz => CT.im (by omega) (fun d2 hd2 => ct_fail E1 hc hW1 (fun V2 hW2 => ⟨by omega, by omega, ?_⟩))⟩⟩
    · have f1 : M1 0 65 = 1 := by have := E1.f01; omega
      exact me_65f hW1 E1 f1 e0 e1' (hk V1 N1 M1 U1 hW1 (fun Qr q => st_startsEnum_173 ⟨by omega, by omega, fun z => absurd z (by omega), fun _ => ⟨by omega, by omega, by omega, by omega, by omega, by omega, run _ ⟨fun z => absurd z nz, fun _ => q⟩⟩⟩) h1 (fun q => absurd q nz))
    · have f1 : M1 0 65 = 0 := by omega
      have q16 : M1 16 (12 * b + e) = M 16 (12 * b + e) := ss 16 _ (by decide) (by decide)
      refine ih (k + 1) V1 N1 M1 U1 hW1 h1 f1 e1' (by omega) (by omega) fu1 (((ru.le (by omega)).st s1 hs (by omega) (by omega)).le (cur := 1000 * e + 200 + k + 1) (by omega)) (fun V2 N2 M2 U2 hW2 r2 => hk V2 N2 M2 U2 hW2 (fun Qr q => st_startsEnum_173 ⟨by omega, by omega, fun z => absurd z (by omega), fun _ => ⟨by omega, by omega, by omega, by omega, by omega, by omega, run _ ⟨fun _ => ⟨fun _ => ⟨by omega, by omega, r2 Qr q⟩, fun z => absurd zn z⟩, fun z => absurd f1 z⟩⟩⟩))
    · have f1 : M1 0 65 = 0 := by omega
      obtain ⟨dm2, rfl⟩ : ∃ k, dm' = k + 1 := ⟨dm' - 1, by omega⟩
      have sf := EvS.fail (lo := 0) (hi := 0) (x := 3) (y := -1) E1
      have h2 := h1.step e0 (by omega) f1 sf (fun p a q => by omega) (nFail_ne (by omega) (by omega) (by omega)) (nFail_ne (by omega) (by omega) (by omega)) (fun q => absurd (mFail_65.symm.trans q) (by decide))
      refine me_65f hW2 h2.1 mFail_65 e0 (by rw [mFail_ne (by omega) (by omega) (by omega)]; exact e1') (hk V2 _ _ U1 hW2 (fun Qr q => st_startsEnum_173 ⟨by omega, by omega, fun z => absurd z (by omega), fun _ => ⟨by omega, by omega, by omega, by omega, by omega, by omega, run _ ⟨fun _ => ⟨fun z => absurd z zz, fun _ => pm_failing q⟩, fun z => absurd f1 z⟩⟩⟩) h2 (fun q => absurd (mFail_65.symm.trans q) (by decide)))
theorem me_31 (hV : ∀ n, Vst c S gm b D 2 n) (hc : Cn c S) (D0 : D ≠ 0) (hT : T + 45 * (12 - D) ≤ 912) (hD : M0 0 64 = D) (e0 : 0 ≤ e) (hd : 10 * (12 - D) + 11 ≤ (d : Int)) (hdm : 84 + 100 * (12 - D) ≤ (dm : Int)) : ∀ (n : Nat) (t : Int) (V N M : Mem) (U : Int → Int), Wv c S V = N → MS c b gm e T N0 M0 U0 N M U → M 0 65 = 0 → e < M 10 b → 0 ≤ t → M 15 (12 * b + e) - t = n → M 53 (12 * b + e) = M 14 (12 * b + e) → (∀ s, 0 ≤ s → s < 4 → s < M 15 (12 * b + e) → t ≤ s → M 55 (4 * (12 * b + e) + s) = 0) → (∀ s, 0 ≤ s → s < t → M 55 (4 * (12 * b + e) + s) = M 24 (4 * (12 * b + e) + s)) → RU gm e (1000 * e + 100 + 12 * t) U → (∀ V' N' M' U', Wv c S V' = N' → (∀ Qr : Int → Mem → Prop, Qr 0 M' → PM dm n_startsEnum_83 [12 * b + e, 4 * (12 * b + e) + t] M Qr) → MS c b gm e T N0 M0 U0 N' M' U' → (M' 0 65 = 0 → Full b e M') → Q 0 S V') → XJ l G bX10_makeEnum Q d 31 (ML c (12 * b + e) t) [] S V 0 0 := by
  intro n
  induction n with
  | zero =>
    intro t V N M U hW h hf e1 t0 hn mc m0 m1 ru hk
    have E := h.1
    have he := E.bh.be e0 e1
    have nt1 := he.en.nt1
    have nk0 := he.en.nk0
    have ne1 := E.bh.bk.ne1
    have b0 := E.b0
    have b1 := E.b1
    obtain ⟨dm', rfl⟩ : ∃ k, dm = k + 1 := ⟨dm - 1, by have := E.dp1; have := h.2.2.1; omega⟩
    have q := me_65 (l := l) (G := G) (Q := Q) (d := d) hV hc D0 hT hD e0 (by omega) hdm (M 16 (12 * b + e)).toNat 0 V N M U hW h hf e1 (by decide) (by omega) ⟨mc, fun s s0 s1 => m1 s s0 (by omega)⟩ (ru.le (by omega)) (fun V2 N2 M2 U2 hW2 r2 => hk V2 N2 M2 U2 hW2 (fun Qr q => st_startsEnum_83 ⟨by omega, by omega, by omega, by omega, by omega, by omega, fun _ => r2 Qr q, fun z => absurd (by omega) z⟩))
    refine vX10_makeEnum_31 ?_
    obtain ⟨v, tg, ln⟩ := Wr hW
    simp (disch := omega) only [v, tg, he.en.g3, he.en.nt]
    exact ⟨trivial, fun _ => q, fun z => absurd (by omega) z⟩
  | succ n ih =>
    intro t V N M U hW h hf e1 t0 hn mc m0 m1 ru hk
    have E := h.1
    have he := E.bh.be e0 e1
    have nt1 := he.en.nt1
    have ht := he.tb t0 (by omega)
    have ne0 := ht.ne0
    have ne1 := E.bh.bk.ne1
    have b0 := E.b0
    have b1 := E.b1
    have dp1 := E.dp1
    have h64 := h.2.2.1
    obtain ⟨dm', rfl⟩ : ∃ k, dm = k + 1 := ⟨dm - 1, by omega⟩
    refine vX10_makeEnum_31 ?_
    obtain ⟨v, tg, ln⟩ := Wr hW
    simp (disch := omega) only [v, tg, ln, he.en.g3, he.en.nt, he.en.r7, he.en.g8, he.en.n8, he.en.rt, E.wk.g30, E.fl, hf]
    refine ⟨trivial, fun z => absurd z (by omega), fun _ => ⟨trivial, fun z => absurd rfl z, fun _ => ⟨trivial, t0, by omega, CT.im (by omega) (fun d1 hd1 => qX10_fillTable fun _ _ _ => vX10_fillTable_0 (ft_2 (dm := dm' + 1) hV hc D0 hT hD e0 t0 (by omega) hdm (M 24 (4 * (12 * b + e) + t)).toNat 0 V N M U hW h hf e1 (by omega) (by decide) (by omega) (m0 t t0 (by omega) (by omega) (by omega)) (ru.le (by omega)) (fun V1 N1 M1 U1 hW1 reach h1 f1 a1 a2 a3 a4 => ?_) (fun V1 N1 M1 U1 hW1 run h1 f1 => ?_)))⟩⟩⟩
    · have s0 := h.stm
      have s1 := h1.stm
      have ss : ∀ k j, 1 ≤ k → k < 52 → M1 k j = M k j := fun k j a q => (s1 k j a q).trans (s0 k j a q).symm
      have q10 : M1 10 b = M 10 b := ss 10 _ (by decide) (by decide)
      have q15 : M1 15 (12 * b + e) = M 15 (12 * b + e) := ss 15 _ (by decide) (by decide)
      have q14 : M1 14 (12 * b + e) = M 14 (12 * b + e) := ss 14 _ (by decide) (by decide)
      refine ⟨by omega, by omega, ih (t + 1) V1 N1 M1 U1 hW1 h1 f1 (by omega) (by omega) (by omega) (by omega) (fun s s0 s1 s2 s3 => ?_) (fun s s0 s1 => ?_) (a4.le (by omega)) (fun V2 N2 M2 U2 hW2 r2 => hk V2 N2 M2 U2 hW2 (fun Qr q => st_startsEnum_83 ⟨by omega, by omega, by omega, by omega, by omega, by omega, fun z => absurd z (by omega), fun _ => reach Qr (by rw [show 4 * (12 * b + e) + t + 1 = 4 * (12 * b + e) + (t + 1) from by omega]; exact r2 Qr q)⟩))⟩
      · rw [a2 s s0 s1 (by omega)]
        exact m0 s s0 s1 (by omega) (by omega)
      · by_cases y : s = t
        · rw [y]; exact a3
        · rw [a2 s s0 (by omega) y, ss 24 _ (by decide) (by decide)]
          exact m1 s s0 (by omega)
    · have s0 := h.stm
      have s1 := h1.stm
      have q10 : M1 10 b = M 10 b := (s1 10 _ (by decide) (by decide)).trans (s0 10 _ (by decide) (by decide)).symm
      exact ⟨by omega, by omega, me_31f hW1 h1.1 f1 e0 (by omega) (hk V1 N1 M1 U1 hW1 (fun Qr q => st_startsEnum_83 ⟨by omega, by omega, by omega, by omega, by omega, by omega, fun z => absurd z (by omega), fun _ => run Qr q⟩) h1 (fun q => by omega))⟩
theorem ct_makeEnum {V N M : Mem} {U : Int → Int} (hV : ∀ n, Vst c S gm b D 2 n) (hc : Cn c S) (D0 : D ≠ 0) (hT : T + 45 * (12 - D) ≤ 912) (hW : Wv c S V = N) (E : EvI c N M gm U b) (hD : M 0 64 = D) (hf : M 0 65 = 0) (e0 : 0 ≤ e) (e1 : e < M 10 b) (st : M 52 (160 * b + e) = 3) (t3 : N 30 3 = T) (z53 : M 53 (12 * b + e) = 0) (z55 : ∀ t, 0 ≤ t → t < M 15 (12 * b + e) → M 55 (4 * (12 * b + e) + t) = 0) (ru : RU gm e (1000 * e) U) (hd : 10 * (12 - D) + 11 ≤ (d : Int)) (hdm : 84 + 100 * (12 - D) ≤ (dm : Int)) (hk : ∀ V' N' M' U', Wv c S V' = N' → RunM dm n_startsEnum_0 [12 * b + e] M 0 M' → MS c b gm e T N M U N' M' U' → (M' 0 65 = 0 → Full b e M') → Q 0 S V') : Ct l G bX10_makeEnum Q d 0 0 [vr (c 30), vr (c (128 * (12 * b + e) + 3))] S V := by
  have nt0 := (E.bh.be e0 e1).en.nt0
  have nc0 := (E.bh.be e0 e1).en.nc0
  have dp1 := E.dp1
  obtain ⟨dm', rfl⟩ : ∃ k, dm = k + 1 := ⟨dm - 1, by omega⟩
  refine qX10_makeEnum fun _ _ => vX10_makeEnum_0 (me_2 (dm := dm' + 1) hV hc D0 hT hD e0 hd hdm (M 14 (12 * b + e)).toNat 0 V N M U hW (MS.rf E st t3) hf e1 (by decide) (by omega) z53 (fun t t0 _ t1 => z55 t t0 t1) (ru.le (by omega)) (fun V1 N1 M1 U1 hW1 reach h1 f1 mc m0 ru1 => ?_) (fun V1 N1 M1 U1 hW1 run h1 f1 => hk V1 N1 M1 U1 hW1 (fun Q hq => st_startsEnum_0 (run Q hq)) h1 (fun q => by omega)))
  have s1 := h1.stm
  have q10 : M1 10 b = M 10 b := s1 10 _ (by decide) (by decide)
  have q15 : M1 15 (12 * b + e) = M 15 (12 * b + e) := s1 15 _ (by decide) (by decide)
  exact me_31 (dm := dm' + 1) hV hc D0 hT hD e0 hd hdm (M1 15 (12 * b + e)).toNat 0 V1 N1 M1 U1 hW1 h1 f1 (by omega) (by decide) (by omega) mc (fun s s0 s1 s2 _ => m0 s s0 s1 s2) (fun s s0 s1 => by omega) (ru1.le (by omega)) (fun V2 N2 M2 U2 hW2 r2 h2 fu => hk V2 N2 M2 U2 hW2 (fun Q hq => st_startsEnum_0 (reach Q (by rw [show 4 * (12 * b + e) = 4 * (12 * b + e) + 0 from by omega]; exact r2 Q hq))) h2 fu)
theorem ct_fillHolder {V N M : Mem} {U : Int → Int} {j : Int} (hV : ∀ n, Vst c S gm b D 2 n) (hc : Cn c S) (D0 : D ≠ 0) (hT : T + 45 * (12 - D) ≤ 912) (hW : Wv c S V = N) (E : EvI c N M gm U b) (hD : M 0 64 = D) (hf : M 0 65 = 0) (e0 : 0 ≤ e) (e1 : e < M 10 b) (j0 : 0 ≤ j) (j1 : j < M 17 (12 * b + e)) (st : M 52 (160 * b + (100 + 4 * e + j)) = 3) (t3 : N 30 3 = T) (ru : RU gm (100 + 4 * e + j) (1000 * (100 + 4 * e + j)) U) (hd : 10 * (12 - D) + 11 ≤ (d : Int)) (hdm : 84 + 100 * (12 - D) ≤ (dm : Int)) (hk : ∀ V' N' M' U', Wv c S V' = N' → RunM dm n_startsHolder_0 [4 * (12 * b + e) + j] M 0 M' → MS c b gm (100 + 4 * e + j) T N M U N' M' U' → (M' 0 65 = 0 → N' (128 * (12 * b + e) + 15) j = M' 57 (4 * (12 * b + e) + j)) → Q 0 S V') : Ct l G bX10_fillHolder Q d 0 0 [vr (c 30), vr (c (128 * (12 * b + e) + 3)), vi j] S V := by
  have he := E.bh.be e0 e1
  have nh1 := he.en.nh1
  have ne1 := E.bh.bk.ne1
  have b0 := E.b0
  have b1 := E.b1
  have dp1 := E.dp1
  have rt := (E.bt e e0 e1).ho j j0 j1
  have h := MS.rf (T := T) E st t3
  obtain ⟨dm', rfl⟩ : ∃ k, dm = k + 1 := ⟨dm - 1, by omega⟩
  obtain ⟨v, tg, ln⟩ := Wr hW
  refine qX10_fillHolder fun _ _ _ => vX10_fillHolder_0 ?_
  simp (disch := omega) only [v, tg, ln, he.en.g3, he.en.nh, he.en.r12, he.en.g14, he.en.n14, he.en.r13, E.wk.g30]
  refine ⟨fun z => absurd z (by omega), fun _ => ⟨trivial, fun z => absurd z (by omega), fun _ => ⟨trivial, j0, by omega, trivial, CT.im (by omega) (fun d1 hd1 => ct_wo (dm := dm') (ra := -1) (cst := -1) hV hc hW E hD hf (fun z => absurd z D0) rt (by decide) (fun z => absurd z (by decide)) ⟨fun z => absurd z (by decide), fun z => absurd z (by decide)⟩ (rt.ow ru (by omega) (by omega) (by omega)) (by omega) (by omega) (by omega) (fun V1 N1 M1 U1 z hW1 vp t1' zf => ?_))⟩⟩⟩
  obtain ⟨run, s1, fa, pv⟩ := vp
  have E1 := s1.1
  have n910 := fa.1 (by have := rt.2.2.1; omega)
  have hs : ∀ p, gm 1 (M 28 (4 * (12 * b + e) + j)) ≤ p → p < gm 2 (M 28 (4 * (12 * b + e) + j)) → gm 5 p = 1000 * (100 + 4 * e + j) := rt.2.2.2.2
  have h1 := h.step (by omega) (by omega) hf s1 (fun p a q => by have := hs p a q; omega) n910.1 n910.2 t1'
  obtain ⟨v1, tg1, ln1⟩ := Wr hW1
  have ss := s1.stm
  have e1' : e < M1 10 b := by rw [ss 10 _ (by decide) (by decide)]; exact e1
  have j1' : j < M1 17 (12 * b + e) := by rw [ss 17 _ (by decide) (by decide)]; exact j1
  have he1 := E1.bh.be e0 e1'
  have st31 := h1.2.2.2.2.2.1
  simp (disch := omega) only [tg1, ln1, he1.en.g15, he1.en.n15]
  have hW2 : Wv c S (up V1 (c (128 * (12 * b + e) + 15)) j z) = nHol N1 (12 * b + e) j z := by rw [Wv_up hc j0, hW1]; rfl
  refine ⟨trivial, j0, by omega, ?_⟩
  rcases E1.f01 with f1 | f1
  · refine hk _ _ (mHol M1 (12 * b + e) j z) U1 hW2 (fun Q hq => st_startsHolder_0 ⟨by omega, by omega, run _ ⟨fun q => absurd f1 q, fun _ => ⟨by omega, by omega, hq⟩⟩⟩) (h1.upd (E1.hol e0 e1' j0 j1' st31) (EvF.hol b0 e0 (by omega) j0 (by omega)) (fun _ => mHol_ne (by omega)) (fun _ => mHol_ne (by omega)) (Lx.hol j0 (by omega)) (fun L j hL => nHol_ne (by omega))) (fun _ => ?_)
    rw [nHol_0, mHol_0]
  · have f1' : M1 0 65 ≠ 0 := by omega
    exact hk _ _ M1 U1 hW2 (fun Q hq => st_startsHolder_0 ⟨by omega, by omega, run _ ⟨fun _ => hq, fun q => absurd f1' q⟩⟩) (h1.upd (E1.hoF e0 e1' j0 j1' st31) (EvF.hoF b0 e0 (by omega) j0 (by omega)) (fun _ => rfl) (fun _ => rfl) Lx.rf (fun L j hL => nHol_ne (by omega))) (fun q => absurd q f1')
end EV10
