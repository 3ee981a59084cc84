/-! ===== evaluation: an enum is made, the loops ===== -/
section EV9
variable {l : Launch} {G : GT} {Q : Int → Sh → Mem → Prop} {c : Int → Int} {S : Sh} {gm N0 M0 : Mem} {U0 : Int → Int} {b D T e : Int} {d dm : Nat}
abbrev ML (c : Int → Int) (g i : Int) : List AV := [vr (c 30), vr (c (128 * g + 3)), vi i, vu]
theorem me_65f {V N M : Mem} {U : Int → Int} {i : Int} (hW : Wv c S V = N) (E : EvI c N M gm U b) (f : M 0 65 = 1) (e0 : 0 ≤ e) (e1 : e < M 10 b) (h : Q 0 S V) : XJ l G bX10_makeEnum Q d 65 (ML c (12 * b + e) i) [] S V 0 0 := vX10_makeEnum_65 <| by
  obtain ⟨v, tg, ln⟩ := Wr hW
  simp (disch := omega) only [v, tg, (E.bh.be e0 e1).en.g3, E.wk.g30, E.fl, f]
  exact ⟨trivial, fun _ => h, fun _ => ⟨trivial, fun _ => h, fun z => absurd (by decide) z⟩⟩
theorem me_31f {V N M : Mem} {U : Int → Int} {i : Int} (hW : Wv c S V = N) (E : EvI c N M gm U b) (f : M 0 65 = 1) (e0 : 0 ≤ e) (e1 : e < M 10 b) (h : Q 0 S V) : XJ l G bX10_makeEnum Q d 31 (ML c (12 * b + e) i) [] S V 0 0 := vX10_makeEnum_31 <| by
  have k := me_65f (l := l) (G := G) (d := d) (i := 0) hW E f e0 e1 h
  obtain ⟨v, tg, ln⟩ := Wr hW
  simp (disch := omega) only [v, tg, (E.bh.be e0 e1).en.g3, E.wk.g30, E.fl, f]
  exact ⟨trivial, fun _ => k, fun _ => ⟨trivial, fun _ => k, fun z => absurd (by decide) z⟩⟩
theorem me_2f {V N M : Mem} {U : Int → Int} {i : Int} (hW : Wv c S V = N) (E : EvI c N M gm U b) (f : M 0 65 = 1) (e0 : 0 ≤ e) (e1 : e < M 10 b) (h : Q 0 S V) : XJ l G bX10_makeEnum Q d 2 (ML c (12 * b + e) i) [] S V 0 0 := vX10_makeEnum_2 <| by
  have k := me_31f (l := l) (G := G) (d := d) (i := 0) hW E f e0 e1 h
  obtain ⟨v, tg, ln⟩ := Wr hW
  simp (disch := omega) only [v, tg, (E.bh.be e0 e1).en.g3, E.wk.g30, E.fl, f]
  exact ⟨trivial, fun _ => k, fun _ => ⟨trivial, fun _ => k, fun z => absurd (by decide) z⟩⟩
theorem me_2 (hV : ∀ n, Vst c S gm b D 2 n) (hc : Cn c S) (D0 : D ≠ 0) (hT : T + 45 * (12 - D) ≤ 912) (hD : M0 0 64 = D) (e0 : 0 ≤ e) (hd : 10 * (12 - D) + 11 ≤ (d : Int)) (hdm : 84 + 100 * (12 - D) ≤ (dm : Int)) : ∀ (n : Nat) (i : Int) (V N M : Mem) (U : Int → Int), Wv c S V = N → MS c b gm e T N0 M0 U0 N M U → M 0 65 = 0 → e < M 10 b → 0 ≤ i → M 14 (12 * b + e) - i = n → M 53 (12 * b + e) = i → (∀ t, 0 ≤ t → t < 4 → t < M 15 (12 * b + e) → M 55 (4 * (12 * b + e) + t) = 0) → RU gm e (1000 * e + i) U → (∀ V' N' M' U', Wv c S V' = N' → (∀ Qr : Int → Mem → Prop, PM dm n_startsEnum_83 [12 * b + e, 4 * (12 * b + e)] M' Qr → PM dm n_startsEnum_2 [12 * b + e, i] M Qr) → MS c b gm e T N0 M0 U0 N' M' U' → M' 0 65 = 0 → M' 53 (12 * b + e) = M' 14 (12 * b + e) → (∀ t, 0 ≤ t → t < 4 → t < M' 15 (12 * b + e) → M' 55 (4 * (12 * b + e) + t) = 0) → RU gm e (1000 * e + 100) U' → XJ l G bX10_makeEnum Q d 31 (ML c (12 * b + e) 0) [] S V' 0 0) → (∀ V' N' M' U', Wv c S V' = N' → (∀ Qr : Int → Mem → Prop, Qr 0 M' → PM dm n_startsEnum_2 [12 * b + e, i] M Qr) → MS c b gm e T N0 M0 U0 N' M' U' → M' 0 65 = 1 → Q 0 S V') → XJ l G bX10_makeEnum Q d 2 (ML c (12 * b + e) i) [] S V 0 0 := by
  intro n
  induction n with
  | zero =>
    intro i V N M U hW h hf e1 i0 hn mi m55 ru hk hF
    have E := h.1
    have he := E.bh.be e0 e1
    have nc1 := he.en.nc1
    have ne1 := E.bh.bk.ne1
    have b0 := E.b0
    have b1 := E.b1
    obtain ⟨dm', rfl⟩ : ∃ k, dm = k + 1 := ⟨dm - 1, by have := E.dp1; have := h.2.2.1; omega⟩
    refine vX10_makeEnum_2 ?_
    have k := hk V N M U hW (fun Qr q => st_startsEnum_2 ⟨by omega, by omega, fun _ => ⟨by omega, by omega, q⟩, fun z => absurd (by omega) z⟩) h hf (by omega) m55 (ru.le (by omega))
    obtain ⟨v, tg, ln⟩ := Wr hW
    simp (disch := omega) only [v, tg, he.en.g3, he.en.nc]
    exact ⟨trivial, fun _ => k, fun z => absurd (by omega) z⟩
  | succ n ih =>
    intro i V N M U hW h hf e1 i0 hn mi m55 ru hk hF
    have E := h.1
    have he := E.bh.be e0 e1
    have nc1 := he.en.nc1
    have dp1 := E.dp1
    have h64 := h.2.2.1
    refine vX10_makeEnum_2 ?_
    obtain ⟨v, tg, ln⟩ := Wr hW
    simp (disch := omega) only [v, tg, he.en.g3, he.en.nc, E.wk.g30, E.fl, hf]
    refine ⟨trivial, fun z => absurd z (by omega), fun _ => ⟨trivial, fun z => absurd rfl z, fun _ => CT.im (by omega) (fun d1 hd1 => ct_makeConstant (dm := dm) hV hc D0 hT hW h hD hf e0 e1 i0 (by omega) mi ru (by omega) hdm (fun V1 N1 M1 U1 hW1 reach h1 f1 mi1 m551 ru1 => ?_) (fun V1 N1 M1 U1 hW1 run h1 f1 => ?_))⟩⟩
    · have s0 := h.stm
      have s1 := h1.stm
      have q10 : M1 10 b = M 10 b := (s1 10 _ (by decide) (by decide)).trans (s0 10 _ (by decide) (by decide)).symm
      have q14 : M1 14 (12 * b + e) = M 14 (12 * b + e) := (s1 14 _ (by decide) (by decide)).trans (s0 14 _ (by decide) (by decide)).symm
      have q15 : M1 15 (12 * b + e) = M 15 (12 * b + e) := (s1 15 _ (by decide) (by decide)).trans (s0 15 _ (by decide) (by decide)).symm
      refine ⟨by omega, by omega, ih (i + 1) V1 N1 M1 U1 hW1 h1 f1 (by omega) (by omega) (by omega) mi1 (fun t t0 t1 t2 => (m551 t t0 t1).trans (m55 t t0 t1 (by omega))) (ru1.le (by omega)) (fun V2 N2 M2 U2 hW2 r2 => hk V2 N2 M2 U2 hW2 (fun Qr q => reach Qr (r2 Qr q))) (fun V2 N2 M2 U2 hW2 r2 => hF V2 N2 M2 U2 hW2 (fun Qr q => reach Qr (r2 Qr q)))⟩
    · have s0 := h.stm
      have s1 := h1.stm
      have q10 : M1 10 b = M 10 b := (s1 10 _ (by decide) (by decide)).trans (s0 10 _ (by decide) (by decide)).symm
      exact ⟨by omega, by omega, me_2f hW1 h1.1 f1 e0 (by omega) (hF V1 N1 M1 U1 hW1 run h1 f1)⟩
theorem ft_2 {t : Int} (hV : ∀ n, Vst c S gm b D 2 n) (hc : Cn c S) (D0 : D ≠ 0) (hT : T + 45 * (12 - D) ≤ 912) (hD : M0 0 64 = D) (e0 : 0 ≤ e) (t0 : 0 ≤ t) (hd : 10 * (12 - D) + 10 ≤ (d : Int)) (hdm : 84 + 100 * (12 - D) ≤ (dm : Int)) : ∀ (n : Nat) (r : Int) (V N M : Mem) (U : Int → Int), Wv c S V = N → MS c b gm e T N0 M0 U0 N M U → M 0 65 = 0 → e < M 10 b → t < M 15 (12 * b + e) → 0 ≤ r → M 24 (4 * (12 * b + e) + t) - r = n → M 55 (4 * (12 * b + e) + t) = r → RU gm e (1000 * e + 100 + 12 * t + r) U → (∀ V' N' M' U', Wv c S V' = N' → (∀ Qr : Int → Mem → Prop, PM dm n_startsEnum_83 [12 * b + e, 4 * (12 * b + e) + t + 1] M' Qr → PM dm n_startsEnum_99 [12 * b + e, 4 * (12 * b + e) + t, r] M Qr) → MS c b gm e T N0 M0 U0 N' M' U' → M' 0 65 = 0 → M' 53 (12 * b + e) = M 53 (12 * b + e) → (∀ s, 0 ≤ s → s < 4 → s ≠ t → M' 55 (4 * (12 * b + e) + s) = M 55 (4 * (12 * b + e) + s)) → M' 55 (4 * (12 * b + e) + t) = M' 24 (4 * (12 * b + e) + t) → RU gm e (1000 * e + 100 + 12 * (t + 1)) U' → Q 0 S V') → (∀ V' N' M' U', Wv c S V' = N' → (∀ Qr : Int → Mem → Prop, Qr 0 M' → PM dm n_startsEnum_99 [12 * b + e, 4 * (12 * b + e) + t, r] M Qr) → MS c b gm e T N0 M0 U0 N' M' U' → M' 0 65 = 1 → Q 0 S V') → XJ l G bX10_fillTable Q d 2 [vr (c 30), vr (c (128 * (12 * b + e) + 3)), vr (c (128 * (4 * (12 * b + e) + t) + 9)), vi r] [] S V 0 0 := by
  intro n
  induction n with
  | zero =>
    intro r V N M U hW h hf e1 t1 r0 hn mi ru hk hF
    have E := h.1
    have he := E.bh.be e0 e1
    have ht := he.tb t0 t1
    have nt1 := he.en.nt1
    have ne12 := ht.ne1
    have ne1 := E.bh.bk.ne1
    have b0 := E.b0
    have b1 := E.b1
    obtain ⟨dm', rfl⟩ : ∃ k, dm = k + 1 := ⟨dm - 1, by have := E.dp1; have := h.2.2.1; omega⟩
    refine vX10_fillTable_2 ?_
    have k := hk V N M U hW (fun Qr q => st_startsEnum_99 ⟨by omega, by omega, fun _ => ⟨by omega, by omega, q⟩, fun z => absurd (by omega) z⟩) h hf rfl (fun _ _ _ _ => rfl) (by omega) (ru.le (by omega))
    obtain ⟨v, tg, ln⟩ := Wr hW
    simp (disch := omega) only [v, tg, ht.g9, ht.ne]
    exact ⟨trivial, fun _ => k, fun z => absurd (by omega) z⟩
  | succ n ih =>
    intro r V N M U hW h hf e1 t1 r0 hn mi ru hk hF
    have E := h.1
    have he := E.bh.be e0 e1
    have ht := he.tb t0 t1
    have nt1 := he.en.nt1
    have ne12 := ht.ne1
    have ne1 := E.bh.bk.ne1
    have b0 := E.b0
    have b1 := E.b1
    have dp1 := E.dp1
    have h64 : M 0 64 = D := h.2.2.1.trans hD
    have st3 := h.2.2.2.2.2.1
    have rt := (E.bt e e0 e1).tb t r t0 t1 r0 (by omega)
    have T3 := (h.2.2.2.2.2.2.2.2 hf).1
    obtain ⟨dm', rfl⟩ : ∃ k, dm = k + 1 := ⟨dm - 1, by omega⟩
    refine vX10_fillTable_2 ?_
    obtain ⟨v, tg, ln⟩ := Wr hW
    simp (disch := omega) only [v, tg, ln, ht.g9, ht.ne, ht.r1, ht.g10, ht.n10, ht.r2, E.wk.g30, E.fl, hf]
    refine ⟨trivial, fun z => absurd z (by omega), fun _ => ⟨trivial, fun z => absurd rfl z, fun _ => ⟨trivial, r0, by omega, CT.im (by omega) (fun d1 hd1 => ct_wo (dm := dm') (ra := -1) (cst := -1) hV hc hW E h64 hf (fun z => absurd z D0) rt (by decide) (fun z => absurd z (by decide)) ⟨fun z => absurd z (by decide), fun z => absurd z (by decide)⟩ (rt.ow ru (by omega) (by omega) (by omega)) (by omega) (by omega) (by omega) (fun V1 N1 M1 U1 z hW1 vp t1' zf => ?_))⟩⟩⟩
    obtain ⟨run, s1, fa, pv⟩ := vp
    have E1 := s1.1
    have n910 := fa.1 (by have := rt.2.2.1; omega)
    have hs : ∀ p, gm 1 (M 25 (12 * (4 * (12 * b + e) + t) + r)) ≤ p → p < gm 2 (M 25 (12 * (4 * (12 * b + e) + t) + r)) → gm 5 p = 1000 * e + 100 + 12 * t + r := rt.2.2.2.2
    have h1 := h.step e0 (by omega) hf s1 (fun p a q => by have := hs p a q; omega) n910.1 n910.2 t1'
    obtain ⟨v1, tg1, ln1⟩ := Wr hW1
    have ss := s1.stm
    have e1' : e < M1 10 b := by rw [ss 10 _ (by decide) (by decide)]; exact e1
    have he1 := E1.bh.be e0 e1'
    have t1'' : t < M1 15 (12 * b + e) := by rw [ss 15 _ (by decide) (by decide)]; exact t1
    have ht1 := he1.tb t0 t1''
    have m24 : M1 24 (4 * (12 * b + e) + t) = M 24 (4 * (12 * b + e) + t) := ss 24 _ (by decide) (by decide)
    have ld := ((s1.2.2.2.1 e e0 (by omega) (by omega)).2 (by omega)).2.1 (by omega)
    have mi1 : M1 55 (4 * (12 * b + e) + t) = r := (ld.2.2.1 t t0 (by omega)).trans mi
    have st31 := h1.2.2.2.2.2.1
    simp (disch := omega) only [v1, tg1, ln1, ht1.g9, ht1.g11, ht1.n11, E1.wk.g30, E1.fl]
    refine ⟨trivial, r0, by omega, trivial, fun nz => ⟨by omega, by omega, ?_⟩, fun z0 => ⟨by omega, by omega, trivial, ?_⟩⟩
    · have f1 : M1 0 65 = 1 := by have := E1.f01; omega
      have E2 := E1.enF (v := z) e0 e1' t0 t1'' (by omega) st31 mi1
      have h2 := h1.upd E2 (EvF.enF b0 e0 (by omega) t0 (by omega)) (fun _ => rfl) (fun _ => rfl) Lx.rf (fun L j hL => nEnF_ne (by omega))
      have hW2 : Wv c S (up V1 (c (128 * (4 * (12 * b + e) + t) + 11)) r z) = nEnF N1 (4 * (12 * b + e) + t) r z := by rw [Wv_up hc r0, hW1]; rfl
      have k := hF _ _ M1 U1 hW2 (fun Qr q => st_startsEnum_99 ⟨by omega, by omega, fun z => absurd z (by omega), fun _ => ⟨by omega, by omega, by omega, by omega, by omega, by omega, run _ ⟨fun z => absurd z nz, fun _ => q⟩⟩⟩) h2 f1
      refine vX10_fillTable_2 ?_
      obtain ⟨v2, tg2, ln2⟩ := Wr hW2
      have ht2 := (E2.bh.be e0 e1').tb t0 t1''
      simp (disch := omega) only [v2, tg2, ht2.g9, E2.wk.g30, E2.fl, f1]
      exact ⟨trivial, fun _ => k, fun _ => ⟨trivial, fun _ => k, fun z => absurd (by decide) z⟩⟩
    · have f1 : M1 0 65 = 0 := by omega
      have E2 := E1.ent (v := z) e0 e1' t0 t1'' (by omega) st31 mi1
      have h2 := h1.upd E2 (EvF.ent b0 e0 (by omega) t0 (by omega) r0 (by omega)) (fun _ => mEnt_ne (by omega)) (fun _ => mEnt_ne (by omega)) (Lx.ent t0 (by omega) r0 (by omega)) (fun L j hL => nEnt_ne (by omega))
      have hW2 : Wv c S (up (up V1 (c (128 * (4 * (12 * b + e) + t) + 11)) r z) (c (128 * (4 * (12 * b + e) + t) + 9)) 4 (r + 1)) = nEnt N1 (4 * (12 * b + e) + t) r z := by rw [Wv_up hc (by decide), Wv_up hc r0, hW1]; rfl
      have reach : ∀ Qr : Int → Mem → Prop, PM (dm' + 1) n_startsEnum_99 [12 * b + e, 4 * (12 * b + e) + t, r + 1] (mEnt M1 (4 * (12 * b + e) + t) r z) Qr → PM (dm' + 1) n_startsEnum_99 [12 * b + e, 4 * (12 * b + e) + t, r] M Qr := fun Qr q => st_startsEnum_99 ⟨by omega, by omega, fun z => absurd z (by omega), fun _ => ⟨by omega, by omega, by omega, by omega, by omega, by omega, run _ ⟨fun _ => by
        rw [mi1]
        exact ⟨by omega, by omega, by omega, by omega, by omega, by omega, by omega, by omega, by omega, by omega, by omega, by omega, q⟩, fun z => absurd f1 z⟩⟩⟩
      have q15 : mEnt M1 (4 * (12 * b + e) + t) r z 15 (12 * b + e) = M1 15 (12 * b + e) := mEnt_ne (by omega)
      have q10 : mEnt M1 (4 * (12 * b + e) + t) r z 10 b = M1 10 b := mEnt_ne (by omega)
      have q24 : mEnt M1 (4 * (12 * b + e) + t) r z 24 (4 * (12 * b + e) + t) = M1 24 (4 * (12 * b + e) + t) := mEnt_ne (by omega)
      refine ih (r + 1) _ _ (mEnt M1 (4 * (12 * b + e) + t) r z) U1 hW2 h2 (by rw [mEnt_ne (by omega)]; exact f1) (by omega) (by omega) (by omega) (by omega) mEnt_1 (((ru.le (by omega)).st s1 hs (by omega) (by omega)).le (cur := 1000 * e + 100 + 12 * t + r + 1) (by omega)) (fun V2 N2 M2 U2 hW2 r2 h2 f2 a1 a2 a3 a4 => hk V2 N2 M2 U2 hW2 (fun Qr q => reach Qr (r2 Qr q)) h2 f2 ?_ (fun s s0 s1 s2 => ?_) a3 a4) (fun V2 N2 M2 U2 hW2 r2 => hF V2 N2 M2 U2 hW2 (fun Qr q => reach Qr (r2 Qr q)))
      · rw [a1, mEnt_ne (by omega)]; exact ld.1
      · rw [a2 s s0 s1 s2, mEnt_ne (by omega)]; exact ld.2.2.1 s s0 s1
end EV9
