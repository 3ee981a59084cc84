/-! ===== book: factors, the knot ===== -/
section FAO
variable {l : Launch} {G : GT} {c : Int → Int} {S : Sh} {Q : Int → Sh → Mem → Prop} {d mc ms e : Nat} {K P W E : Int → Int} {nt b g st B n j ln : Int} {N M gm V : Mem}
theorem XF.ft {x : Int} (hs : XS c N M K P W E nt b g st B n j ln) (N' : Mem) (hN : N' = nFt N (if K j = 0 then 1 else x) (P j)) (x0 : 0 < x) : XF ln n N M N' (mFt M (if K j = 0 then 1 else x) (P j)) := by
  subst hN
  exact ⟨fXn.ft, fXm.ft, (mFt_ne (by omega)).trans hs.nv, by rw [mFt_46]; split <;> omega, by rw [nFt_10, mFt_46], by rw [nFt_11, mFt_47]; exact ⟨rfl, hs.ts.pb⟩⟩
set_option maxHeartbeats 2000000 in
theorem fac_of (hc : Cn c S) (cn : CN b B st) (n0 : 0 ≤ n) (n1 : n ≤ 12) (hd : 6 ≤ d) (he : 14 ≤ e) (hS : n < 12 → FacT l G c S K P W E nt b g st B bX5_readSum n_readSum_0 (3 * (12 - (n + 1)) + 3) (n + 1) (d - 1) e) (hS2 : n < 12 → FacT l G c S K P W E nt b g st B bX5_readSum n_readSum_0 (3 * (12 - (n + 1)) + 3) (n + 1) (d - 1 - 1) (e - 1)) (hF : n < 12 → FacT l G c S K P W E nt b g st B bX5_readFactor n_readFactor_0 (3 * (12 - (n + 1)) + 1) (n + 1) (d - 1) e) : FacT l G c S K P W E nt b g st B bX5_readFactor n_readFactor_0 (3 * (12 - n) + 1) n d (e + 1) := by
  intro Q1 V N M gm j ln hW xs hok hbad
  have ts := xs.ts
  have j0 := ts.j0
  have ntb := ts.ntb
  have j1 := ts.j1
  have hlj := xs.lj
  have hl0 := xs.l0
  have hx0 := xs.x0
  have hx1 := xs.x1
  have cb := cn
  unfold CN at cb
  have w0 := xs.w
  obtain ⟨x9, x41, x43, x44, x45⟩ := xs.xc
  obtain ⟨ya, yb, yc, yd, ye, yf, yg⟩ := ts.x hW
  have bad2 : ∀ V' , Wv c S V' = nFt N (if K j = 0 then 1 else 2) (P j) → K j ≠ 45 → K j ≠ 40 → K j ≠ 2 → (M 0 43 = 0 ∨ K j ≠ 12) → (M 0 44 = 0 ∨ K j ≠ 13) → K j ≠ 14 → (M 0 45 = 0 ∨ K j ≠ 15) → K j ≠ 3 → Q1 0 S V' := fun V' hW' k1 k2 k3 k4 k5 k6 k7 k8 => hbad V' _ (-1) (XF.ft xs _ hW' (by decide)) (fun Qr hq => fr_203 xs (by omega) k1 k2 k3 k4 k5 (fr_ref xs (by omega) k6 k7 (by
    obtain ⟨e', rfl⟩ : ∃ e', e = e' + 1 := ⟨e - 1, by omega⟩
    exact st_readReference_0 (ts.nm0 k8 (by omega) _ ⟨fun y => absurd rfl y, fun _ => ts.ft w0 (by omega) _ hq⟩))))
  -- a fault behind a step that was kept
  have bad3 : ∀ (o a : Int) (V' V'' : Mem), Wv c S V' = nEm N ln o a → Wv c S V'' = nFt (nEm N ln o a) (if K j = 0 then 1 else 2) (P j) → K j ≠ 45 → K j ≠ 40 → K j ≠ 2 → (M 0 43 = 0 ∨ K j ≠ 12) → (M 0 44 = 0 ∨ K j ≠ 13) → K j ≠ 14 → (M 0 45 = 0 ∨ K j ≠ 15) → K j ≠ 3 → Q1 0 S V'' := fun o a V' V'' _ hW' k1 k2 k3 k4 k5 k6 k7 k8 => hbad V'' (mFt M (if K j = 0 then 1 else 2) (P j)) (-1) ⟨by rw [hW']; exact fXn.em.tr fXn.ft (Int.le_refl _), fXm.ft, (mFt_ne (by omega)).trans xs.nv, by rw [mFt_46]; split <;> decide, by rw [hW', nFt_10, mFt_46], by rw [hW', nFt_11, mFt_47]; exact ⟨rfl, xs.ts.pb⟩⟩ (fun Qr hq => fr_203 xs (by omega) k1 k2 k3 k4 k5 (fr_ref xs (by omega) k6 k7 (by
    obtain ⟨e', rfl⟩ : ∃ e', e = e' + 1 := ⟨e - 1, by omega⟩
    exact st_readReference_0 (ts.nm0 k8 (by omega) _ ⟨fun y => absurd rfl y, fun _ => ts.ft w0 (by omega) _ hq⟩))))
  have emt : ∀ (o a : Int) (K' : Int → Sh → Mem → Nat → Nat → Prop), K j ≠ 1 → (∀ V', Wv c S V' = nEm N ln o a → K' 0 S V' 0 0) → CT l G bX1_emit d 0 0 [vr (c 120), vi o, vi a] S V K' := fun o a K' k1 hk => CT.im (by omega) (fun d2 hd2 => ct_emit hc hW ts.rd xs.l hl0 (by have := ts.lt k1; omega) (fun V5 hW5 => hk V5 hW5))
  have tag : ∀ (o a : Int) (V' : Mem), Wv c S V' = nEm N ln o a → S.1 (c 50) = 6 ∧ V' (c 50) 5 = st := fun o a V' h => ⟨yf, by rw [(Wr h).1 _ _ (by decide), nEm_ne (by omega)]; exact xs.sv⟩
  have z01 : ∀ z : Int, z = 0 ∨ z = 1 → (z = 0 ∨ z = 1) := fun z h => h
  have NUM : K j = 2 → CT l G bX1_emit d 0 0 [vr (c 120), vi 1, vi (wr (W j))] S V (fun z3 S3 V3 mc3 ms3 => S3.1 (c 50) = 6 ∧ CT l G bX5_pass d mc3 ms3 [vr (c 50), vi 1, vi 2] S3 V3 (fun z5 S5 V5 mc5 ms5 => (z5 = 0 ∨ z5 = 1) ∧ Q1 z5 S5 V5)) := fun k => by
    have wn : 0 ≤ W j ∧ W j ≤ 999999999 := by
      rcases ts.t1.2.2 with q | ⟨_, q⟩
      · omega
      · rw [k] at q
        exact tok_num q
    have m6 : M 0 6 = W j := ts.t1.1.2.2.2 k
    have m3 : M 0 3 = 3 := by rw [ts.t1.k3, (rkd_w ts.t1.rg).2.2.2.1]; exact k
    rw [wr_idn wn.1 (by omega)]
    refine emt _ _ _ (by omega) (fun V' hW' => ⟨yf, CT.im (by omega) (fun d2 hd2 => fac_leaf (k := 0) (ka := W j) (e := e) hc cn n0 n1 xs (by omega) (Or.inl ⟨rfl, rfl, rfl⟩) (by omega) (by omega) hW' (fun M' r Qr hq => st_readFactor_0 ⟨fun _ => ts.sg0 (by decide) (by omega) (by omega) _ ⟨fun y => absurd rfl y, fun _ => ts.sg0 (by decide) (by omega) (by omega) _ ⟨fun _ => ⟨fun y => absurd m3 y, fun _ => by rw [m6]; exact r Qr hq⟩, fun y => absurd rfl y⟩⟩, fun y => absurd (by omega) y⟩) (fun V2 M2 g2 x2 j2 l2 xr run => ⟨Or.inr rfl, hok V2 M2 g2 x2 j2 l2 xr run⟩))⟩)
  have REF : K j = 3 → CT l G bX5_readReference d 0 0 [vr (c 50), vi n] S V (fun z8 S8 V8 mc8 ms8 => (z8 = 0 ∨ z8 = 1) ∧ Q1 z8 S8 V8) := fun k => by
    have go : ∀ Qr : Int → Mem → Prop, PM e n_readReference_0 [] M Qr → PM (e + 1) n_readFactor_0 [] M Qr := fun Qr hq => fr_203 xs (by omega) (by omega) (by omega) (by omega) (Or.inr (by omega)) (Or.inr (by omega)) (fr_ref xs (by omega) (by omega) (Or.inr (by omega)) hq)
    refine CT.im (by omega) (fun d1 hd1 => ?_)
    obtain rfl : d1 = d - 1 := by omega
    have q := ref_of (e := e - 1) (gm := gm) (Q := fun z8 S8 V8 => (z8 = 0 ∨ z8 = 1) ∧ Q1 z8 S8 V8) (mc := 0) (ms := 0) hc cn n0 n1 (show 3 ≤ d - 1 by omega) (by omega) hS2 hW xs k
    rw [show e - 1 + 1 = e from by omega] at q
    exact q (fun V' M' gm' x j' ln' xr run => ⟨Or.inr rfl, hok V' M' gm' x j' ln' xr (fun Qr hq => go Qr (run Qr hq))⟩) (fun V' M' z xf run => ⟨Or.inl rfl, hbad V' M' z xf (fun Qr hq => go Qr (run Qr hq))⟩)
  have SIZ : K j = 14 → CT l G bX1_emit d 0 0 [vr (c 120), vi 5, vi 0] S V (fun z27 S27 V27 mc27 ms27 => S27.1 (c 50) = 6 ∧ CT l G bX5_pass d mc27 ms27 [vr (c 50), vi 1, vi 2] S27 V27 (fun z29 S29 V29 mc29 ms29 => (z29 = 0 ∨ z29 = 1) ∧ Q1 z29 S29 V29)) := fun k => by
    refine emt _ _ _ (by omega) (fun V' hW' => ⟨yf, CT.im (by omega) (fun d2 hd2 => fac_leaf (k := 9) (ka := 0) (e := e) hc cn n0 n1 xs (by omega) (Or.inr (Or.inr (Or.inr (Or.inr ⟨rfl, rfl⟩)))) (by omega) (by omega) hW' (fun M' r Qr hq => fr_203 xs (by omega) (by omega) (by omega) (by omega) (Or.inr (by omega)) (Or.inr (by omega)) (st_readFactor_203 ⟨fun _ => ts.wd1 10 (by decide) k (by omega) _ ⟨fun z => absurd z (by decide), fun _ => r Qr hq⟩, fun y => ts.wd0 11 (by decide) (by rw [k]; decide) (by omega) _ ⟨fun _ => ts.wd1 10 (by decide) k (by omega) _ ⟨fun z => absurd z (by decide), fun _ => r Qr hq⟩, fun z => absurd rfl z⟩⟩)) (fun V2 M2 g2 x2 j2 l2 xr run => ⟨Or.inr rfl, hok V2 M2 g2 x2 j2 l2 xr run⟩))⟩)
  have VAL : K j = 12 → CT l G bX1_emit d 0 0 [vr (c 120), vi 3, vi 0] S V (fun z11 S11 V11 mc11 ms11 => S11.1 (c 50) = 6 ∧ ((V11 (c 50) 5) < 2 → CT l G bX5_pass d mc11 ms11 [vr (c 50), vi 0, vi 2] S11 V11 (fun z14 S14 V14 mc14 ms14 => (z14 = 0 ∨ z14 = 1) ∧ Q1 z14 S14 V14)) ∧ (¬ ((V11 (c 50) 5) < 2) → CT l G bX5_pass d mc11 ms11 [vr (c 50), vi 1, vi 2] S11 V11 (fun z16 S16 V16 mc16 ms16 => (z16 = 0 ∨ z16 = 1) ∧ Q1 z16 S16 V16))) := fun k => by
    refine emt _ _ _ (by omega) (fun V' hW' => ?_)
    rw [(tag _ _ V' hW').2]
    refine ⟨yf, fun s2 => CT.im (by omega) (fun d2 hd2 => ct_pass0 hc hW' (ts.em hl0) (fun V2 hW2 => ⟨Or.inl rfl, bad3 _ _ V' V2 hW' hW2 (by omega) (by omega) (by omega) (Or.inl (by rw [x43, if_neg (by omega)])) (Or.inr (by omega)) (by omega) (Or.inr (by omega)) (by omega)⟩)), fun s2 => CT.im (by omega) (fun d2 hd2 => fac_leaf (k := 6) (ka := 0) (e := e) hc cn n0 n1 xs (by omega) (Or.inr (Or.inl ⟨rfl, rfl, by omega⟩)) (by omega) (by omega) hW' (fun M' r Qr hq => st_readFactor_0 ⟨fun _ => ts.sg0 (by decide) (by omega) (by omega) _ ⟨fun y => absurd rfl y, fun _ => ts.sg0 (by decide) (by omega) (by omega) _ ⟨fun _ => ⟨fun _ => ⟨fun y => absurd y (by rw [x43, if_pos (by omega)]; decide), fun _ => ts.wd1 8 (by decide) k (by omega) _ ⟨fun z => absurd z (by decide), fun _ => r Qr hq⟩⟩, fun y => absurd (fun z => by have := (rkd_w ts.t1.rg).2.2.2.1.1 (by rw [← ts.t1.k3]; exact z); omega) y⟩, fun y => absurd rfl y⟩⟩, fun y => absurd (by omega) y⟩) (fun V2 M2 g2 x2 j2 l2 xr run => ⟨Or.inr rfl, hok V2 M2 g2 x2 j2 l2 xr run⟩))⟩
  have ORD : K j = 13 → CT l G bX1_emit d 0 0 [vr (c 120), vi 2, vi 0] S V (fun z19 S19 V19 mc19 ms19 => S19.1 (c 50) = 6 ∧ ((V19 (c 50) 5) < 1 → CT l G bX5_pass d mc19 ms19 [vr (c 50), vi 0, vi 2] S19 V19 (fun z22 S22 V22 mc22 ms22 => (z22 = 0 ∨ z22 = 1) ∧ Q1 z22 S22 V22)) ∧ (¬ ((V19 (c 50) 5) < 1) → CT l G bX5_pass d mc19 ms19 [vr (c 50), vi 1, vi 2] S19 V19 (fun z24 S24 V24 mc24 ms24 => (z24 = 0 ∨ z24 = 1) ∧ Q1 z24 S24 V24))) := fun k => by
    refine emt _ _ _ (by omega) (fun V' hW' => ?_)
    rw [(tag _ _ V' hW').2]
    refine ⟨yf, fun s2 => CT.im (by omega) (fun d2 hd2 => ct_pass0 hc hW' (ts.em hl0) (fun V2 hW2 => ⟨Or.inl rfl, bad3 _ _ V' V2 hW' hW2 (by omega) (by omega) (by omega) (Or.inr (by omega)) (Or.inl (by rw [x44, if_neg (by omega)])) (by omega) (Or.inr (by omega)) (by omega)⟩)), fun s2 => CT.im (by omega) (fun d2 hd2 => fac_leaf (k := 7) (ka := 0) (e := e) hc cn n0 n1 xs (by omega) (Or.inr (Or.inr (Or.inl ⟨rfl, rfl, by omega⟩))) (by omega) (by omega) hW' (fun M' r Qr hq => st_readFactor_0 ⟨fun _ => ts.sg0 (by decide) (by omega) (by omega) _ ⟨fun y => absurd rfl y, fun _ => ts.sg0 (by decide) (by omega) (by omega) _ ⟨fun _ => ⟨fun _ => ⟨fun _ => ⟨fun y => absurd y (by rw [x44, if_pos (by omega)]; decide), fun _ => ts.wd1 9 (by decide) k (by omega) _ ⟨fun z => absurd z (by decide), fun _ => r Qr hq⟩⟩, fun _ => ts.wd0 8 (by decide) (by rw [k]; decide) (by omega) _ ⟨fun _ => ⟨fun y => absurd y (by rw [x44, if_pos (by omega)]; decide), fun _ => ts.wd1 9 (by decide) k (by omega) _ ⟨fun z => absurd z (by decide), fun _ => r Qr hq⟩⟩, fun z => absurd rfl z⟩⟩, fun y => absurd (fun z => by have := (rkd_w ts.t1.rg).2.2.2.1.1 (by rw [← ts.t1.k3]; exact z); omega) y⟩, fun y => absurd rfl y⟩⟩, fun y => absurd (by omega) y⟩) (fun V2 M2 g2 x2 j2 l2 xr run => ⟨Or.inr rfl, hok V2 M2 g2 x2 j2 l2 xr run⟩))⟩
  have ABV : K j = 15 → CT l G bX1_emit d 0 0 [vr (c 120), vi 4, vi 0] S V (fun z32 S32 V32 mc32 ms32 => S32.1 (c 50) = 6 ∧ ((V32 (c 50) 5) < 3 → CT l G bX5_pass d mc32 ms32 [vr (c 50), vi 0, vi 2] S32 V32 (fun z35 S35 V35 mc35 ms35 => (z35 = 0 ∨ z35 = 1) ∧ Q1 z35 S35 V35)) ∧ (¬ ((V32 (c 50) 5) < 3) → CT l G bX5_pass d mc32 ms32 [vr (c 50), vi 1, vi 2] S32 V32 (fun z37 S37 V37 mc37 ms37 => (z37 = 0 ∨ z37 = 1) ∧ Q1 z37 S37 V37))) := fun k => by
    refine emt _ _ _ (by omega) (fun V' hW' => ?_)
    rw [(tag _ _ V' hW').2]
    refine ⟨yf, fun s2 => CT.im (by omega) (fun d2 hd2 => ct_pass0 hc hW' (ts.em hl0) (fun V2 hW2 => ⟨Or.inl rfl, bad3 _ _ V' V2 hW' hW2 (by omega) (by omega) (by omega) (Or.inr (by omega)) (Or.inr (by omega)) (by omega) (Or.inl (by rw [x45, if_neg (by omega)])) (by omega)⟩)), fun s2 => CT.im (by omega) (fun d2 hd2 => fac_leaf (k := 8) (ka := 0) (e := e) hc cn n0 n1 xs (by omega) (Or.inr (Or.inr (Or.inr (Or.inl ⟨rfl, rfl, by omega⟩)))) (by omega) (by omega) hW' (fun M' r Qr hq => fr_203 xs (by omega) (by omega) (by omega) (by omega) (Or.inr (by omega)) (Or.inr (by omega)) (st_readFactor_203 ⟨fun y => absurd y (by rw [x45, if_pos (by omega)]; decide), fun _ => ts.wd1 11 (by decide) k (by omega) _ ⟨fun z => absurd z (by decide), fun _ => r Qr hq⟩⟩)) (fun V2 M2 g2 x2 j2 l2 xr run => ⟨Or.inr rfl, hok V2 M2 g2 x2 j2 l2 xr run⟩))⟩
  have ELS : K j ≠ 2 → K j ≠ 3 → K j ≠ 12 → K j ≠ 13 → K j ≠ 14 → K j ≠ 15 → K j ≠ 40 → K j ≠ 45 → CT l G bX5_pass d 0 0 [vr (c 50), vi 0, vi 2] S V (fun z62 S62 V62 mc62 ms62 => (z62 = 0 ∨ z62 = 1) ∧ Q1 z62 S62 V62) := fun k2 k3 k12 k13 k14 k15 k40 k45 => CT.im (by omega) (fun d2 hd2 => ct_pass0 hc hW ts (fun V2 hW2 => ⟨Or.inl rfl, bad2 V2 hW2 k45 k40 k2 (Or.inr k12) (Or.inr k13) k14 (Or.inr k15) k3⟩))
  have mm0 : ∀ m : Int, TS c N (up M 0 42 m) K P W E nt j := fun m => ts.fr (fun _ _ => rfl) (fun _ _ _ => rfl) (fun i hi => up_ne (by omega)) (fun i => up_ne (by omega))
  -- the reference's way into a nest
  have in1 : ∀ (M6 : Mem) (Qr : Int → Mem → Prop), n < 12 → K j = 40 → RunM e n_next_0 [] (up M 0 42 (n + 1)) 0 M6 → PM e n_readSum_0 [] M6 (fun z61 M61 => PM e n_sign_0 [41] M61 (fun z64 M64 => PM (e + 1) n_readFactor_89 [0, z61] M64 Qr)) → PM (e + 1) n_readFactor_0 [] M Qr := fun M6 Qr nn k rn hq => st_readFactor_0 ⟨fun _ => ts.sg0 (by decide) (by omega) (by omega) _ ⟨fun y => absurd rfl y, fun _ => ts.sg1 (by decide) k (by omega) _ ⟨fun y => absurd y (by decide), fun _ => ts.sg0 (by decide) (by omega) (by omega) _ ⟨fun _ => ⟨by have := xs.nv; omega, by have := xs.nv; omega, by rw [xs.nv]; exact rn _ ⟨fun _ => (fun Q' (h : PM e n_readSum_0 [] M6 (fun z61 M61 => PM e n_sign_0 [41] M61 (fun z64 M64 => PM (e + 1) n_readFactor_89 [0, z61] M64 Qr))) => by
      have : (fun z61 M61 => PM e n_sign_0 [41] M61 (fun z64 M64 => PM (e + 1) n_readFactor_89 [0, z61] M64 Qr)) = (fun z61 M61 => ((0 : Int) ≠ 0 → PM (e + 1) n_readFactor_89 [0, z61] M61 Qr) ∧ (¬ ((0 : Int) ≠ 0) → PM e n_sign_0 [41] M61 (fun z14 M14 => PM (e + 1) n_readFactor_89 [0, z61] M14 Qr))) := by
        funext z M
        exact propext ⟨fun q => ⟨fun y => absurd rfl y, fun _ => q⟩, fun q => q.2 (fun y => y rfl)⟩
      rw [this] at h
      exact h) Qr hq, fun y => absurd rfl y⟩⟩, fun y => absurd (by have := xs.nv; omega) y⟩⟩⟩, fun y => absurd (by omega) y⟩
  have in2 : ∀ (M6 : Mem) (Qr : Int → Mem → Prop), n < 12 → K j = 45 → RunM e n_next_0 [] (up M 0 42 (n + 1)) 0 M6 → PM e n_readFactor_0 [] M6 (fun z16 M16 => PM (e + 1) n_readFactor_89 [1, z16] M16 Qr) → PM (e + 1) n_readFactor_0 [] M Qr := fun M6 Qr nn k rn hq => st_readFactor_0 ⟨fun _ => ts.sg1 (by decide) k (by omega) _ ⟨fun _ => ts.sg1 (by decide) k (by omega) _ ⟨fun _ => ⟨by have := xs.nv; omega, by have := xs.nv; omega, by rw [xs.nv]; exact rn _ ⟨fun y => absurd y (by decide), fun _ => (fun Q' (h : PM e n_readFactor_0 [] M6 (fun z16 M16 => PM (e + 1) n_readFactor_89 [1, z16] M16 Qr)) => by
      have : (fun z16 M16 => PM (e + 1) n_readFactor_89 [1, z16] M16 Qr) = (fun z16 M16 => ((1 : Int) ≠ 0 → PM (e + 1) n_readFactor_89 [1, z16] M16 Qr) ∧ (¬ ((1 : Int) ≠ 0) → PM e n_sign_0 [41] M16 (fun z14 M14 => PM (e + 1) n_readFactor_89 [1, z16] M14 Qr))) := by
        funext z M
        exact propext ⟨fun q => ⟨fun _ => q, fun y => absurd (by decide) y⟩, fun q => q.1 (by decide)⟩
      rw [this] at h
      exact h) Qr hq⟩⟩, fun y => absurd (by have := xs.nv; omega) y⟩, fun y => absurd (by decide) y⟩, fun y => absurd (by omega) y⟩
  have deep : 12 ≤ n → K j = 40 ∨ K j = 45 → ∀ K' : Int → Sh → Mem → Nat → Nat → Prop, (∀ V', Q1 0 S V' → K' 0 S V' 0 0) → CT l G bX5_pass d 0 0 [vr (c 50), vi 0, vi 5] S V K' := fun n12 kk K' hk => CT.im (by omega) (fun d2 hd2 => ct_pass0 hc hW ts (fun V2 hW2 => hk V2 (hbad V2 _ (-1) (XF.ft xs _ hW2 (by decide)) (fun Qr hq => by
    have en : M 0 42 = 12 := by have := xs.nv; omega
    rcases kk with k | k
    · exact st_readFactor_0 ⟨fun _ => ts.sg0 (by decide) (by omega) (by omega) _ ⟨fun y => absurd rfl y, fun _ => ts.sg1 (by decide) k (by omega) _ ⟨fun y => absurd y (by decide), fun _ => ts.sg0 (by decide) (by omega) (by omega) _ ⟨fun y => absurd en y, fun _ => ts.ft w0 (by omega) _ hq⟩⟩⟩, fun y => absurd (by omega) y⟩
    · exact st_readFactor_0 ⟨fun _ => ts.sg1 (by decide) k (by omega) _ ⟨fun _ => ts.sg1 (by decide) k (by omega) _ ⟨fun y => absurd en y, fun _ => ts.ft w0 (by omega) _ hq⟩, fun y => absurd (by decide) y⟩, fun y => absurd (by omega) y⟩))))
  have PAR : n < 12 → K j = 40 → CT l G bX5_pass d 0 0 [vr (c 50), vi 1, vi 5] S V (fun z102 S102 V102 mc102 ms102 => (z102 = 0 → Q1 0 S102 V102) ∧ (¬ (z102 = 0) → -2147483648 ≤ n + 1 ∧ n + 1 ≤ 2147483647 ∧ S102.1 (c 50) = 6 ∧ CT l G bX5_readSum d mc102 ms102 [vr (c 50), vi (n + 1)] S102 V102 (fun z105 S105 V105 mc105 ms105 => (z105 = 0 → Q1 0 S105 V105) ∧ (¬ (z105 = 0) → S105.1 (c 50) = 6 ∧ ((V105 (c 50) 7) ≠ 41 → CT l G bX5_pass d mc105 ms105 [vr (c 50), vi 0, vi 2] S105 V105 (fun z109 S109 V109 mc109 ms109 => (z109 = 0 → Q1 0 S109 V109) ∧ (¬ (z109 = 0) → Q1 1 S109 V109))) ∧ (¬ ((V105 (c 50) 7) ≠ 41) → CT l G bX5_pass d mc105 ms105 [vr (c 50), vi 1, vi 2] S105 V105 (fun z112 S112 V112 mc112 ms112 => (z112 = 0 → Q1 0 S112 V112) ∧ (¬ (z112 = 0) → Q1 1 S112 V112))))))) := fun nn k => by
    refine CT.im (by omega) (fun d1 hd1 => ct_pass (e := e) hc hW (mm0 (n + 1)) (by omega) (by omega) (by omega) (fun V6 M6 hW6 ts6 lx6 rn6 => ⟨fun q => absurd q (by decide), fun _ => ⟨by omega, by omega, yf, CT.im (by omega) (fun d2 hd2 => ?_)⟩⟩))
    obtain rfl : d2 = d - 1 := by omega
    have v6 : ∀ L i, ¬ (L = 0 ∧ 3 ≤ i ∧ i ≤ 6) → ¬ (L = 0 ∧ i = 42) → M6 L i = M L i := fun L i q1 q2 => (lx6 L i q1).trans (up_ne (by omega))
    have x40 : M6 0 40 = M 0 40 := v6 _ _ (by omega) (by omega)
    have x51 : M6 0 51 = M 0 51 := v6 _ _ (by omega) (by omega)
    have fm6 : fXm (M 0 40) (M 0 51) M M6 := fun L i q1 q2 q3 => v6 L i (by omega) (by omega)
    have xs6 := xs.ps lx6 ts6
    refine hS nn _ V6 _ M6 gm (j + 1) ln hW6 xs6 (fun V7 M7 gm7 x j7 q7 xr run => ⟨fun q => absurd q (by decide), fun _ => ?_⟩) (fun V7 M7 z xf run => ⟨fun _ => ?_, fun q => absurd rfl q⟩)
    · obtain ⟨xs7, fn7, fm7, gf7, T7, ⟨p1, p2, p3, p4, p5⟩, ⟨b1, b2, b3, b4, b5⟩⟩ := xr
      rw [x40] at T7 p1 b4 b5
      obtain ⟨ua, ub, uc, ud, ue, uf, ug⟩ := xs7.ts.x rfl
      have fnn : fXn ln N (Wv c S V7) := fXn.ps.tr fn7 (Int.le_refl _)
      have fmm : fXm (M 0 40) (M 0 51) M M7 := fm6.tr fm7 (by omega) (by omega)
      have n7 := xs7.nv
      rw [ua]
      refine ⟨uf, fun k41 => CT.im (by omega) (fun d5 hd5 => ct_pass0 hc rfl xs7.ts (fun V8 hW8 => ⟨fun _ => ?_, fun q => absurd rfl q⟩)), fun k41 => ?_⟩
      · refine hbad V8 (up (mFt M7 (if K j7 = 0 then 1 else 2) (P j7)) 0 42 n) x ⟨by rw [hW8]; exact fnn.tr fXn.ft (Int.le_refl _), (fmm.tr fXm.ft (Int.le_refl _) (Int.le_refl _)).tr fXm.nest (Int.le_refl _) (Int.le_refl _), up_eq, ?_, ?_, ?_⟩ (fun Qr hq => in1 M6 Qr nn k rn6 (run _ (xs7.ts.sn0 xs7.w (by decide) k41 (by omega) _ (st_readFactor_89 ?_))))
        · rw [up_ne (by omega), mFt_46]; split <;> decide
        · rw [up_ne (by omega), hW8, nFt_10, mFt_46]
        · rw [up_ne (by omega), hW8, nFt_11, mFt_47]; exact ⟨rfl, xs7.ts.pb⟩
        · have w1 : mFt M7 (if K j7 = 0 then 1 else 2) (P j7) 0 42 = n + 1 := (mFt_ne (by omega)).trans n7
          have w2 : 0 < mFt M7 (if K j7 = 0 then 1 else 2) (P j7) 0 46 := by rw [mFt_46]; split <;> decide
          unfold B_readFactor_89
          rw [w1, show n + 1 - 1 = n from by omega]
          exact ⟨by omega, by omega, fun _ => hq, fun q => absurd w2 q⟩
      · have k41 := Classical.not_not.1 k41
        have jt := xs7.ts.lt (show K j7 ≠ 1 by omega)
        refine CT.im (by omega) (fun d5 hd5 => ct_pass (e := e - 1) hc rfl xs7.ts (by omega) (by omega) (by omega) (fun V8 M8 hW8 ts8 lx8 rn8 => ⟨fun q => absurd q (by decide), fun _ => ?_⟩))
        have v8 : ∀ L i, ¬ (L = 0 ∧ 3 ≤ i ∧ i ≤ 6) → ¬ (L = 0 ∧ i = 42) → up M8 0 42 n L i = M7 L i := fun L i q1 q2 => (up_ne (by omega)).trans (lx8 L i q1)
        have ts9 : TS c (nPs (Wv c S V7) (j7 + 1) (K (j7 + 1)) (W (j7 + 1))) (up M8 0 42 n) K P W E nt (j7 + 1) := ts8.fr (fun _ _ => rfl) (fun _ _ _ => rfl) (fun i hi => up_ne (by omega)) (fun i => up_ne (by omega))
        have fm9 : fXm (M 0 40) (M 0 51) M (up M8 0 42 n) := fmm.tr (fun L i q1 q2 q3 => v8 L i (by omega) (by omega)) (Int.le_refl _) (Int.le_refl _)
        have q40 : up M8 0 42 n 0 40 = M7 0 40 := v8 _ _ (by omega) (by omega)
        have q51 : up M8 0 42 n 0 51 = M7 0 51 := v8 _ _ (by omega) (by omega)
        have fn9 : fXn ln N (nPs (Wv c S V7) (j7 + 1) (K (j7 + 1)) (W (j7 + 1))) := fnn.tr fXn.ps (Int.le_refl _)
        have run9 : RunM (e + 1) n_readFactor_0 [] M x (up M8 0 42 n) := fun Qr hq => in1 M6 Qr nn k rn6 (run _ (xs7.ts.sn1 xs7.w (by decide) k41 (by omega) rn8 _ (st_readFactor_89 (by
          have w1 : M8 0 42 = n + 1 := (lx8 _ _ (by omega)).trans n7
          have w2 : M8 0 46 = 0 := (lx8 _ _ (by omega)).trans xs7.w
          unfold B_readFactor_89
          rw [w1, show n + 1 - 1 = n from by omega]
          exact ⟨by omega, by omega, fun q => absurd q (by omega), fun _ => ⟨fun q => absurd rfl q, fun _ => hq⟩⟩))))
        refine hok V8 (up M8 0 42 n) gm7 x (j7 + 1) q7 ⟨?_, by rw [hW8]; exact fn9, fm9, fun i y q => gf7 i y (by omega), ?_, ⟨p1, by rw [q40]; exact p2, p3, p4, by omega⟩, ⟨by omega, by omega, by omega, by rw [q40]; omega, by rw [q40]; omega⟩⟩ run9
        · rw [hW8]
          have := xs7.lj
          have := xs7.x1
          refine xs.go fn9 fm9 ts9 ((nPs_ne (by omega)).trans xs7.l) ?_ (by omega) (by omega) (by rw [q40]; omega) (by rw [q40]; omega) ((v8 _ _ (by omega) (by omega)).trans xs7.w) up_eq ((nPs_ne (by omega)).trans xs7.f)
          rw [rcn_cg (g := Wv c S V7 121) _ (fun i a q => nPs_ne (by omega)), xs7.r, q51]
        · rw [hW8, q40]
          exact T7.fr hl0 (fun i _ _ => ⟨nPs_ne (by omega), nPs_ne (by omega)⟩) (fun L y _ _ _ _ _ => v8 _ _ (by omega) (by omega)) (fun y _ _ _ _ => v8 _ _ (by omega) (by omega)) (fun L i _ _ _ => v8 _ _ (by omega) (by omega)) (fun _ _ _ _ _ _ => rfl)
    · obtain ⟨x1, x2, x3, x4, x5, x6⟩ := xf
      refine hbad V7 (up M7 0 42 n) z ⟨fXn.ps.tr x1 (Int.le_refl _), (fm6.tr x2 (by omega) (by omega)).tr fXm.nest (Int.le_refl _) (Int.le_refl _), up_eq, by rw [up_ne (by omega)]; exact x4, by rw [up_ne (by omega)]; exact x5, by rw [up_ne (by omega)]; exact x6⟩ (fun Qr hq => in1 M6 Qr nn k rn6 (run _ (sn_w x4 (by omega) _ (st_readFactor_89 ?_))))
      unfold B_readFactor_89
      rw [x3, show n + 1 - 1 = n from by omega]
      exact ⟨by omega, by omega, fun _ => hq, fun q => absurd x4 q⟩
  have MIN : n < 12 → K j = 45 → CT l G bX5_pass d 0 0 [vr (c 50), vi 1, vi 5] S V (fun z116 S116 V116 mc116 ms116 => (z116 = 0 → Q1 0 S116 V116) ∧ (¬ (z116 = 0) → -2147483648 ≤ n + 1 ∧ n + 1 ≤ 2147483647 ∧ S116.1 (c 50) = 6 ∧ CT l G bX5_readFactor d mc116 ms116 [vr (c 50), vi (n + 1)] S116 V116 (fun z119 S119 V119 mc119 ms119 => (z119 ≠ 0 → S119.1 (c 50) = 6 ∧ S119.1 (V119 (c 50) 1) = 2 ∧ CT l G bX1_emit d mc119 ms119 [vr (V119 (c 50) 1), vi 6, vi 0] S119 V119 (fun z122 S122 V122 mc122 ms122 => Q1 1 S122 V122)) ∧ (¬ (z119 ≠ 0) → Q1 0 S119 V119)))) := fun nn k => by
    refine CT.im (by omega) (fun d1 hd1 => ct_pass (e := e) hc hW (mm0 (n + 1)) (by omega) (by omega) (by omega) (fun V6 M6 hW6 ts6 lx6 rn6 => ⟨fun q => absurd q (by decide), fun _ => ⟨by omega, by omega, yf, CT.im (by omega) (fun d2 hd2 => ?_)⟩⟩))
    obtain rfl : d2 = d - 1 := by omega
    have v6 : ∀ L i, ¬ (L = 0 ∧ 3 ≤ i ∧ i ≤ 6) → ¬ (L = 0 ∧ i = 42) → M6 L i = M L i := fun L i q1 q2 => (lx6 L i q1).trans (up_ne (by omega))
    have x40 : M6 0 40 = M 0 40 := v6 _ _ (by omega) (by omega)
    have x51 : M6 0 51 = M 0 51 := v6 _ _ (by omega) (by omega)
    have fm6 : fXm (M 0 40) (M 0 51) M M6 := fun L i q1 q2 q3 => v6 L i (by omega) (by omega)
    have xs6 := xs.ps lx6 ts6
    refine hF nn _ V6 _ M6 gm (j + 1) ln hW6 xs6 (fun V7 M7 gm7 x j7 q7 xr run => ⟨fun _ => ?_, fun q => absurd (by decide) q⟩) (fun V7 M7 z xf run => ⟨fun q => absurd rfl q, fun _ => ?_⟩)
    · obtain ⟨xs7, fn7, fm7, gf7, T7, ⟨p1, p2, p3, p4, p5⟩, ⟨b1, b2, b3, b4, b5⟩⟩ := xr
      rw [x40] at T7 p1 b4 b5
      obtain ⟨ua, ub, uc, ud, ue, uf, ug⟩ := xs7.ts.x rfl
      have fnn : fXn ln N (Wv c S V7) := fXn.ps.tr fn7 (Int.le_refl _)
      have fmm : fXm (M 0 40) (M 0 51) M M7 := fm6.tr fm7 (by omega) (by omega)
      have n7 := xs7.nv
      have l70 := xs7.l0
      have l7j := xs7.lj
      have x7 := xs7.x1
      have x70 := xs7.x0
      have nt7 := xs7.ts.ntb
      have j71 := xs7.ts.j1
      rw [ud]
      refine ⟨uf, ug, CT.im (by omega) (fun d5 hd5 => ct_emit hc rfl xs7.ts.rd xs7.l l70 (by omega) (fun V8 hW8 => ?_))⟩
      have e40 : up M7 0 42 n 0 40 = M7 0 40 := up_ne (by omega)
      have v8 : ∀ L i, ¬ (L = 0 ∧ i = 42) → ¬ (L = 0 ∧ i = 40) → ¬ (35 ≤ L ∧ L ≤ 39 ∧ i = M7 0 40) → mEx (up M7 0 42 n) 1 x 0 L i = M7 L i := fun L i q1 q2 q3 => (mEx_ne (by rw [e40]; omega)).trans (up_ne (by omega))
      have f40 : mEx (up M7 0 42 n) 1 x 0 0 40 = M7 0 40 + 1 := by rw [mEx_40, e40]
      have f35 : mEx (up M7 0 42 n) 1 x 0 35 (M7 0 40) = 1 := by have := mEx_35 (M := up M7 0 42 n) (k := 1) (a := x) (b := 0); rw [e40] at this; exact this
      have f36 : mEx (up M7 0 42 n) 1 x 0 36 (M7 0 40) = x := by have := mEx_36 (M := up M7 0 42 n) (k := 1) (a := x) (b := 0); rw [e40] at this; exact this
      have f39 : mEx (up M7 0 42 n) 1 x 0 39 (M7 0 40) = g := by
        have := mEx_39 (M := up M7 0 42 n) (k := 1) (a := x) (b := 0)
        rw [e40] at this
        exact this.trans ((up_ne (by omega)).trans xs7.xc.2.1)
      have f51 : mEx (up M7 0 42 n) 1 x 0 0 51 = M7 0 51 := v8 _ _ (by omega) (by omega) (by omega)
      have f42 : mEx (up M7 0 42 n) 1 x 0 0 42 = n := (mEx_ne (by omega)).trans up_eq
      have f46 : mEx (up M7 0 42 n) 1 x 0 0 46 = 0 := (v8 _ _ (by omega) (by omega) (by omega)).trans xs7.w
      have fm9 : fXm (M 0 40) (M 0 51) M (mEx (up M7 0 42 n) 1 x 0) := fmm.tr (fun L i q1 q2 q3 => v8 L i (by omega) (by omega) (by omega)) (Int.le_refl _) (Int.le_refl _)
      have fn9 : fXn ln N (nEm (Wv c S V7) q7 6 0) := fnn.tr fXn.em (by omega)
      have ts9 : TS c (nEm (Wv c S V7) q7 6 0) (mEx (up M7 0 42 n) 1 x 0) K P W E nt j7 := (xs7.ts.em l70).fr (fun _ _ => rfl) (fun _ _ _ => rfl) (fun i hi => v8 _ _ (by omega) (by omega) (by omega)) (fun i => v8 _ _ (by omega) (by omega) (by omega))
      have run9 : RunM (e + 1) n_readFactor_0 [] M (M7 0 40) (mEx (up M7 0 42 n) 1 x 0) := fun Qr hq => in2 M6 Qr nn k rn6 (run _ (st_readFactor_89 (by
        have w2 := xs7.w
        unfold B_readFactor_89
        rw [n7, show n + 1 - 1 = n from by omega]
        refine ⟨by omega, by omega, fun q => absurd q (by omega), fun _ => ⟨fun _ => rn_ex (by rw [e40]; omega) (by rw [e40]; omega) (fun q => absurd q (by decide)) (by omega) _ (by rw [e40]; exact hq), fun q => absurd (by decide) q⟩⟩)))
      have gu : ∀ i y, y < M7 0 40 → gmU gm7 (M7 0 40) ln (q7 + 1) (3 * (12 - n) + 1) st i y = gm7 i y := fun i y q => gmU_ne (by omega)
      refine hok V8 (mEx (up M7 0 42 n) 1 x 0) (gmU gm7 (M7 0 40) ln (q7 + 1) (3 * (12 - n) + 1) st) (M7 0 40) j7 (q7 + 1) ⟨?_, by rw [hW8]; exact fn9, fm9, fun i y q => (gu i y (by omega)).trans (gf7 i y (by omega)), ?_, ⟨by omega, by rw [f40]; omega, gmU_1, gmU_2, by rw [gmU_3]; omega⟩, ⟨by omega, by omega, by omega, by rw [f40]; omega, by rw [f40]; omega⟩⟩ run9
      · rw [hW8]
        refine xs.go fn9 fm9 ts9 nEm_l ?_ (by omega) (by omega) (by rw [f40]; omega) (by rw [f40]; omega) f46 f42 ((nEm_ne (by omega)).trans xs7.f)
        rw [rcn_s l70, rcn_cg (g := Wv c S V7 121) _ (fun i a q => nEm_ne (by omega)), xs7.r, nEm_o, f51]
        show M7 0 51 + 0 = _
        omega
      · rw [hW8, f40]
        refine TRE.add (T7.fr hl0 (fun i _ _ => ⟨nEm_ne (by omega), nEm_ne (by omega)⟩) (fun L y _ _ _ _ _ => v8 _ _ (by omega) (by omega) (by omega)) (fun y y0 y1 q1 q2 => ?_) (fun L i _ _ _ => v8 _ _ (by omega) (by omega) (by omega)) (fun i y _ _ _ y1 => gu i y y1)) (by omega) (by omega) ⟨?_, ?_, gmU_4, f39, ?_⟩ ⟨?_, fun z => ?_, fun z => ?_, fun z => ?_, fun z => ?_⟩
        · have pk := (T7.1 y y0 y1).2.2.2.2
          unfold PCk at pk
          exact v8 _ _ (by omega) (by omega) (by omega)
        · rw [gmU_1, gmU_2]; omega
        · rw [gmU_3]; omega
        · refine Or.inr (Or.inl ?_)
          rw [f35, f36, gmU_1, gmU_2, gmU_3, gu 1 x p2, gu 2 x p2, gu 3 x p2, p3, p4, nEm_o]
          exact ⟨rfl, by omega, by omega, rfl, rfl, by omega, rfl⟩
        · rw [nEm_o]; omega
        · rw [nEm_o] at z; omega
        · rw [nEm_o] at z; omega
        · rw [nEm_o] at z; omega
        · rw [nEm_o] at z; omega
    · obtain ⟨x1, x2, x3, x4, x5, x6⟩ := xf
      refine hbad V7 (up M7 0 42 n) z ⟨fXn.ps.tr x1 (Int.le_refl _), (fm6.tr x2 (by omega) (by omega)).tr fXm.nest (Int.le_refl _) (Int.le_refl _), up_eq, by rw [up_ne (by omega)]; exact x4, by rw [up_ne (by omega)]; exact x5, by rw [up_ne (by omega)]; exact x6⟩ (fun Qr hq => in2 M6 Qr nn k rn6 (run _ (st_readFactor_89 ?_)))
      unfold B_readFactor_89
      rw [x3, show n + 1 - 1 = n from by omega]
      exact ⟨by omega, by omega, fun _ => hq, fun q => absurd x4 q⟩
  refine qX5_readFactor fun _ _ => vX5_readFactor_0 ?_
  rw [ya, yb, yd]
  refine ⟨fun h12 => ⟨yf, fun k2 => ⟨yg, NUM k2⟩, fun k2 => ⟨REF, fun k3 => ⟨fun k12 => ⟨yg, VAL k12⟩, fun k12 => ⟨fun k13 => ⟨yg, ORD k13⟩, fun k13 => ⟨fun k14 => ⟨yg, SIZ k14⟩, fun k14 => ⟨fun k15 => ⟨yg, ABV k15⟩, fun k15 => ⟨fun k40 => deep h12 (Or.inl k40) _ (fun V' q => ⟨fun _ => q, fun y => absurd rfl y⟩), fun k40 => ⟨fun k45 => deep h12 (Or.inr k45) _ (fun V' q => ⟨fun _ => q, fun y => absurd rfl y⟩), fun k45 => ELS k2 k3 k12 k13 k14 k15 k40 k45⟩⟩⟩⟩⟩⟩⟩⟩, fun h12 => ⟨yf, fun k2 => ⟨yg, NUM k2⟩, fun k2 => ⟨REF, fun k3 => ⟨fun k12 => ⟨yg, VAL k12⟩, fun k12 => ⟨fun k13 => ⟨yg, ORD k13⟩, fun k13 => ⟨fun k14 => ⟨yg, SIZ k14⟩, fun k14 => ⟨fun k15 => ⟨yg, ABV k15⟩, fun k15 => ⟨fun k40 => PAR (by omega) k40, fun k40 => ⟨fun k45 => MIN (by omega) k45, fun k45 => ELS k2 k3 k12 k13 k14 k15 k40 k45⟩⟩⟩⟩⟩⟩⟩⟩⟩
theorem fac_all (hc : Cn c S) (cn : CN b B st) : ∀ (r : Nat) (n : Int) (d e : Nat), 12 - n = r → 0 ≤ n → 4 * r + 10 ≤ d → 4 * r + 20 ≤ e → FacT l G c S K P W E nt b g st B bX5_readFactor n_readFactor_0 (3 * (12 - n) + 1) n d e := by
  intro r
  induction r with
  | zero =>
    intro n d e hr n0 hd he
    have q := fac_of (l := l) (G := G) (K := K) (P := P) (W := W) (E := E) (nt := nt) (g := g) (n := n) (d := d) (e := e - 1) hc cn n0 (by omega) (by omega) (by omega) (fun y => by omega) (fun y => by omega) (fun y => by omega)
    rw [show e - 1 + 1 = e from by omega] at q
    exact q
  | succ r ih =>
    intro n d e hr n0 hd he
    have s1 := sum_of (l := l) (G := G) (K := K) (P := P) (W := W) (E := E) (nt := nt) (g := g) (n := n + 1) (d := d - 1) (e := e - 3) hc cn (by omega) (by omega) (by omega) (by omega) (ih (n + 1) (d - 1 - 1) (e - 3) (by omega) (by omega) (by omega) (by omega))
    have s2 := sum_of (l := l) (G := G) (K := K) (P := P) (W := W) (E := E) (nt := nt) (g := g) (n := n + 1) (d := d - 1 - 1) (e := e - 4) hc cn (by omega) (by omega) (by omega) (by omega) (ih (n + 1) (d - 1 - 1 - 1) (e - 4) (by omega) (by omega) (by omega) (by omega))
    rw [show e - 3 + 2 = e - 1 from by omega] at s1
    rw [show e - 4 + 2 = e - 1 - 1 from by omega] at s2
    have q := fac_of (l := l) (G := G) (K := K) (P := P) (W := W) (E := E) (nt := nt) (g := g) (n := n) (d := d) (e := e - 1) hc cn n0 (by omega) (by omega) (by omega) (fun _ => s1) (fun _ => s2) (fun _ => ih (n + 1) (d - 1) (e - 1) (by omega) (by omega) (by omega) (by omega))
    rw [show e - 1 + 1 = e from by omega] at q
    exact q
end FAO
