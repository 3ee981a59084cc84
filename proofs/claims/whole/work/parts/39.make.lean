/-! ===== evaluation: an enum is made ===== -/
theorem mCon_def {M : Mem} {g i v : Int} : mCon M g i v = up (up M 54 (24 * g + i) v) 53 g (i + 1) := rfl
theorem mEnt_def {M : Mem} {t k v : Int} : mEnt M t k v = up (up M 56 (12 * t + k) v) 55 t (k + 1) := rfl
theorem EvF.con {b e i v : Int} {N M : Mem} (b0 : 0 ≤ b) (e0 : 0 ≤ e) (e1 : e < 12) (i0 : 0 ≤ i) (i1 : i < 24) : EvF b N M (nCon N (12 * b + e) i v) (mCon M (12 * b + e) i v) := ⟨fun L j a q => nCon_ne (by unfold bkL at q; omega), fun k j q => mCon_ne (by unfold dM at q; omega), fun j => nCon_ne (by omega)⟩
theorem EvF.co0 {b e i v : Int} {N M : Mem} (b0 : 0 ≤ b) (e0 : 0 ≤ e) (e1 : e < 12) (i0 : 0 ≤ i) (i1 : i < 24) : EvF b N M (nCo0 N (12 * b + e) i) (mCon M (12 * b + e) i v) := ⟨fun L j a q => nCo0_ne (by unfold bkL at q; omega), fun k j q => mCon_ne (by unfold dM at q; omega), fun j => nCo0_ne (by omega)⟩
theorem EvF.coF {b e i v : Int} {N M : Mem} (b0 : 0 ≤ b) (e0 : 0 ≤ e) (e1 : e < 12) (i0 : 0 ≤ i) (i1 : i < 24) : EvF b N M (nCoF N (12 * b + e) i v) M := ⟨fun L j a q => nCoF_ne (by unfold bkL at q; omega), fun k j q => rfl, fun j => nCoF_ne (by omega)⟩
theorem EvF.ent {b e t k v : Int} {N M : Mem} (b0 : 0 ≤ b) (e0 : 0 ≤ e) (e1 : e < 12) (i0 : 0 ≤ t) (i1 : t < 4) (k0 : 0 ≤ k) (k1 : k < 12) : EvF b N M (nEnt N (4 * (12 * b + e) + t) k v) (mEnt M (4 * (12 * b + e) + t) k v) := ⟨fun L j a q => nEnt_ne (by unfold bkL at q; omega), fun k j q => mEnt_ne (by unfold dM at q; omega), fun j => nEnt_ne (by omega)⟩
theorem EvF.enF {b e t k v : Int} {N M : Mem} (b0 : 0 ≤ b) (e0 : 0 ≤ e) (e1 : e < 12) (i0 : 0 ≤ t) (i1 : t < 4) : EvF b N M (nEnF N (4 * (12 * b + e) + t) k v) M := ⟨fun L j a q => nEnF_ne (by unfold bkL at q; omega), fun k j q => rfl, fun j => nEnF_ne (by omega)⟩
theorem EvF.hol {b e i v : Int} {N M : Mem} (b0 : 0 ≤ b) (e0 : 0 ≤ e) (e1 : e < 12) (i0 : 0 ≤ i) (i1 : i < 4) : EvF b N M (nHol N (12 * b + e) i v) (mHol M (12 * b + e) i v) := ⟨fun L j a q => nHol_ne (by unfold bkL at q; omega), fun k j q => mHol_ne (by unfold dM at q; omega), fun j => nHol_ne (by omega)⟩
theorem EvF.hoF {b e i v : Int} {N M : Mem} (b0 : 0 ≤ b) (e0 : 0 ≤ e) (e1 : e < 12) (i0 : 0 ≤ i) (i1 : i < 4) : EvF b N M (nHol N (12 * b + e) i v) M := ⟨fun L j a q => nHol_ne (by unfold bkL at q; omega), fun k j q => rfl, fun j => nHol_ne (by omega)⟩
theorem Lx.con {b e i v : Int} {M : Mem} (i0 : 0 ≤ i) (i1 : i < 24) : Lx e b M (mCon M (12 * b + e) i v) := Lx.of (fun _ _ _ _ => mCon_ne (by omega)) (fun _ _ _ _ => ⟨mCon_ne (by omega), fun _ _ _ => mCon_ne (by omega), fun _ _ _ => mCon_ne (by omega), fun _ _ _ => mCon_ne (by omega)⟩) (fun _ _ _ _ => mCon_ne (by omega))
theorem Lx.ent {b e t k v : Int} {M : Mem} (t0 : 0 ≤ t) (t1 : t < 4) (i0 : 0 ≤ k) (i1 : k < 12) : Lx e b M (mEnt M (4 * (12 * b + e) + t) k v) := Lx.of (fun _ _ _ _ => mEnt_ne (by omega)) (fun _ _ _ _ => ⟨mEnt_ne (by omega), fun _ _ _ => mEnt_ne (by omega), fun _ _ _ => mEnt_ne (by omega), fun _ _ _ => mEnt_ne (by omega)⟩) (fun _ _ _ _ => mEnt_ne (by omega))
theorem Lx.hol {b e i v : Int} {M : Mem} (i0 : 0 ≤ i) (i1 : i < 4) : Lx (100 + 4 * e + i) b M (mHol M (12 * b + e) i v) := Lx.of (fun _ _ _ _ => mHol_ne (by omega)) (fun _ _ _ _ => ⟨mHol_ne (by omega), fun _ _ _ => mHol_ne (by omega), fun _ _ _ => mHol_ne (by omega), fun _ _ _ => mHol_ne (by omega)⟩) (fun _ _ _ _ => mHol_ne (by omega))
section EV8
variable {l : Launch} {G : GT} {Q : Int → Sh → Mem → Prop} {c : Int → Int} {S : Sh} {gm N0 M0 : Mem} {U0 : Int → Int} {b D T e : Int} {d dm : Nat}
theorem ct_makeConstant {V N M : Mem} {U : Int → Int} {i : Int} (hV : ∀ n, Vst c S gm b D 2 n) (hc : Cn c S) (D0 : D ≠ 0) (hT : T + 45 * (12 - D) ≤ 912) (hW : Wv c S V = N) (h : MS c b gm e T N0 M0 U0 N M U) (hD : M0 0 64 = D) (hf : M 0 65 = 0) (e0 : 0 ≤ e) (e1 : e < M 10 b) (i0 : 0 ≤ i) (i1 : i < M 14 (12 * b + e)) (mi : M 53 (12 * b + e) = i) (ru : RU gm e (1000 * e + i) U) (hd : 10 * (12 - D) + 10 ≤ (d : Int)) (hdm : 84 + 100 * (12 - D) ≤ (dm : Int)) (hk : ∀ V' N' M' U', Wv c S V' = N' → (∀ Qr : Int → Mem → Prop, PM dm n_startsEnum_2 [12 * b + e, i + 1] M' Qr → PM dm n_startsEnum_2 [12 * b + e, i] M Qr) → MS c b gm e T N0 M0 U0 N' M' U' → M' 0 65 = 0 → M' 53 (12 * b + e) = i + 1 → (∀ t, 0 ≤ t → t < 4 → M' 55 (4 * (12 * b + e) + t) = M 55 (4 * (12 * b + e) + t)) → RU gm e (1000 * e + i + 1) U' → Q 0 S V') (hF : ∀ V' N' M' U', Wv c S V' = N' → (∀ Qr : Int → Mem → Prop, Qr 0 M' → PM dm n_startsEnum_2 [12 * b + e, i] M Qr) → MS c b gm e T N0 M0 U0 N' M' U' → M' 0 65 = 1 → Q 0 S V') : Ct l G bX10_makeConstant Q d 0 0 [vr (c 30), vr (c (128 * (12 * b + e) + 3)), vi i] S V := by
  have E := h.1
  have ne1 := E.bh.bk.ne1
  have he := E.bh.be e0 e1
  have nc1 := he.en.nc1
  have hcn := he.cn i0 i1
  have b0 := E.b0
  have b1 := E.b1
  have dp1 := E.dp1
  have h64 : M 0 64 = D := h.2.2.1.trans hD
  have st3 := h.2.2.2.2.2.1
  obtain ⟨dm', rfl⟩ : ∃ k, dm = k + 1 := ⟨dm - 1, by omega⟩
  obtain ⟨v, tg, ln⟩ := Wr hW
  refine qX10_makeConstant fun _ _ _ => vX10_makeConstant_0 ?_
  simp (disch := omega) only [v, tg, ln, he.en.g3, he.en.r3, he.en.g4, he.en.n4, he.en.rc, hcn.g5, E.wk.g30, E.fl]
  refine ⟨trivial, trivial, i0, by omega, trivial, fun ac => ⟨trivial, fun z => absurd hf z, fun _ => ⟨by omega, by omega, ?_⟩⟩, fun ac => ⟨trivial, ?_⟩⟩
  · have a1 := hcn.ar.1 ac
    have E' := E.co0 e0 e1 i0 i1 st3 mi a1
    refine hk _ (nCo0 N (12 * b + e) i) (mCon M (12 * b + e) i 0) U ?_ (fun Qr q => st_startsEnum_2 ?_) (h.upd E' (EvF.co0 b0 e0 (by omega) i0 (by omega)) (fun _ => mCon_ne (by omega)) (fun _ => mCon_ne (by omega)) (Lx.con i0 (by omega)) (fun L j hL => nCo0_ne (by omega))) (by rw [mCon_ne (by omega)]; exact hf) mCon_1 (fun t _ _ => mCon_ne (by omega)) (ru.le (by omega))
    · rw [Wv_up hc (by decide), hW]; rfl
    · unfold B_startsEnum_2
      rw [mi]
      exact ⟨by omega, by omega, fun z => absurd i1 (by omega), fun _ => ⟨by omega, by omega, by omega, by omega, by omega, by omega, fun z => absurd a1 z, fun _ => ⟨fun _ => ⟨by omega, by omega, by omega, by omega, q⟩, fun z => absurd hf z⟩⟩⟩
  · have a1 : M 21 (24 * (12 * b + e) + i) ≠ -1 := fun z => ac (hcn.ar.2 z)
    have rt := (E.bt e e0 e1).ar i i0 i1 a1
    have T3 := (h.2.2.2.2.2.2.2.2 hf).1
    refine CT.im (by omega) (fun d1 hd1 => ct_wo (dm := dm') (ra := -1) (cst := 24 * (12 * b + e) + i) hV hc hW E h64 hf (fun z => absurd z D0) rt (by decide) (fun z => absurd z (by decide)) ⟨fun _ => ⟨rfl, i0, i1, by omega, by omega⟩, fun z => absurd z (by decide)⟩ (rt.ow ru (by omega) (by omega) (by omega)) (by omega) (by omega) (by omega) (fun V1 N1 M1 U1 z hW1 vp t1 zf => ?_))
    obtain ⟨run, s1, fa, pv⟩ := vp
    have E1 := s1.1
    have n910 := fa.1 (by have := rt.2.2.1; omega)
    have hs : ∀ p, gm 1 (M 21 (24 * (12 * b + e) + i)) ≤ p → p < gm 2 (M 21 (24 * (12 * b + e) + i)) → gm 5 p = 1000 * e + i := rt.2.2.2.2
    have h1 := h.step e0 (by omega) hf s1 (fun p a q => by have := hs p a q; omega) n910.1 n910.2 t1
    obtain ⟨v1, tg1, ln1⟩ := Wr hW1
    have ss := s1.stm
    have e1' : e < M1 10 b := by rw [ss 10 _ (by decide) (by decide)]; exact e1
    have he1 := E1.bh.be e0 e1'
    have i1' : i < M1 14 (12 * b + e) := by rw [ss 14 _ (by decide) (by decide)]; exact i1
    have a1' : M1 21 (24 * (12 * b + e) + i) ≠ -1 := by rw [ss 21 _ (by decide) (by decide)]; exact a1
    have ld := ((s1.2.2.2.1 e e0 (by omega) (by omega)).2 (by omega)).2.1 (by omega)
    have mi1 : M1 53 (12 * b + e) = i := ld.1.trans mi
    have st31 := h1.2.2.2.2.2.1
    simp (disch := omega) only [v1, tg1, (he1.cn i0 i1').g5, he1.en.g3, E1.wk.g30, E1.fl]
    refine ⟨trivial, trivial, fun nz => ?_, fun z0 => ⟨by omega, by omega, trivial, ?_⟩⟩
    · have f1 : M1 0 65 = 1 := by have := E1.f01; omega
      refine hF _ (nCoF N1 (12 * b + e) i z) M1 U1 ?_ (fun Qr q => st_startsEnum_2 ?_) (h1.upd (E1.coF e0 e1' i0 i1' mi1 a1') (EvF.coF b0 e0 (by omega) i0 (by omega)) (fun _ => rfl) (fun _ => rfl) Lx.rf (fun L j hL => nCoF_ne (by omega))) f1
      · rw [Wv_up hc (by decide), hW1]; rfl
      · unfold B_startsEnum_2
        exact ⟨by omega, by omega, fun z => absurd i1 (by omega), fun _ => ⟨by omega, by omega, by omega, by omega, by omega, by omega, fun _ => run _ ⟨fun z => absurd z nz, fun _ => q⟩, fun z => absurd a1 z⟩⟩
    · have f1 : M1 0 65 = 0 := by omega
      refine hk _ (nCon N1 (12 * b + e) i z) (mCon M1 (12 * b + e) i z) U1 ?_ (fun Qr q => st_startsEnum_2 ?_) (h1.upd (E1.con e0 e1' i0 i1' st31 mi1 a1') (EvF.con b0 e0 (by omega) i0 (by omega)) (fun _ => mCon_ne (by omega)) (fun _ => mCon_ne (by omega)) (Lx.con i0 (by omega)) (fun L j hL => nCon_ne (by omega))) (by rw [mCon_ne (by omega)]; exact f1) mCon_1 (fun t t0 t1 => (mCon_ne (by omega)).trans (ld.2.2.1 t t0 t1)) ((ru.le (by omega)).st s1 hs (by omega) (by omega))
      · rw [Wv_up hc (by decide), Wv_up hc (by decide), hW1]; rfl
      · unfold B_startsEnum_2
        refine ⟨by omega, by omega, fun z => absurd i1 (by omega), fun _ => ⟨by omega, by omega, by omega, by omega, by omega, by omega, fun _ => run _ ⟨fun _ => ?_, fun z => absurd f1 z⟩, fun z => absurd a1 z⟩⟩
        rw [mi1]
        exact ⟨by omega, by omega, by omega, by omega, by omega, by omega, by omega, by omega, q⟩
end EV8
