/-! ===== book: a constant: its acts ===== -/
section COF
variable {c c' : Int → Int} {N N' M M' gm gm' : Mem} {ow ow' eo cs K P W E : Int → Int} {nt b B st st' j j' ln e nc nu nk nh ns cb : Int}
/-- a constant told -/
theorem con_fin (h : RDI c N M gm ow eo cs K P W E nt b B st j ln e nc nu nk nh ns cb 1) (ic : IC c N M gm ow b B (M 0 40) ln e (24 * (12 * b + e) + nc) nc) : RDI c N M gm ow eo cs K P W E nt b B st j ln e (nc + 1) nu nk nh ns cb 0 := by
  obtain ⟨h1, h2, h3, h4, h5, h6, h7⟩ := h
  refine ⟨h1, h2, h3, h4, ⟨by have := h5.1; omega, h5.2⟩, ⟨fun i i0 i1 => ?_, h6.2⟩, h7⟩
  by_cases y : i = nc
  · subst y; exact ic
  · exact h6.1 i i0 (by omega)
/-- a token passed -/
theorem RDI.ps {pc : Int} (h : RDI c N M gm ow eo cs K P W E nt b B st j ln e nc nu nk nh ns cb pc) (ts : TS c N' M' K P W E nt j') (jj : j ≤ j') (n : ∀ L k, ¬ (L = 50 ∧ 6 ≤ k ∧ k ≤ 8) → N' L k = N L k) (m : ∀ k i, ¬ (k = 0 ∧ 3 ≤ i ∧ i ≤ 6) → M' k i = M k i) : RDI c N' M' gm ow eo cs K P W E nt b B st j' ln e nc nu nk nh ns cb pc :=
  h.tk (h.ls.fr ts ((n _ _ (by omega)).trans h.ls.sv) ((n _ _ (by omega)).trans h.ls.lv) (fun i _ _ => n _ _ (by omega)) jj (m _ _ (by omega)) (m _ _ (by omega)) ((m _ _ (by omega)).trans h.ls.w) ((n _ _ (by omega)).trans h.ls.f) (m _ _ (by omega)) (m _ _ (by omega))) (fun L k q => n L k (by omega)) (fun k i q => m k i q)
theorem IC.ps {X q i : Int} (h : IC c N M gm ow b B X ln e q i) (n : ∀ L k, L ≠ 50 → N' L k = N L k) (m : ∀ k i, k ≠ 0 → M' k i = M k i) : IC c N' M' gm ow b B X ln e q i :=
  h.fr (R := 0) ⟨fun i _ _ => ⟨n _ _ (by omega), n _ _ (by omega)⟩, fun _ _ _ => rfl, fun _ _ => rfl, fun k i _ _ _ => m _ _ (by omega), fun k i _ _ _ => m _ _ (by omega)⟩ (Int.le_refl _) (Int.le_refl _) rfl (fun k => n _ _ (by omega)) (fun k => n _ _ (by omega)) (m _ _ (by omega)) (m _ _ (by omega)) (fun a _ _ => m _ _ (by omega)) (fun i => m _ _ (by omega))
end COF
section COA
variable {l : Launch} {G : GT} {c c0 : Int → Int} {S : Sh} {N0 M0 : Mem} {Q : Int → Sh → Mem → Prop} {d mc ms ee : Nat} {cs K P W E : Int → Int} {nt b B e nc nu nk nh ns cb nm j0 : Int} {Xq : (Int → Mem → Prop) → Prop}
set_option maxHeartbeats 2000000 in
theorem co_acts (hc : Cn c S) (hd : 95 ≤ d) (he : 110 ≤ ee) (nc0 : 0 ≤ nc) (nc1 : nc < 24)
    (hok : ∀ V' M' gm' ow' eo' st' j' ln', RDI c (Wv c S V') M' gm' ow' eo' cs K P W E nt b B st' j' ln' e (nc + 1) nu nk nh ns cb 0 → GF b B c0 N0 M0 c (Wv c S V') M' → j0 < j' → (∀ Qr : Int → Mem → Prop, Qr 0 M' → Xq Qr) → Q 1 S V')
    (hbad : ∀ V' M', GF b B c0 N0 M0 c (Wv c S V') M' → FTS (Wv c S V') M' → (∀ Qr : Int → Mem → Prop, Qr 0 M' → Xq Qr) → Q 0 S V') :
    ∀ (r : Nat) (k st j ln : Int) (V N M gm : Mem) (ow eo : Int → Int), 4 - k = r → Wv c S V = N → j0 ≤ j → RDI c N M gm ow eo cs K P W E nt b B st j ln e nc nu nk nh ns cb 1 → GF b B c0 N0 M0 c N M → IC c N M gm ow b B (M 0 40) ln e (24 * (12 * b + e) + nc) nc → cn4 (N (128 * (24 * (12 * b + e) + nc) + 6)) = k → (∀ a', M 11 b ≤ a' → a' < 4 → N (128 * (24 * (12 * b + e) + nc) + 6) a' = -1) → (∀ Qr : Int → Mem → Prop, PM (ee + 1) n_readConstant_172 [24 * (12 * b + e) + nc, nm, 4] M Qr → Xq Qr) → XJ l G bX5_readConstant Q d 151 [vr (c 50), vr (c (128 * (24 * (12 * b + e) + nc) + 5)), vi 1, vi k] [] S V mc ms := by
  have step : ∀ (k st j ln : Int) (V N M gm : Mem) (ow eo : Int → Int), Wv c S V = N → j0 ≤ j → RDI c N M gm ow eo cs K P W E nt b B st j ln e nc nu nk nh ns cb 1 → GF b B c0 N0 M0 c N M → IC c N M gm ow b B (M 0 40) ln e (24 * (12 * b + e) + nc) nc → cn4 (N (128 * (24 * (12 * b + e) + nc) + 6)) = k → (∀ a', M 11 b ≤ a' → a' < 4 → N (128 * (24 * (12 * b + e) + nc) + 6) a' = -1) → (∀ Qr : Int → Mem → Prop, PM (ee + 1) n_readConstant_172 [24 * (12 * b + e) + nc, nm, 4] M Qr → Xq Qr) → (∀ (st j ln : Int) (V M gm : Mem) (ow eo : Int → Int), j0 ≤ j → RDI c (Wv c S V) M gm ow eo cs K P W E nt b B st j ln e nc nu nk nh ns cb 1 → GF b B c0 N0 M0 c (Wv c S V) M → IC c (Wv c S V) M gm ow b B (M 0 40) ln e (24 * (12 * b + e) + nc) nc → cn4 (Wv c S V (128 * (24 * (12 * b + e) + nc) + 6)) = k + 1 → (∀ a', M 11 b ≤ a' → a' < 4 → Wv c S V (128 * (24 * (12 * b + e) + nc) + 6) a' = -1) → (∀ Qr : Int → Mem → Prop, PM (ee + 1) n_readConstant_172 [24 * (12 * b + e) + nc, nm, 4] M Qr → Xq Qr) → XJ l G bX5_readConstant Q d 151 [vr (c 50), vr (c (128 * (24 * (12 * b + e) + nc) + 5)), vi 1, vi (k + 1)] [] S V mc ms) → XJ l G bX5_readConstant Q d 151 [vr (c 50), vr (c (128 * (24 * (12 * b + e) + nc) + 5)), vi 1, vi k] [] S V mc ms := by
    intro k st j ln V N M gm ow eo hW jj h gf ic hk hm rch ih
    obtain ⟨e0, e1, b0, b1, B0, B1⟩ := h.bd
    have ls := h.ls
    have ts := ls.ts
    have kle := cn4_le (N (128 * (24 * (12 * b + e) + nc) + 6))
    obtain ⟨ya, yb, yc, yd, ye, yf, yg⟩ := ts.x hW
    obtain ⟨v', tg, lnn⟩ := Wr hW
    obtain ⟨⟨i1, i2, i3, i4, i5⟩, ⟨i6, i7⟩, i8, i9⟩ := ic
    have z3 : V (c (128 * (24 * (12 * b + e) + nc) + 5)) 3 = c (128 * (24 * (12 * b + e) + nc) + 6) := (v' _ _ (by decide)).trans i2
    refine vX5_readConstant_151 ⟨fun y => absurd y (by omega), fun _ => ⟨fun y => absurd y (by decide), fun _ => ?_⟩⟩
    rw [z3]
    refine ⟨(tg _).trans i1, yf, CT.im (by omega) (fun d1 hd1 => rd_act (ee := ee) (xr := 24 * (12 * b + e) + nc) (Lb := 128 * (24 * (12 * b + e) + nc) + 6) (kb := 22) (bs := 4 * (24 * (12 * b + e) + nc)) (sv := 3) (lv := 3) hc hW h gf (by omega) he (Or.inr ⟨rfl, ⟨nc0, nc1⟩, rfl, rfl, rfl, rfl, rfl⟩) i9 ⟨i3, i4⟩ (fun V' M' gm' ow' eo' j' ln' a rd' gf' j1' bod' G' x40 lnle nf nneg mf a0 a1 pa pne cnd run => ⟨fun _ => ⟨yf, ?_⟩, fun y => absurd (by decide) y⟩) (fun V' M' gf' fts run => ⟨fun y => absurd rfl y, fun _ => hbad V' M' gf' fts (fun Qr hq => rch Qr (st_readConstant_172 (run _ ⟨fun _ => sn_w fts.1 (by omega) _ hq, fun y => absurd fts.1 (by omega)⟩)))⟩))⟩
    have ls' := rd'.ls
    have ts' := ls'.ts
    have zx := ts'.x (V := V') rfl
    have ic' : IC c (Wv c S V') M' gm' ow' b B (M' 0 40) ln' e (24 * (12 * b + e) + nc) nc := by
      have n5 : ∀ k, Wv c S V' (128 * (24 * (12 * b + e) + nc) + 5) k = N (128 * (24 * (12 * b + e) + nc) + 5) k := fun k => nf _ _ (by omega) (by omega) (by omega)
      unfold IC
      rw [n5, n5, n5, n5, n5, nneg _ (by decide), nneg _ (by decide), mf 20 _ (by decide), mf 21 _ (by decide)]
      refine ⟨⟨i1, i2, i3, i4, i5⟩, ⟨i6.m7 (fun i => mf _ _ (by decide)), i7⟩, ?_, bod'⟩
      rcases i8 with q | q
      · exact Or.inl q
      · exact Or.inr ⟨q.1, q.2.fr G' x40 lnle⟩
    obtain ⟨cm, hm'⟩ := cnd hm
    have kk : cn4 (Wv c S V' (128 * (24 * (12 * b + e) + nc) + 6)) = k + 1 := by rw [cn4_add (f := N (128 * (24 * (12 * b + e) + nc) + 6)) a0 a1 cm pa pne, hk]
    have kle' := cn4_le (Wv c S V' (128 * (24 * (12 * b + e) + nc) + 6))
    rw [zx.1]
    have r1 : ∀ Qr : Int → Mem → Prop, PM ee n_isSign_0 [125] M' (fun z6 M6 => (z6 = 0 → PM (ee + 1) n_readConstant_172 [24 * (12 * b + e) + nc, nm, 4] M6 Qr) ∧ (¬ (z6 = 0) → PM ee n_sign_0 [125] M6 (fun z9 M9 => Qr 0 M9))) → Xq Qr := fun Qr hq => rch Qr (st_readConstant_172 (run _ ⟨fun y => absurd ls'.w y, fun _ => hq⟩))
    refine ⟨fun k5 => ⟨by omega, by omega, ?_⟩, fun k5 => ⟨by omega, by omega, ih 3 j' ln' V' M' gm' ow' eo' (by omega) rd' gf' ic' kk hm' (fun Qr hq => r1 Qr (ts'.sg0 (by decide) (by omega) (by omega) _ ⟨fun _ => hq, fun y => absurd rfl y⟩))⟩⟩
    have acc : CT l G bX5_accept d mc ms [vr (c 50), vi 125] S V' (fun z2 S2 V2 mc2 ms2 => (z2 = 0 ∨ z2 = 1) ∧ Q z2 S2 V2) := by
      refine CT.im (by omega) (fun d2 hd2 => ?_)
      by_cases k125 : K j' = 125
      · refine ct_acc1 (e := ee - 1) hc rfl ts' k125 (by decide) (by omega) (by omega) (fun V2 M2 hW2 ts2 lx2 rn2 => ⟨Or.inr rfl, ?_⟩)
        have n2 : ∀ L k, ¬ (L = 50 ∧ 6 ≤ k ∧ k ≤ 8) → Wv c S V2 L k = Wv c S V' L k := fun L k q => by rw [hW2]; exact nPs_ne q
        have x2 : M2 0 40 = M' 0 40 := lx2 _ _ (by omega)
        refine hok V2 M2 gm' ow' eo' 3 (j' + 1) ln' (con_fin (rd'.ps (by rw [hW2]; exact ts2) (by omega) n2 lx2) ?_) (gf'.tr (fun _ _ => rfl) (fun L k q => by rw [hW2]; exact gf_nps q) (fun k i q => gf_lx lx2 q)) (by omega) (fun Qr hq => r1 Qr (ts'.sg1 (by decide) k125 (by omega) _ ⟨fun y => absurd y (by decide), fun _ => ts'.sn1 ls'.w (by decide) k125 (by omega) rn2 _ hq⟩))
        rw [x2]
        exact ic'.ps (fun L k q => n2 L k (by omega)) (fun k i q => lx2 k i (by omega))
      · refine ct_acc0 hc rfl ts' k125 (by omega) (fun V2 hW2 => ⟨Or.inl rfl, ?_⟩)
        have wp : 0 < mFt M' (if K j' = 0 then 1 else 2) (P j') 0 46 := by rw [mFt_46]; exact ftp (by decide)
        refine hbad V2 (mFt M' (if K j' = 0 then 1 else 2) (P j')) (gf'.tr (fun _ _ => rfl) (fun L k q => by rw [hW2]; exact gf_nft q) (fun k i q => gf_mft q)) (by rw [hW2]; exact FTS.ft (ftp (by decide))) (fun Qr hq => r1 Qr (ts'.sg0 (by decide) k125 (by omega) _ ⟨fun _ => ?_, fun y => absurd rfl y⟩))
        obtain ⟨e', rfl⟩ : ∃ e', ee = e' + 1 := ⟨ee - 1, by omega⟩
        exact st_readConstant_172 (st_readAct_0 (ts'.wd0 1 (by decide) (fun y => k5 (by rw [y]; decide)) (by omega) _ ⟨fun y => absurd rfl y, fun _ => ts'.ft ls'.w (by omega) _ ⟨fun _ => sn_w wp (by omega) _ hq, fun y => absurd wp (by omega)⟩⟩))
    exact vX5_readConstant_151 ⟨fun _ => ⟨yf, acc⟩, fun _ => ⟨fun _ => ⟨yf, acc⟩, fun y => absurd rfl y⟩⟩
  intro r
  induction r with
  | zero =>
    intro k st j ln V N M gm ow eo hr hW jj h gf ic hk hm rch
    exact step k st j ln V N M gm ow eo hW jj h gf ic hk hm rch (fun st j ln V M gm ow eo _ _ _ _ q _ _ => absurd (cn4_le (Wv c S V (128 * (24 * (12 * b + e) + nc) + 6))).2 (by omega))
  | succ r ih =>
    intro k st j ln V N M gm ow eo hr hW jj h gf ic hk hm rch
    exact step k st j ln V N M gm ow eo hW jj h gf ic hk hm rch (fun st j ln V M gm ow eo jj' h' gf' ic' hk' hm' rch' => ih (k + 1) st j ln V _ M gm ow eo (by omega) rfl jj' h' gf' ic' hk' hm' rch')
variable {V N M gm : Mem} {ow eo : Int → Int} {st j ln : Int}
set_option maxHeartbeats 1000000 in
/-- '{' and the acts, or nothing -/
theorem co_acc (hc : Cn c S) (hd : 95 ≤ d) (he : 110 ≤ ee) (nc0 : 0 ≤ nc) (nc1 : nc < 24) (hW : Wv c S V = N) (jj : j0 < j) (h : RDI c N M gm ow eo cs K P W E nt b B st j ln e nc nu nk nh ns cb 1) (gf : GF b B c0 N0 M0 c N M) (ic : IC c N M gm ow b B (M 0 40) ln e (24 * (12 * b + e) + nc) nc) (bz : ∀ a, 0 ≤ a → a < 4 → N (128 * (24 * (12 * b + e) + nc) + 6) a = -1)
    (hok : ∀ V' M' gm' ow' eo' st' j' ln', RDI c (Wv c S V') M' gm' ow' eo' cs K P W E nt b B st' j' ln' e (nc + 1) nu nk nh ns cb 0 → GF b B c0 N0 M0 c (Wv c S V') M' → j0 < j' → (∀ Qr : Int → Mem → Prop, Qr 0 M' → Xq Qr) → Q 1 S V')
    (hbad : ∀ V' M', GF b B c0 N0 M0 c (Wv c S V') M' → FTS (Wv c S V') M' → (∀ Qr : Int → Mem → Prop, Qr 0 M' → Xq Qr) → Q 0 S V')
    (rch : ∀ Qr : Int → Mem → Prop, PM ee n_isSign_0 [123] M (fun z8 M8 => (z8 ≠ 0 → PM ee n_next_0 [] M8 (fun z11 M11 => PM (ee + 1) n_readConstant_172 [24 * (12 * b + e) + nc, nm, 4] M11 Qr)) ∧ (¬ (z8 ≠ 0) → Qr 0 M8)) → Xq Qr) :
    (K j = 123 → CT l G bX5_accept d mc ms [vr (c 50), vi 123] S V (fun z35 S35 V35 mc35 ms35 => XJ l G bX5_readConstant Q d 151 [vr (c 50), vr (c (128 * (24 * (12 * b + e) + nc) + 5)), vi 1, vi 0] [] S35 V35 mc35 ms35)) ∧ (¬ (K j = 123) → Q 1 S V) := by
  obtain ⟨e0, e1, b0, b1, B0, B1⟩ := h.bd
  have ls := h.ls
  have ts := ls.ts
  have na0 := h.hb.na0
  subst hW
  refine ⟨fun k123 => CT.im (by omega) (fun d2 hd2 => ct_acc1 (e := ee) hc rfl ts k123 (by decide) (by omega) (by omega) (fun V2 M2 hW2 ts2 lx2 rn2 => ?_)), fun k123 => hok V M gm ow eo st j ln (con_fin h ic) gf jj (fun Qr hq => rch Qr (ts.sg0 (by decide) k123 (by omega) _ ⟨fun y => absurd rfl y, fun _ => hq⟩))⟩
  have n2 : ∀ L k, ¬ (L = 50 ∧ 6 ≤ k ∧ k ≤ 8) → Wv c S V2 L k = Wv c S V L k := fun L k q => by rw [hW2]; exact nPs_ne q
  have x2 : M2 0 40 = M 0 40 := lx2 _ _ (by omega)
  refine co_acts hc (by omega) he nc0 nc1 hok hbad 4 0 st (j + 1) ln V2 _ M2 gm ow eo (by omega) rfl (by omega) (h.ps (by rw [hW2]; exact ts2) (by omega) n2 lx2) (gf.tr (fun _ _ => rfl) (fun L k q => by rw [hW2]; exact gf_nps q) (fun k i q => gf_lx lx2 q)) ?_ ?_ (fun a' a0 a1 => ?_) (fun Qr hq => rch Qr (ts.sg1 (by decide) k123 (by omega) _ ⟨fun _ => rn2 _ hq, fun y => absurd (by decide) y⟩))
  · rw [x2]
    exact ic.ps (fun L k q => n2 L k (by omega)) (fun k i q => lx2 k i (by omega))
  · have bz2 : ∀ a, 0 ≤ a → a < 4 → Wv c S V2 (128 * (24 * (12 * b + e) + nc) + 6) a = -1 := fun a a0 a1 => (n2 _ _ (by omega)).trans (bz a a0 a1)
    unfold cn4
    rw [if_pos (bz2 0 (by decide) (by decide)), if_pos (bz2 1 (by decide) (by decide)), if_pos (bz2 2 (by decide) (by decide)), if_pos (bz2 3 (by decide) (by decide))]
    rfl
  · have m11 : M2 11 b = M 11 b := lx2 _ _ (by omega)
    exact (n2 _ _ (by omega)).trans (bz a' (by omega) a1)
end COA
