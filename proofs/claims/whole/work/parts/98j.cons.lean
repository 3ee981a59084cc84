/-! ===== book: a constant ===== -/
section COM
variable {c c' : Int → Int} {N N' M M' gm : Mem} {ow eo cs K P W E : Int → Int} {nt b B st j j' ln e nc nu nk nh ns cb w nm : Int}
set_option maxHeartbeats 1000000 in
theorem co_mid (h : RDI c N M gm ow eo cs K P W E nt b B st j ln e nc nu nk nh ns cb 0) (nc24 : nc < 24) (fc : ∀ L, L ≠ 128 * (24 * (12 * b + e) + nc) + 5 → L ≠ 128 * (24 * (12 * b + e) + nc) + 6 → c' L = c L) (n : ∀ L k, ¬ (L = 50 ∧ 6 ≤ k ∧ k ≤ 9) → L ≠ 128 * (24 * (12 * b + e) + nc) + 5 → L ≠ 128 * (24 * (12 * b + e) + nc) + 6 → ¬ (L = 128 * (12 * b + e) + 3 ∧ k = 4) → ¬ (L = 128 * (12 * b + e) + 4 ∧ k = nc) → N' L k = N L k) (n4 : N' (128 * (12 * b + e) + 3) 4 = nc + 1) (na : N' (128 * (12 * b + e) + 4) nc = c' (128 * (24 * (12 * b + e) + nc) + 5)) (p1 : N' (128 * (24 * (12 * b + e) + nc) + 5) (-1) = 3) (p2 : N' (128 * (24 * (12 * b + e) + nc) + 5) 0 = w) (p3 : N' (128 * (24 * (12 * b + e) + nc) + 5) 1 = -1) (p4 : N' (128 * (24 * (12 * b + e) + nc) + 5) 2 = 0) (p5 : N' (128 * (24 * (12 * b + e) + nc) + 5) 3 = c' (128 * (24 * (12 * b + e) + nc) + 6)) (p6 : N' (128 * (24 * (12 * b + e) + nc) + 6) (-1) = 20) (p7 : N' (128 * (24 * (12 * b + e) + nc) + 6) (-2) = 4) (p8 : ∀ a, 0 ≤ a → a < 4 → N' (128 * (24 * (12 * b + e) + nc) + 6) a = -1)
    (m : ∀ k i, ¬ (k = 0 ∧ 3 ≤ i ∧ i ≤ 6) → ¬ (k = 14 ∧ i = 12 * b + e) → ¬ ((k = 20 ∨ k = 21) ∧ i = 24 * (12 * b + e) + nc) → ¬ (k = 22 ∧ 4 * (24 * (12 * b + e) + nc) ≤ i ∧ i < 4 * (24 * (12 * b + e) + nc) + 4) → M' k i = M k i) (m14 : M' 14 (12 * b + e) = nc + 1) (m20 : M' 20 (24 * (12 * b + e) + nc) = nm) (m21 : M' 21 (24 * (12 * b + e) + nc) = -1) (m22 : ∀ a, 0 ≤ a → a < 4 → M' 22 (4 * (24 * (12 * b + e) + nc) + a) = -1) (nr : NR M w nm ∧ nm / 16 + nm % 16 ≤ 3000 * (b + 1)) (ts : TS c' N' M' K P W E nt j') (jj : j ≤ j') : RDI c' N' M' gm ow eo cs K P W E nt b B st j' ln e nc nu nk nh ns cb 1 ∧ IC c' N' M' gm ow b B (M' 0 40) ln e (24 * (12 * b + e) + nc) nc ∧ fCn b e ln c N c' N' ∧ fCm b e (M 0 40) (M 0 51) M M' := by
  obtain ⟨e0, e1, b0, b1, B0, B1⟩ := h.bd
  have hE := h.he
  have ls := h.ls
  have l0 := ls.l0
  obtain ⟨q14, q15, q16, q17, q18⟩ := h.ct
  have nc0 : 0 ≤ nc := by have := hE.nc0; omega
  have tc : ∀ k, k = 5 ∨ k = 6 → cuN b e (128 * (24 * (12 * b + e) + nc) + k) := fun k q => cun5 q nc0 nc24
  have fn : fCn b e ln c N c' N' := ⟨fun L q => fc L (fun y => q (by rw [y]; exact tc 5 (by omega))) (fun y => q (by rw [y]; exact tc 6 (by omega))), fun L k q1 q2 q3 q4 q5 q6 => n L k (by omega) (fun y => q1 (by rw [y]; exact tc 5 (by omega))) (fun y => q1 (by rw [y]; exact tc 6 (by omega))) (fun y => q1 (by rw [y.1]; exact cu3 (by omega))) (fun y => q1 (by rw [y.1]; exact cu3 (by omega))), fc _ (by omega) (by omega), n _ _ (by omega) (by omega) (by omega) (by omega) (by omega), n _ _ (by omega) (by omega) (by omega) (by omega) (by omega)⟩
  have fm : fCm b e (M 0 40) (M 0 51) M M' := fun k i q => m k i (fun y => q (Or.inl ⟨y.1, by omega⟩)) (fun y => q (by rw [y.1, y.2]; exact cum1 (by decide) (by decide))) (fun y => q (by rw [y.2]; exact cum20 (by omega) nc0 nc24)) (fun y => q (Or.inr (Or.inr (Or.inr (Or.inr (Or.inr (Or.inr (Or.inl ⟨y.1, by omega, by omega⟩))))))))
  have GA : GRW (M 0 40) ln (M 0 51) N M gm ow N' M' gm ow := fC_grw (fun _ _ _ => rfl) (fun _ _ => rfl) fn fm
  have x40 : M' 0 40 = M 0 40 := m _ _ (by omega) (by omega) (by omega) (by omega)
  have mq : ∀ k i, k ≠ 0 → ¬ (k = 14 ∧ i = 12 * b + e) → ¬ ((k = 20 ∨ k = 21) ∧ i = 24 * (12 * b + e) + nc) → ¬ (k = 22 ∧ 4 * (24 * (12 * b + e) + nc) ≤ i ∧ i < 4 * (24 * (12 * b + e) + nc) + 4) → M' k i = M k i := fun k i q0 q1 q2 q3 => m k i (by omega) q1 q2 q3
  have nq : ∀ L k, L ≠ 50 → L ≠ 128 * (24 * (12 * b + e) + nc) + 5 → L ≠ 128 * (24 * (12 * b + e) + nc) + 6 → ¬ (L = 128 * (12 * b + e) + 3 ∧ k = 4) → ¬ (L = 128 * (12 * b + e) + 4 ∧ k = nc) → N' L k = N L k := fun L k q0 q1 q2 q3 q4 => n L k (by omega) q1 q2 q3 q4
  have mc' : ∀ k, 13 ≤ k → k ≤ 18 → k ≠ 14 → M' k (12 * b + e) = M k (12 * b + e) := fun k k1 k2 k3 => mq _ _ (by omega) (by omega) (by omega) (by omega)
  have ei : EI c' N' M' gm ow K P W E nt b B (M' 0 40) ln e nc nu nk nh ns := by
    rw [x40]
    refine h.ei.fr GA ls.r (Int.le_refl _) (Int.le_refl _) (fun L k q => ⟨fc L (itn_nq q).1 (itn_nq q).2.1, nq L k (fun y => ?_) (itn_nq q).1 (itn_nq q).2.1 (fun y => (itn_ne q).2.1 y.1) (fun y => (itn_ne q).2.2.1 y.1)⟩) (fun k i q => mq k i (itm_ne q).1 (fun y => (itm_ne q).2.2.2.1 (by omega)) (fun y => (itm_ne q).2.2.2.2.2.2.2.1 ⟨y.1, by omega⟩) (fun y => (itm_ne q).2.2.2.2.2.2.1 ⟨y.1, by omega⟩))
    have := (itn_ne q).1
    omega
  have wd : WLD N' M' gm ow eo cs K P E nt b B (M' 0 40) ln e (N (128 * (12 * b + e) + 3) 1) cb := by
    rw [x40]
    exact h.wd.fr GA ls.r
  have ls' : MLS c' N' M' K P W E nt b (12 * b + e) st B j' ln := ls.fr (st' := st) ts ((n _ _ (by omega) (by omega) (by omega) (by omega) (by omega)).trans ls.sv) ((nq _ _ (by omega) (by omega) (by omega) (by omega) (by omega)).trans ls.lv) (fun i _ _ => nq _ _ (by omega) (by omega) (by omega) (by omega) (by omega)) jj (m _ _ (by omega) (by omega) (by omega) (by omega)) x40 ((m _ _ (by omega) (by omega) (by omega) (by omega)).trans ls.w) ((n _ _ (by omega) (by omega) (by omega) (by omega) (by omega)).trans ls.f) (m _ _ (by omega) (by omega) (by omega) (by omega)) (m _ _ (by omega) (by omega) (by omega) (by omega))
  refine ⟨h.nx fn fm GA (by omega) (Int.le_refl _) (fun _ _ => rfl) ls' (h.hb.cu e0 b0 fn fm (fun k _ => nq _ _ (by omega) (by omega) (by omega) (by omega) (by omega)) (nq _ _ (by omega) (by omega) (by omega) (by omega) (by omega)) (mq _ _ (by omega) (by omega) (by omega) (by omega)) (fun i _ _ => mq _ _ (by omega) (by omega) (by omega) (by omega))) ?_ ⟨m14, (mc' 15 (by decide) (by decide) (by decide)).trans q15, (mc' 16 (by decide) (by decide) (by decide)).trans q16, (mc' 17 (by decide) (by decide) (by decide)).trans q17, (mc' 18 (by decide) (by decide) (by decide)).trans q18⟩ ei wd, ?_, fn, fm⟩
  · refine hE.gen (fun L q => fc L (by unfold hdL at q; omega) (by unfold hdL at q; omega)) (fun L k q1 q2 q3 => nq L k (by unfold hdL at q1; omega) (by unfold hdL at q1; omega) (by unfold hdL at q1; omega) (by omega) (by omega)) (mc' 13 (by decide) (by decide) (by decide)) (fun i => mq _ _ (by omega) (by omega) (by omega) (by omega)) ?_ ?_ ?_ ?_ ?_ ?_ ?_ ?_
    · rw [n4, m14]; exact ⟨rfl, by omega, by omega⟩
    · rw [nq _ _ (by omega) (by omega) (by omega) (by omega) (by omega), mc' 15 (by decide) (by decide) (by decide)]; exact ⟨hE.nt, hE.nt0, hE.nt1⟩
    · rw [nq _ _ (by omega) (by omega) (by omega) (by omega) (by omega), mc' 16 (by decide) (by decide) (by decide)]; exact ⟨hE.nk, hE.nk0, hE.nk1⟩
    · rw [nq _ _ (by omega) (by omega) (by omega) (by omega) (by omega), mc' 17 (by decide) (by decide) (by decide)]; exact ⟨hE.nh, hE.nh0, hE.nh1⟩
    · rw [nq _ _ (by omega) (by omega) (by omega) (by omega) (by omega), mc' 18 (by decide) (by decide) (by decide)]; exact ⟨hE.nw, hE.nw0, hE.nw1⟩
    · intro i i0 i1
      rw [m14] at i1
      by_cases y : i = nc
      · subst y
        exact ⟨na, p1⟩
      · rw [nq _ _ (by omega) (by omega) (by omega) (by omega) (by omega), nq _ _ (by omega) (by omega) (by omega) (by omega) (by omega), fc _ (by omega) (by omega)]; exact hE.ci i i0 (by omega)
    · intro i i0 i1
      rw [mc' 15 (by decide) (by decide) (by decide)] at i1
      rw [nq _ _ (by omega) (by omega) (by omega) (by omega) (by omega), nq _ _ (by omega) (by omega) (by omega) (by omega) (by omega), fc _ (by omega) (by omega)]; exact hE.ti i i0 i1
    · intro i i0 i1
      rw [mc' 18 (by decide) (by decide) (by decide)] at i1
      rw [nq _ _ (by omega) (by omega) (by omega) (by omega) (by omega), nq _ _ (by omega) (by omega) (by omega) (by omega) (by omega), fc _ (by omega) (by omega)]; exact hE.si i i0 i1
  · refine ⟨⟨p1, p5, p6, p7, p4⟩, ?_, Or.inl ⟨p3, m21⟩, fun a a0 a1 => Or.inl ⟨p8 a a0 a1, m22 a a0 a1⟩⟩
    rw [p2, m20]
    exact ⟨nr.1.m7 (fun i => mq _ _ (by omega) (by omega) (by omega) (by omega)), nr.2⟩
end COM
section COR
variable {l : Launch} {G : GT} {c c0 : Int → Int} {S : Sh} {V N M gm N0 M0 : Mem} {Q : Int → Sh → Mem → Prop} {d ee mq mp : Nat} {ow eo cs K P W E : Int → Int} {nt b B st j ln e nc nu nk nh ns cb : Int}
set_option maxHeartbeats 2000000 in
theorem rd_constant (hc : Cn c S) (h0 : 0 ≤ S.2.2) (hW : Wv c S V = N) (h : RDI c N M gm ow eo cs K P W E nt b B st j ln e nc nu nk nh ns cb 0) (gf : GF b B c0 N0 M0 c N M) (hd : 100 ≤ d) (he : 110 ≤ ee) (hb : nc < 24 → 2 ≤ mq ∧ 8 ≤ mp)
    (hok : ∀ c' S' V' M' gm' ow' eo' st' j' ln', Cn c' S' → 0 ≤ S'.2.2 → c' 50 = c 50 → RDI c' (Wv c' S' V') M' gm' ow' eo' cs K P W E nt b B st' j' ln' e (nc + 1) nu nk nh ns cb 0 → GF b B c0 N0 M0 c' (Wv c' S' V') M' → j < j' → nc < 24 → RunM (ee + 1) n_readConstant_0 [] M 0 M' → Q 1 S' V')
    (hbad : ∀ c' S' V' M', Cn c' S' → 0 ≤ S'.2.2 → GF b B c0 N0 M0 c' (Wv c' S' V') M' → FTS (Wv c' S' V') M' → RunM (ee + 1) n_readConstant_0 [] M 0 M' → Q 0 S' V') : Ct l G bX5_readConstant Q d mq mp [vr (c 50)] S V := by
  obtain ⟨e0, e1, b0, b1, B0, B1⟩ := h.bd
  have ls := h.ls
  have ts := ls.ts
  have hE := h.he
  have ntb := ts.ntb
  have l0 := ls.l0
  have lj := ls.lj
  have w0 := ls.w
  have q14 : M 14 (12 * b + e) = nc := by have := h.ct.1; omega
  have u0 : 0 ≤ nc := by have := hE.nc0; omega
  have u1 : nc ≤ 24 := by have := hE.nc1; omega
  obtain ⟨ya, yb, yc, yd, ye, yf, yg⟩ := ts.x hW
  obtain ⟨v', tg, lnn⟩ := Wr hW
  have y4 : V (c 50) 4 = c (128 * (12 * b + e) + 3) := (v' _ _ (by decide)).trans h.cu
  have y44 : V (c (128 * (12 * b + e) + 3)) 4 = nc := (v' _ _ (by decide)).trans (hE.nc.trans q14)
  have BX : B ≤ M 0 40 := h.wd.2.2.2.2.2.2.1
  have gE : S.1 (c (128 * (12 * b + e) + 3)) = 4 := (tg _).trans hE.tg
  have nrj : 3 ≤ K j → K j ≤ 15 → NR M (W j) (nmv P E b j) ∧ nmv P E b j / 16 + nmv P E b j % 16 ≤ 3000 * (b + 1) := fun q1 q2 => ts.nr b0 b1 h.tx q1 q2
  obtain ⟨z, rt, hz⟩ := rn_tells (e := ee) ts ls.g41 (by omega) (by omega) hE.nc1 hE.nt1 hE.nh1 hE.nw1 h.ens ls.b9 b0 b1 (fun q1 q2 => (nrj q1 q2).1) (by omega)
  have pre : ∀ Qr : Int → Mem → Prop, PM ee n_newName_0 [z] M (fun z4 M4 => ((M4 0 46) ≤ 0 → 0 ≤ (M4 0 41) ∧ (M4 0 41) < 120 ∧ ((M4 14 (M4 0 41)) ≠ 24 → 0 ≤ ((24 * (12 * b + e)) + nc) ∧ ((24 * (12 * b + e)) + nc) < 2880 ∧ -2147483648 ≤ (M4 14 (M4 0 41)) + 1 ∧ (M4 14 (M4 0 41)) + 1 ≤ 2147483647 ∧ PM (ee + 1) n_readConstant_93 [(24 * (12 * b + e)) + nc, z4, 0] (up (up (up M4 20 ((24 * (12 * b + e)) + nc) z4) 14 (M4 0 41) ((M4 14 (M4 0 41)) + 1)) 21 ((24 * (12 * b + e)) + nc) (-1)) Qr) ∧ (¬ ((M4 14 (M4 0 41)) ≠ 24) → PM ee n_fault_0 [5] M4 (fun z8 M8 => Qr 0 M8))) ∧ (¬ ((M4 0 46) ≤ 0) → Qr 0 M4)) → PM (ee + 1) n_readConstant_0 [] M Qr := fun Qr hq => st_readConstant_0 (by
    unfold B_readConstant_0
    rw [ls.g41, q14]
    exact ⟨fun _ => ⟨by omega, by omega, by omega, by omega, by omega, by omega, rt _ hq⟩, fun y => absurd (by omega) y⟩)
  have bad : ∀ (kk rm f : Int), ((K j ≠ 3 ∧ f = 2) ∨ (K j = 3 ∧ kk ≠ 0 ∧ f = 3) ∨ (K j = 3 ∧ kk = 0 ∧ rm = 0 ∧ f = 5)) → (∀ Qr : Int → Mem → Prop, Qr 0 (mFt M (if K j = 0 then 1 else f) (P j)) → PM (ee + 1) n_readConstant_0 [] M Qr) → ∀ K' : Int → Sh → Mem → Nat → Nat → Prop, (∀ V2, Q 0 S V2 → K' 0 S V2 mq mp) → CT l G bX5_acceptNew d mq mp [vr (c 50), vi kk, vi rm] S V K' := by
    intro kk rm f hf href K' hk
    have fpos : 0 < (if K j = 0 then 1 else f) := ftp (by omega)
    refine CT.im (by omega) (fun d2 hd2 => ct_new0 (f := f) hc hW ts hf (by omega) (fun V2 hV2 => hk V2 ?_))
    refine hbad c S V2 (mFt M (if K j = 0 then 1 else f) (P j)) hc h0 (gf.tr (fun _ _ => rfl) (fun L k q => ?_) (fun k i q => gf_mft q)) ?_ (fun Qr hq => href Qr hq)
    · rcases hV2 with hV2 | hV2
      · rw [hV2, gf_nft q]
      · rw [hV2, gf_nft q, nNn_ne (fun y => q (Or.inr (Or.inl ⟨y.1, by omega, by omega⟩)))]
    · rcases hV2 with hV2 | hV2
      · rw [hV2]; exact FTS.ft fpos
      · rw [hV2]; exact FTS.ft fpos
  have wf : ∀ f : Int, 0 < f → ¬ (mFt M (if K j = 0 then 1 else f) (P j) 0 46 ≤ 0) := fun f hf => by
    have : 0 < mFt M (if K j = 0 then 1 else f) (P j) 0 46 := by rw [mFt_46]; exact ftp hf
    omega
  have ref2 : K j ≠ 3 → ∀ Qr : Int → Mem → Prop, Qr 0 (mFt M (if K j = 0 then 1 else 2) (P j)) → PM (ee + 1) n_readConstant_0 [] M Qr := fun k3 Qr hq => pre Qr (ts.new0 (f := 2) (Or.inl ⟨k3, rfl⟩) w0 (by omega) _ ⟨fun y => absurd y (wf 2 (by decide)), fun _ => hq⟩)
  have ref3 : K j = 3 → z ≠ 0 → ∀ Qr : Int → Mem → Prop, Qr 0 (mFt M (if K j = 0 then 1 else 3) (P j)) → PM (ee + 1) n_readConstant_0 [] M Qr := fun k3 z0 Qr hq => pre Qr (ts.new0 (f := 3) (Or.inr ⟨k3, z0, rfl⟩) w0 (by omega) _ ⟨fun y => absurd y (wf 3 (by decide)), fun _ => hq⟩)
  have all : ∀ rm kk : Int, (K j = 3 → kk ≠ 0) → (K j = 3 → z ≠ 0) → ∀ K' : Int → Sh → Mem → Nat → Nat → Prop, (∀ V2, Q 0 S V2 → K' 0 S V2 mq mp) → CT l G bX5_acceptNew d mq mp [vr (c 50), vi kk, vi rm] S V K' := fun rm kk hk hz0 K' hK => by
    by_cases k3 : K j = 3
    · exact bad kk rm 3 (Or.inr (Or.inl ⟨k3, hk k3, rfl⟩)) (ref3 k3 (hz0 k3)) K' hK
    · exact bad kk rm 2 (Or.inl ⟨k3, rfl⟩) (ref2 k3) K' hK
  refine qX5_readConstant fun c50 => vX5_readConstant_0 ?_
  rw [y4, yb]
  refine ⟨yf, gE, CT.pu (by omega) (fun d1 hd1 => ct_knows hW hE (by omega) (fun kp => ?_) (fun kp => ?_))⟩
  · refine ⟨rfl, rfl, ?_⟩
    rw [y4, y44]
    exact ⟨yf, gE, fun _ => all 0 1 (fun _ => by decide) (fun k3 => by rw [(hz k3).1 kp]; decide) _ (fun V2 hq => ⟨fun y => absurd rfl y, fun _ => hq⟩), fun _ => all 1 1 (fun _ => by decide) (fun k3 => by rw [(hz k3).1 kp]; decide) _ (fun V2 hq => ⟨fun y => absurd rfl y, fun _ => hq⟩)⟩
  refine ⟨rfl, rfl, ?_⟩
  rw [y4, y44]
  by_cases k3 : K j = 3
  rotate_left
  · exact ⟨yf, gE, fun _ => all 0 0 (fun y => absurd y k3) (fun y => absurd y k3) _ (fun V2 hq => ⟨fun y => absurd rfl y, fun _ => hq⟩), fun _ => all 1 0 (fun y => absurd y k3) (fun y => absurd y k3) _ (fun V2 hq => ⟨fun y => absurd rfl y, fun _ => hq⟩)⟩
  have z0 := (hz k3).2 kp
  subst z0
  have nn1 := ts.new1 (e := ee) k3 w0 ls.b9 b0 b1 (by omega)
  refine ⟨yf, gE, fun c24 => bad 0 0 5 (Or.inr (Or.inr ⟨k3, rfl, rfl, rfl⟩)) (fun Qr hq => pre Qr (nn1 _ ⟨fun _ => ?_, fun y => absurd (by omega) y⟩)) _ (fun V2 hq => ⟨fun y => absurd rfl y, fun _ => hq⟩), fun c24 => ?_⟩
  · rw [ls.g41, q14]
    exact ⟨by omega, by omega, fun y => absurd (by omega) y, fun _ => ts.ft w0 (by omega) _ hq⟩
  obtain ⟨nm, hnm⟩ : ∃ nm, nm = nmv P E b j := ⟨_, rfl⟩
  have nr := nrj (by omega) (by omega)
  rw [← hnm] at nr nn1
  obtain ⟨M93, r93, f93, b93⟩ := con93 (e := ee) (q := 24 * (12 * b + e) + nc) (nm := nm) (by omega) (by omega) 4 0 (up (up (up M 20 (24 * (12 * b + e) + nc) nm) 14 (12 * b + e) (nc + 1)) 21 (24 * (12 * b + e) + nc) (-1)) (by decide) (by decide)
  have ref : ∀ Qr : Int → Mem → Prop, PM ee n_next_0 [] M93 (fun z2 M2 => KC ee (24 * (12 * b + e) + nc) nm Qr M2) → PM (ee + 1) n_readConstant_0 [] M Qr := fun Qr hq => pre Qr (nn1 _ ⟨fun _ => by
    rw [ls.g41, q14]
    exact ⟨by omega, by omega, fun _ => ⟨by omega, by omega, by omega, by omega, r93 Qr (st_readConstant_93 ⟨fun _ => hq, fun y => absurd (Int.le_refl _) y⟩)⟩, fun y => absurd (by omega) y⟩, fun y => absurd (by omega) y⟩)
  have mu : ∀ k i, ¬ (k = 14 ∧ i = 12 * b + e) → ¬ ((k = 20 ∨ k = 21) ∧ i = 24 * (12 * b + e) + nc) → ¬ (k = 22 ∧ 4 * (24 * (12 * b + e) + nc) ≤ i ∧ i < 4 * (24 * (12 * b + e) + nc) + 4) → M93 k i = M k i := fun k i q1 q2 q3 => (f93 k i (by omega)).trans (by rw [up_ne' (by omega), up_ne' (by omega), up_ne' (by omega)])
  have mu14 : M93 14 (12 * b + e) = nc + 1 := (f93 _ _ (by omega)).trans (by rw [up_ne' (by omega), up_eq])
  have mu20 : M93 20 (24 * (12 * b + e) + nc) = nm := (f93 _ _ (by omega)).trans (by rw [up_ne' (by omega), up_ne' (by omega), up_eq])
  have mu21 : M93 21 (24 * (12 * b + e) + nc) = -1 := (f93 _ _ (by omega)).trans up_eq
  have ts93 : TS c N M93 K P W E nt j := ts.fr (fun _ _ => rfl) (fun _ _ _ => rfl) (fun i hi => mu _ _ (by omega) (by omega) (by omega)) (fun i => mu _ _ (by omega) (by omega) (by omega))
  refine CT.im (by omega) (fun d2 hd2 => ct_new1 (e := ee) hc hW ts93 k3 (by omega) (by omega) (fun V2 M2 hW2 ts2 lx2 rn2 => ⟨fun _ => ?_, fun y => absurd (by decide) y⟩))
  have m2 : ∀ k i, ¬ (k = 0 ∧ 3 ≤ i ∧ i ≤ 6) → ¬ (k = 14 ∧ i = 12 * b + e) → ¬ ((k = 20 ∨ k = 21) ∧ i = 24 * (12 * b + e) + nc) → ¬ (k = 22 ∧ 4 * (24 * (12 * b + e) + nc) ≤ i ∧ i < 4 * (24 * (12 * b + e) + nc) + 4) → M2 k i = M k i := fun k i q0 q1 q2 q3 => (lx2 k i q0).trans (mu k i q1 q2 q3)
  have m214 : M2 14 (12 * b + e) = nc + 1 := (lx2 _ _ (by omega)).trans mu14
  have m220 : M2 20 (24 * (12 * b + e) + nc) = nm := (lx2 _ _ (by omega)).trans mu20
  have m221 : M2 21 (24 * (12 * b + e) + nc) = -1 := (lx2 _ _ (by omega)).trans mu21
  have m222 : ∀ a, 0 ≤ a → a < 4 → M2 22 (4 * (24 * (12 * b + e) + nc) + a) = -1 := fun a a0 a1 => (lx2 _ _ (by omega)).trans (b93 _ (by omega) (by omega))
  have n2 : ∀ L k, ¬ (L = 50 ∧ 6 ≤ k ∧ k ≤ 9) → Wv c S V2 L k = N L k := fun L k q => by rw [hW2, nPs_ne (by omega), nNn_ne (by omega)]
  have n29 : Wv c S V2 50 9 = W j := by rw [hW2, nPs_ne (by omega)]; exact up_eq
  have ts2' : TS c (Wv c S V2) M2 K P W E nt (j + 1) := by rw [hW2]; exact ts2
  have ref' : ∀ Qr : Int → Mem → Prop, KC ee (24 * (12 * b + e) + nc) nm Qr M2 → PM (ee + 1) n_readConstant_0 [] M Qr := fun Qr hq => ref Qr (rn2 _ hq)
  have bb := hb (by omega)
  clear r93 f93 b93 ref pre
  generalize hM2 : M2 = M2' at *
  obtain ⟨q, hq0⟩ : ∃ q, q = 24 * (12 * b + e) + nc := ⟨_, rfl⟩
  refine ⟨by omega, by omega, ?_⟩
  intro S3 V3 r3 mc3 ms3 z1 z2 z3 z4 z5
  subst z1 z2 z3 z4 z5
  obtain ⟨c3, hc3, h3, hW3, e3, f3⟩ := al (L := 128 * q + 5) (t := 3) (n := 0) hc h0 (rfl : Wv c S V2 = Wv c S V2)
  have x50 : c 50 = c3 50 := (f3 50 (by omega)).symm
  have hn9 : clr V2 (S.2.2 + 1) (c 50) 9 = W j := by rw [x50, (Wr hW3).1 _ _ (by decide), nwl_ne (by omega)]; exact n29
  generalize nw S 3 0 = S3 at *
  generalize clr V2 (S.2.2 + 1) = V3 at *
  generalize hr3 : S.2.2 + 1 = r3 at *
  rw [hn9]
  refine ⟨by rw [x50, (Wr hW3).2.1, nwl_ne (by omega), n2 _ _ (by omega)]; exact ls.ts.rd.g50, by rw [← e3]; exact (hc3.2 _).1, ?_⟩
  refine CT.of (d - 1) 1 4 (ct_conInit (q := q) (w := W j) (Q := fun _ S5 V5 => ∃ c5 N5, Cn c5 S5 ∧ 0 ≤ S5.2.2 ∧ Wv c5 S5 V5 = N5 ∧ (∀ L, L ≠ 128 * q + 6 → c5 L = c3 L) ∧ (∀ L k, L ≠ 128 * q + 5 → L ≠ 128 * q + 6 → N5 L k = nwl (Wv c S V2) (128 * q + 5) 3 0 L k) ∧ N5 (128 * q + 5) (-1) = 3 ∧ N5 (128 * q + 5) 0 = W j ∧ N5 (128 * q + 5) 1 = -1 ∧ N5 (128 * q + 5) 2 = 0 ∧ N5 (128 * q + 5) 3 = c5 (128 * q + 6) ∧ N5 (128 * q + 6) (-1) = 20 ∧ N5 (128 * q + 6) (-2) = 4 ∧ (∀ a, 0 ≤ a → a < 4 → N5 (128 * q + 6) a = -1)) hc3 h3 hW3 e3 nwl_tag (by unfold nwl; rw [if_pos rfl, if_neg (by omega), if_neg (by omega)]) (by omega) (fun c' S' V' N' a1 a2 a3 a4 a5 a6 a7 a8 a9 a10 a11 a12 a13 => ⟨c', N', a1, a2, a3, a4, a5, a6, a7, a8, a9, a10, a11, a12, a13⟩)) (by omega) (by omega) (by omega) (fun z5 S5 V5 hq5 => ?_)
  obtain ⟨c5, N5, hc5, h5, hW5, f5, n5, k0, k1, k2, k3', k4, k5, k6, k7⟩ := hq5
  have fc : ∀ L, L ≠ 128 * q + 5 → L ≠ 128 * q + 6 → c5 L = c L := fun L q1 q2 => (f5 L q2).trans (f3 L q1)
  have nn : ∀ L k, ¬ (L = 50 ∧ 6 ≤ k ∧ k ≤ 9) → L ≠ 128 * q + 5 → L ≠ 128 * q + 6 → N5 L k = N L k := fun L k q0 q1 q2 => by rw [n5 L k q1 q2, nwl_ne q1, n2 L k q0]
  have y50 : c 50 = c5 50 := (fc 50 (by omega) (by omega)).symm
  have y3 : r3 = c5 (128 * q + 5) := by rw [f5 _ (by omega)]; exact e3.symm
  obtain ⟨v5, tg5, ln5⟩ := Wr hW5
  have d4 : V5 (c 50) 4 = c5 (128 * (12 * b + e) + 3) := by rw [y50, v5 _ _ (by decide), nn _ _ (by omega) (by omega) (by omega), fc _ (by omega) (by omega)]; exact h.cu
  have d8 : V5 (c5 (128 * (12 * b + e) + 3)) 4 = nc := by rw [v5 _ _ (by decide), nn _ _ (by omega) (by omega) (by omega)]; exact hE.nc.trans q14
  have d7 : V5 (c5 (128 * (12 * b + e) + 3)) 3 = c5 (128 * (12 * b + e) + 4) := by rw [v5 _ _ (by decide), nn _ _ (by omega) (by omega) (by omega), fc _ (by omega) (by omega)]; exact hE.rc
  have d57 : V5 (c 50) 7 = K (j + 1) := by rw [y50, v5 _ _ (by decide), n5 _ _ (by omega) (by omega), nwl_ne (by omega)]; exact ts2'.k
  rw [d4, d8, d7, d57]
  have g50 : S5.1 (c 50) = 6 := by rw [y50, tg5, nn _ _ (by omega) (by omega) (by omega)]; exact ls.ts.rd.g50
  refine ⟨g50, by rw [tg5, nn _ _ (by omega) (by omega) (by omega)]; exact hE.tg, by rw [tg5, nn _ _ (by omega) (by omega) (by omega)]; exact hE.tc, by rw [y3, tg5]; exact k0, u0, by rw [ln5, nn _ _ (by omega) (by omega) (by omega), hE.lc]; omega, by omega, by omega, ?_⟩
  rw [y3, y50]
  have hW6 : Wv c5 S5 (up (up V5 (c5 (128 * (12 * b + e) + 4)) nc (c5 (128 * q + 5))) (c5 (128 * (12 * b + e) + 3)) 4 (nc + 1)) = up (up N5 (128 * (12 * b + e) + 4) nc (c5 (128 * q + 5))) (128 * (12 * b + e) + 3) 4 (nc + 1) := by rw [Wv_up hc5 (by decide), Wv_up hc5 u0, hW5]
  have n6 : ∀ L k, ¬ (L = 128 * (12 * b + e) + 4 ∧ k = nc) → ¬ (L = 128 * (12 * b + e) + 3 ∧ k = 4) → up (up N5 (128 * (12 * b + e) + 4) nc (c5 (128 * q + 5))) (128 * (12 * b + e) + 3) 4 (nc + 1) L k = N5 L k := fun L k q1 q2 => by rw [up_ne' (by omega), up_ne' (by omega)]
  have n6a : up (up N5 (128 * (12 * b + e) + 4) nc (c5 (128 * q + 5))) (128 * (12 * b + e) + 3) 4 (nc + 1) (128 * (12 * b + e) + 4) nc = c5 (128 * q + 5) := by rw [up_ne' (by omega), up_eq]
  have n6b : up (up N5 (128 * (12 * b + e) + 4) nc (c5 (128 * q + 5))) (128 * (12 * b + e) + 3) 4 (nc + 1) (128 * (12 * b + e) + 3) 4 = nc + 1 := up_eq
  generalize hN6 : up (up N5 (128 * (12 * b + e) + 4) nc (c5 (128 * q + 5))) (128 * (12 * b + e) + 3) 4 (nc + 1) = N6 at *
  generalize up (up V5 (c5 (128 * (12 * b + e) + 4)) nc (c5 (128 * q + 5))) (c5 (128 * (12 * b + e) + 3)) 4 (nc + 1) = V6 at *
  have ts6 : TS c5 N6 M2' K P W E nt (j + 1) := ts2'.fr (fun L q => fc L (by unfold rdL at q; omega) (by unfold rdL at q; omega)) (fun L k q => by rw [n6 L k (by unfold rdR at q; omega) (by unfold rdR at q; omega), n5 L k (by unfold rdR at q; omega) (by unfold rdR at q; omega), nwl_ne (by unfold rdR at q; omega)]) (fun _ _ => rfl) (fun _ => rfl)
  subst hq0
  obtain ⟨rd6, ic6, fn6, fm6⟩ := co_mid (w := W j) (nm := nm) h (by omega) fc (fun L k q0 q1 q2 q3 q4 => (n6 L k q4 q3).trans (nn L k q0 q1 q2)) n6b n6a ((n6 _ _ (by omega) (by omega)).trans k0) ((n6 _ _ (by omega) (by omega)).trans k1) ((n6 _ _ (by omega) (by omega)).trans k2) ((n6 _ _ (by omega) (by omega)).trans k3') ((n6 _ _ (by omega) (by omega)).trans k4) ((n6 _ _ (by omega) (by omega)).trans k5) ((n6 _ _ (by omega) (by omega)).trans k6) (fun a a0 a1 => (n6 _ _ (by omega) (by omega)).trans (k7 a a0 a1)) m2 m214 m220 m221 m222 nr ts6 (by omega)
  exact co_tail (nm := nm) (j0 := j) (Xq := fun Qr => PM (ee + 1) n_readConstant_0 [] M Qr) hc5 (by omega) he u0 (by omega) hW6 (by omega) rd6 (gf.cu e0 e1 l0 BX fn6 fm6) ic6 (fun a a0 a1 => (n6 _ _ (by omega) (by omega)).trans (k7 a a0 a1)) (fun V' M' gm' ow' eo' st' j' ln' a1 a2 a3 a4 => hok c5 S5 V' M' gm' ow' eo' st' j' ln' hc5 h5 y50.symm a1 a2 a3 (by omega) a4) (fun V' M' a1 a2 a3 => hbad c5 S5 V' M' hc5 h5 a1 a2 a3) ref'
end COR
