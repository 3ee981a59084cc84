/-! ===== book: constants, members ===== -/
section CLP
variable {l : Launch} {G : GT} {c0 : Int → Int} {N0 M0 : Mem} {Q : Int → Sh → Mem → Prop} {d ee : Nat} {cs K P W E : Int → Int} {nt b B e nu nk nh ns cb j0 x0 : Int} {Xq : (Int → Mem → Prop) → Prop}
set_option maxHeartbeats 2000000 in
theorem co_loop (hd : 105 ≤ d) (he : 115 ≤ ee)
    (hok : ∀ c' S' V' M' gm' ow' eo' st' j' ln' nc', Cn c' S' → 0 ≤ S'.2.2 → c' 50 = x0 → RDI c' (Wv c' S' V') M' gm' ow' eo' cs K P W E nt b B st' j' ln' e nc' nu nk nh ns cb 0 → 1 ≤ nc' → GF b B c0 N0 M0 c' (Wv c' S' V') M' → j0 < j' → (∀ Qr : Int → Mem → Prop, PM (ee + 1) n_readEnum_244 [4] M' Qr → Xq Qr) → Q 1 S' V')
    (hbad : ∀ c' S' V' M', Cn c' S' → 0 ≤ S'.2.2 → GF b B c0 N0 M0 c' (Wv c' S' V') M' → FTS (Wv c' S' V') M' → (∀ Qr : Int → Mem → Prop, Qr 0 M' → Xq Qr) → Q 0 S' V') :
    ∀ (r : Nat) (nc st j ln : Int) (c : Int → Int) (S : Sh) (V N M gm : Mem) (ow eo : Int → Int) (mc ms : Nat), 24 - nc = r → Cn c S → 0 ≤ S.2.2 → c 50 = x0 → Wv c S V = N → j0 ≤ j → RDI c N M gm ow eo cs K P W E nt b B st j ln e nc nu nk nh ns cb 0 → GF b B c0 N0 M0 c N M → 2 * (24 - nc) ≤ mc → 8 * (24 - nc) ≤ ms → (∀ Qr : Int → Mem → Prop, PM ee n_readConstant_0 [] M (fun _ M6 => PM (ee + 1) n_readEnum_211 [4] M6 Qr) → Xq Qr) → XJ l G bX5_readConstants Q d 4 [vr x0, vi 1, vi nc] [] S V mc ms := by
  obtain ⟨e', rfl⟩ : ∃ e', ee = e' + 1 := ⟨ee - 1, by omega⟩
  have w244 : ∀ (Mx : Mem) (Qr : Int → Mem → Prop), 0 < Mx 0 46 → Qr 0 Mx → PM (e' + 1 + 1) n_readEnum_244 [4] Mx Qr := fun Mx Qr hw hq => st_readEnum_244 ⟨fun _ => sn_w hw (by omega) _ hq, fun y => absurd hw (by omega)⟩
  have step : ∀ (nc st j ln : Int) (c : Int → Int) (S : Sh) (V N M gm : Mem) (ow eo : Int → Int) (mc ms : Nat), Cn c S → 0 ≤ S.2.2 → c 50 = x0 → Wv c S V = N → j0 ≤ j → RDI c N M gm ow eo cs K P W E nt b B st j ln e nc nu nk nh ns cb 0 → GF b B c0 N0 M0 c N M → 2 * (24 - nc) ≤ mc → 8 * (24 - nc) ≤ ms → (∀ Qr : Int → Mem → Prop, PM (e' + 1) n_readConstant_0 [] M (fun _ M6 => PM (e' + 1 + 1) n_readEnum_211 [4] M6 Qr) → Xq Qr) → (∀ (st j ln : Int) (c : Int → Int) (S : Sh) (V M gm : Mem) (ow eo : Int → Int) (mc ms : Nat), nc < 24 → Cn c S → 0 ≤ S.2.2 → c 50 = x0 → j0 ≤ j → RDI c (Wv c S V) M gm ow eo cs K P W E nt b B st j ln e (nc + 1) nu nk nh ns cb 0 → GF b B c0 N0 M0 c (Wv c S V) M → 2 * (24 - (nc + 1)) ≤ mc → 8 * (24 - (nc + 1)) ≤ ms → (∀ Qr : Int → Mem → Prop, PM (e' + 1) n_readConstant_0 [] M (fun _ M6 => PM (e' + 1 + 1) n_readEnum_211 [4] M6 Qr) → Xq Qr) → XJ l G bX5_readConstants Q d 4 [vr x0, vi 1, vi (nc + 1)] [] S V mc ms) → XJ l G bX5_readConstants Q d 4 [vr x0, vi 1, vi nc] [] S V mc ms := by
    intro nc st j ln c S V N M gm ow eo mc ms hc h0 hx hW jj h gf hmc hms rch ih
    subst hx
    have ls := h.ls
    have ts := ls.ts
    have q14 := h.ct.1
    have u0 := h.he.nc0
    have u1 := h.he.nc1
    obtain ⟨ya, yb, yc, yd, ye, yf, yg⟩ := ts.x hW
    obtain ⟨mq, mp, hq1, hq2, hq3⟩ : ∃ mq mp : Nat, mq ≤ mc ∧ mp ≤ ms ∧ (nc < 24 → mq = 2 ∧ mp = 8) := by
      by_cases y : nc < 24
      · exact ⟨2, 8, by omega, by omega, fun _ => ⟨rfl, rfl⟩⟩
      · exact ⟨0, 0, by omega, by omega, fun z => absurd z y⟩
    refine vX5_readConstants_4 ⟨fun y => absurd y (by omega), fun _ => ⟨fun y => absurd y (by decide), fun _ => ⟨yf, CT.of (d - 1) mq mp (rd_constant (ee := e') (Q := fun z7 S7 V7 => (z7 ≠ 0 → S7.1 (c 50) = 6 ∧ ((V7 (c 50) 7) ≠ 44 → -2147483648 ≤ nc + 1 ∧ nc + 1 ≤ 2147483647 ∧ XJ l G bX5_readConstants Q d 4 [vr (c 50), vi 0, vi (nc + 1)] [] S7 V7 (mc - mq) (ms - mp)) ∧ (¬ ((V7 (c 50) 7) ≠ 44) → CT l G bX5_accept d (mc - mq) (ms - mp) [vr (c 50), vi 44] S7 V7 (fun z11 S11 V11 mc11 ms11 => (z11 = 0 → -2147483648 ≤ nc + 1 ∧ nc + 1 ≤ 2147483647 ∧ XJ l G bX5_readConstants Q d 4 [vr (c 50), vi 0, vi (nc + 1)] [] S11 V11 mc11 ms11) ∧ (¬ (z11 = 0) → -2147483648 ≤ nc + 1 ∧ nc + 1 ≤ 2147483647 ∧ XJ l G bX5_readConstants Q d 4 [vr (c 50), vi 1, vi (nc + 1)] [] S11 V11 mc11 ms11)))) ∧ (¬ (z7 ≠ 0) → Q 0 S7 V7)) hc h0 hW h gf (by omega) (by omega) (fun y => by have := hq3 y; omega) (fun c1 S1 V1 M1 gm1 ow1 eo1 st1 j1 ln1 hc1 h1 hx1 rd1 gf1 jj1 nclt run1 => ⟨fun _ => ?_, fun y => absurd (by decide) y⟩) (fun c1 S1 V1 M1 hc1 h1 gf1 fts run1 => ⟨fun y => absurd rfl y, fun _ => hbad c1 S1 V1 M1 hc1 h1 gf1 fts (fun Qr hq => rch Qr (run1 _ (st_readEnum_211 ⟨fun _ => sn_w fts.1 (by omega) _ (w244 _ _ fts.1 hq), fun y => absurd fts.1 (by omega)⟩)))⟩)) (by omega) hq1 hq2 (fun _ _ _ hq => hq)⟩⟩⟩
    have hq3' := hq3 nclt
    have ls1 := rd1.ls
    have ts1 := ls1.ts
    rw [← hx1]
    have zx := ts1.x (V := V1) rfl
    have r1 : ∀ Qr : Int → Mem → Prop, PM (e' + 1) n_isSign_0 [44] M1 (fun z4 M4 => (z4 = 0 → PM (e' + 1) n_sign_0 [59] M4 (fun z7 M7 => PM (e' + 1 + 1) n_readEnum_244 [4] M7 Qr)) ∧ (¬ (z4 = 0) → PM (e' + 1) n_next_0 [] M4 (fun z9 M9 => PM (e' + 1) n_readConstant_0 [] M9 (fun z11 M11 => PM (e' + 1 + 1) n_readEnum_211 [4] M11 Qr)))) → Xq Qr := fun Qr hq => rch Qr (run1 _ (st_readEnum_211 ⟨fun y => absurd ls1.w y, fun _ => hq⟩))
    rw [zx.1]
    refine ⟨zx.2.2.2.2.2.1, fun k44 => ⟨by omega, by omega, ?_⟩, fun k44 => ?_⟩
    · have acc : ∀ mc' ms' : Nat, CT l G bX5_accept d mc' ms' [vr (c1 50), vi 59] S1 V1 (fun z2 S2 V2 mc2 ms2 => (z2 = 0 ∨ z2 = 1) ∧ Q z2 S2 V2) := fun mc' ms' => by
        refine CT.im (by omega) (fun d2 hd2 => ?_)
        by_cases k59 : K j1 = 59
        · refine ct_acc1 (e := e' + 1 - 1) hc1 rfl ts1 k59 (by decide) (by omega) (by omega) (fun V2 M2 hW2 ts2 lx2 rn2 => ⟨Or.inr rfl, ?_⟩)
          have n2 : ∀ L k, ¬ (L = 50 ∧ 6 ≤ k ∧ k ≤ 8) → Wv c1 S1 V2 L k = Wv c1 S1 V1 L k := fun L k q => by rw [hW2]; exact nPs_ne q
          exact hok c1 S1 V2 M2 gm1 ow1 eo1 st1 (j1 + 1) ln1 (nc + 1) hc1 h1 hx1 (rd1.ps (by rw [hW2]; exact ts2) (by omega) n2 lx2) (by omega) (gf1.tr (fun _ _ => rfl) (fun L k q => by rw [hW2]; exact gf_nps q) (fun k i q => gf_lx lx2 q)) (by omega) (fun Qr hq => r1 Qr (ts1.sg0 (by decide) k44 (by omega) _ ⟨fun _ => ts1.sn1 ls1.w (by decide) k59 (by omega) rn2 _ hq, fun y => absurd rfl y⟩))
        · refine ct_acc0 hc1 rfl ts1 k59 (by omega) (fun V2 hW2 => ⟨Or.inl rfl, ?_⟩)
          have wp : 0 < mFt M1 (if K j1 = 0 then 1 else 2) (P j1) 0 46 := by rw [mFt_46]; exact ftp (by decide)
          exact hbad c1 S1 V2 (mFt M1 (if K j1 = 0 then 1 else 2) (P j1)) hc1 h1 (gf1.tr (fun _ _ => rfl) (fun L k q => by rw [hW2]; exact gf_nft q) (fun k i q => gf_mft q)) (by rw [hW2]; exact FTS.ft (ftp (by decide))) (fun Qr hq => r1 Qr (ts1.sg0 (by decide) k44 (by omega) _ ⟨fun _ => ts1.sn0 ls1.w (by decide) k59 (by omega) _ (w244 _ _ wp hq), fun y => absurd rfl y⟩))
      exact vX5_readConstants_4 ⟨fun _ => ⟨zx.2.2.2.2.2.1, acc _ _⟩, fun _ => ⟨fun _ => ⟨zx.2.2.2.2.2.1, acc _ _⟩, fun y => absurd rfl y⟩⟩
    · have k44 : K j1 = 44 := by omega
      refine CT.im (by omega) (fun d2 hd2 => ct_acc1 (e := e' + 1) hc1 rfl ts1 k44 (by decide) (by omega) (by omega) (fun V2 M2 hW2 ts2 lx2 rn2 => ⟨fun y => absurd y (by decide), fun _ => ⟨by omega, by omega, ?_⟩⟩))
      have n2 : ∀ L k, ¬ (L = 50 ∧ 6 ≤ k ∧ k ≤ 8) → Wv c1 S1 V2 L k = Wv c1 S1 V1 L k := fun L k q => by rw [hW2]; exact nPs_ne q
      rw [hx1]
      exact ih st1 (j1 + 1) ln1 c1 S1 V2 M2 gm1 ow1 eo1 _ _ nclt hc1 h1 hx1 (by omega) (rd1.ps (by rw [hW2]; exact ts2) (by omega) n2 lx2) (gf1.tr (fun _ _ => rfl) (fun L k q => by rw [hW2]; exact gf_nps q) (fun k i q => gf_lx lx2 q)) (by omega) (by omega) (fun Qr hq => r1 Qr (ts1.sg1 (by decide) k44 (by omega) _ ⟨fun y => absurd y (by decide), fun _ => rn2 _ hq⟩))
  intro r
  induction r with
  | zero =>
    intro nc st j ln c S V N M gm ow eo mc ms hr hc h0 hx hW jj h gf hmc hms rch
    exact step nc st j ln c S V N M gm ow eo mc ms hc h0 hx hW jj h gf hmc hms rch (fun st j ln c S V M gm ow eo mc ms q => absurd q (by omega))
  | succ r ih =>
    intro nc st j ln c S V N M gm ow eo mc ms hr hc h0 hx hW jj h gf hmc hms rch
    exact step nc st j ln c S V N M gm ow eo mc ms hc h0 hx hW jj h gf hmc hms rch (fun st j ln c S V M gm ow eo mc ms _ hc' h0' hx' jj' h' gf' hmc' hms' rch' => ih (nc + 1) st j ln c S V _ M gm ow eo mc ms (by omega) hc' h0' hx' rfl jj' h' gf' hmc' hms' rch')
end CLP
section MLP
variable {l : Launch} {G : GT} {c0 : Int → Int} {N0 M0 : Mem} {Q : Int → Sh → Mem → Prop} {d E2 : Nat} {K P W E : Int → Int} {nt b B e nc j0 x0 : Int} {Xq : (Int → Mem → Prop) → Prop}
/-- a fault: the enum's end is set all the same -/
theorem mem_0 {c : Int → Int} {S : Sh} {V M : Mem} {x2 : Int} {mc ms : Nat} (hc : Cn c S) (b0 : 0 ≤ b) (e0 : 0 ≤ e) (e1 : e < 12) (g50 : N0 50 (-1) = 6) (g51 : N0 50 1 = c0 120) (g52 : N0 120 (-1) = 2) (g53 : N0 50 4 = c0 (128 * (12 * b + e) + 3)) (g54 : N0 (128 * (12 * b + e) + 3) (-1) = 4) (gf : GF b B c0 N0 M0 c (Wv c S V) M) (ft : FTS (Wv c S V) M) (hq : ∀ V', GF b B c0 N0 M0 c (Wv c S V') M → FTS (Wv c S V') M → Q 0 S V') : XJ l G bX5_readMembers Q d 4 [vr (c 50), vi 0, vi x2] [] S V mc ms := by
  obtain ⟨v', tg, ln⟩ := Wr (rfl : Wv c S V = Wv c S V)
  have kk : ∀ L k, L = 50 ∧ k < 5 ∨ (L = 120 ∧ k < 2) ∨ (L = 128 * (12 * b + e) + 3 ∧ k = -1) → Wv c S V L k = N0 L k := fun L k q => gf.2.1 L k (by unfold gfN bkL; omega)
  have cc : ∀ L, L = 120 ∨ L = 128 * (12 * b + e) + 3 → c L = c0 L := fun L q => gf.1 L (by unfold bkL; omega)
  have t50 : S.1 (c 50) = 6 := (tg _).trans ((kk _ _ (by omega)).trans g50)
  have z1 : V (c 50) 1 = c 120 := by rw [v' _ _ (by decide), kk _ _ (by omega), cc _ (by omega)]; exact g51
  have z4 : V (c 50) 4 = c (128 * (12 * b + e) + 3) := by rw [v' _ _ (by decide), kk _ _ (by omega), cc _ (by omega)]; exact g53
  have t120 : S.1 (c 120) = 2 := (tg _).trans ((kk _ _ (by omega)).trans g52)
  have t3 : S.1 (c (128 * (12 * b + e) + 3)) = 4 := (tg _).trans ((kk _ _ (by omega)).trans g54)
  have fin : Q 0 S (up V (c (128 * (12 * b + e) + 3)) 2 (V (c 120) 2)) := by
    have hW : Wv c S (up V (c (128 * (12 * b + e) + 3)) 2 (V (c 120) 2)) = up (Wv c S V) (128 * (12 * b + e) + 3) 2 (V (c 120) 2) := Wv_up hc (by decide)
    refine hq _ (gf.tr (fun _ _ => rfl) (fun L k q => ?_) (fun _ _ _ => rfl)) ?_
    · rw [hW]
      refine up_ne' (fun y => q (Or.inl ⟨?_, by omega⟩))
      unfold bkL
      exact ⟨by omega, Or.inr (Or.inl ⟨by omega, by omega⟩)⟩
    · rw [hW]
      unfold FTS
      rw [up_ne' (by omega), up_ne' (by omega)]
      exact ft
  refine vX5_readMembers_4 ?_
  rw [z1, z4]
  exact ⟨fun _ => ⟨t50, t120, t3, fun _ => fin, fun y => absurd rfl y⟩, fun _ => ⟨fun _ => ⟨t50, t120, t3, fun _ => fin, fun y => absurd rfl y⟩, fun y => absurd rfl y⟩⟩
set_option maxHeartbeats 4000000 in
theorem mem_loop (hd : 105 ≤ d) (he : 115 ≤ E2) (g50 : N0 50 (-1) = 6) (g51 : N0 50 1 = c0 120) (g52 : N0 120 (-1) = 2) (g53 : N0 50 4 = c0 (128 * (12 * b + e) + 3)) (g54 : N0 (128 * (12 * b + e) + 3) (-1) = 4)
    (hok : ∀ c' S' V' M' gm' ow' eo' cs' st' j' ln' nu' nk' nh' ns' cb', Cn c' S' → 0 ≤ S'.2.2 → c' 50 = x0 → RDI c' (Wv c' S' V') M' gm' ow' eo' cs' K P W E nt b B st' j' ln' e nc nu' nk' nh' ns' cb' 0 → Wv c' S' V' (128 * (12 * b + e) + 3) 2 = ln' → cb' ≤ 36 * (12 * b + e) + 36 → GF b B c0 N0 M0 c' (Wv c' S' V') M' → j0 < j' → (∀ Qr : Int → Mem → Prop, Qr 0 M' → Xq Qr) → Q 1 S' V')
    (hbad : ∀ c' S' V' M', Cn c' S' → 0 ≤ S'.2.2 → GF b B c0 N0 M0 c' (Wv c' S' V') M' → FTS (Wv c' S' V') M' → (∀ Qr : Int → Mem → Prop, Qr 0 M' → Xq Qr) → Q 0 S' V') :
    ∀ (r : Nat) (x2 st j ln nu nk nh ns cb : Int) (c : Int → Int) (S : Sh) (V N M gm : Mem) (ow eo cs : Int → Int) (mc ms : Nat), nt - j ≤ r → Cn c S → 0 ≤ S.2.2 → c 50 = x0 → Wv c S V = N → j0 ≤ j → 0 ≤ x2 → x2 + 1 ≤ j → RDI c N M gm ow eo cs K P W E nt b B st j ln e nc nu nk nh ns cb 0 → cb ≤ 36 * (12 * b + e) + 12 * ns → GF b B c0 N0 M0 c N M → 3 * (8 - nu - ns) ≤ mc → 29 * (8 - nu - ns) ≤ ms → (∀ Qr : Int → Mem → Prop, PM (E2 + 3) n_readEnum_244 [4] M Qr → Xq Qr) → XJ l G bX5_readMembers Q d 4 [vr x0, vi 1, vi x2] [] S V mc ms := by
  intro r
  induction r with
  | zero =>
    intro x2 st j ln nu nk nh ns cb c S V N M gm ow eo cs mc ms hr hc h0 hx hW jj x20 xj h
    have := h.ls.ts.j1
    exact absurd hr (by omega)
  | succ r ih =>
    intro x2 st j ln nu nk nh ns cb c S V N M gm ow eo cs mc ms hr hc h0 hx hW jj x20 xj h hcb gf hmc hms rch
    subst hx
    obtain ⟨e0, e1, b0, b1, B0, B1⟩ := h.bd
    have ls := h.ls
    have ts := ls.ts
    have hE := h.he
    have w0 := ls.w
    have l0 := ls.l0
    have ntb := ts.ntb
    have j1 := ts.j1
    have BX : B ≤ M 0 40 := h.wd.2.2.2.2.2.2.1
    obtain ⟨q14, q15, q16, q17, q18⟩ := h.ct
    have nu0 := hE.nt0
    have nu1 := hE.nt1
    have ns0 := hE.nw0
    have ns1 := hE.nw1
    obtain ⟨ya, yb, yc, yd, ye, yf, yg⟩ := ts.x hW
    obtain ⟨v', tg, lnn⟩ := Wr hW
    have y4 : V (c 50) 4 = c (128 * (12 * b + e) + 3) := (v' _ _ (by decide)).trans h.cu
    have y6 : V (c (128 * (12 * b + e) + 3)) 6 = c (128 * (12 * b + e) + 7) := (v' _ _ (by decide)).trans hE.rb
    have zl : V (c 120) 2 = ln := (v' _ _ (by decide)).trans ls.lv
    have gE : S.1 (c (128 * (12 * b + e) + 3)) = 4 := (tg _).trans hE.tg
    have hW1 : Wv c S (up V (c 50) 5 0) = up N 50 5 0 := by rw [Wv_up hc (by decide), hW]
    have n1 : ∀ L k, ¬ (L = 50 ∧ k = 5) → up N 50 5 0 L k = N L k := fun L k q => up_ne' q
    have n15 : up N 50 5 0 50 5 = 0 := up_eq
    have h1 : RDI c (up N 50 5 0) M gm ow eo cs K P W E nt b B 0 j ln e nc nu nk nh ns cb 0 := h.tk (ls.fr (st' := 0) (ts.fr (fun _ _ => rfl) (fun L k q => n1 L k (by unfold rdR at q; omega)) (fun _ _ => rfl) (fun _ => rfl)) n15 ((n1 _ _ (by omega)).trans ls.lv) (fun i _ _ => n1 _ _ (by omega)) (Int.le_refl _) rfl rfl w0 ((n1 _ _ (by omega)).trans ls.f) rfl rfl) (fun L k q => n1 L k (by omega)) (fun _ _ _ => rfl)
    have gf1 : GF b B c0 N0 M0 c (up N 50 5 0) M := gf.tr (fun _ _ => rfl) (fun L k q => n1 L k (fun y => q (Or.inr (Or.inl ⟨y.1, by omega, by omega⟩)))) (fun _ _ _ => rfl)
    generalize hN1 : up N 50 5 0 = N1 at *
    have rstep : K j ≠ 125 → ∀ Qr : Int → Mem → Prop, PM (E2 + 2) n_readMember_0 [] M (fun _ M9 => PM (E2 + 3) n_readEnum_244 [4] M9 Qr) → Xq Qr := fun k125 Qr hq => rch Qr (st_readEnum_244 ⟨fun y => absurd w0 y, fun _ => ts.sg0 (by decide) k125 (by omega) _ ⟨fun y => absurd rfl y, fun _ => hq⟩⟩)
    have nxt : K j ≠ 125 → ∀ (c1 : Int → Int) (S1 : Sh) (V1 M1 gm1 : Mem) (ow1 eo1 cs1 : Int → Int) (st1 j1 l1 nu1 nk1 nh1 ns1 cb1 : Int) (mc1 ms1 : Nat), Cn c1 S1 → 0 ≤ S1.2.2 → c1 50 = c 50 → RDI c1 (Wv c1 S1 V1) M1 gm1 ow1 eo1 cs1 K P W E nt b B st1 j1 l1 e nc nu1 nk1 nh1 ns1 cb1 0 → cb1 ≤ 36 * (12 * b + e) + 12 * ns1 → GF b B c0 N0 M0 c1 (Wv c1 S1 V1) M1 → j < j1 → 3 * (8 - nu1 - ns1) ≤ mc1 → 29 * (8 - nu1 - ns1) ≤ ms1 → RunM (E2 + 2) n_readMember_0 [] M 0 M1 → -2147483648 ≤ x2 + 1 ∧ x2 + 1 ≤ 2147483647 ∧ XJ l G bX5_readMembers Q d 4 [vr (c 50), vi 1, vi (x2 + 1)] [] S1 V1 mc1 ms1 := fun k125 c1 S1 V1 M1 gm1 ow1 eo1 cs1 st1 j1 l1 nu1 nk1 nh1 ns1 cb1 mc1 ms1 a1 a2 a3 a4 a5 a6 a7 a8 a9 run => ⟨by omega, by omega, ih (x2 + 1) st1 j1 l1 nu1 nk1 nh1 ns1 cb1 c1 S1 V1 _ M1 gm1 ow1 eo1 cs1 mc1 ms1 (by omega) a1 a2 a3 rfl (by omega) (by omega) (by omega) a4 a5 a6 a8 a9 (fun Qr hq => rstep k125 Qr (run _ hq))⟩
    have flt : K j ≠ 125 → ∀ (c1 : Int → Int) (S1 : Sh) (V1 M1 : Mem) (mc1 ms1 : Nat), Cn c1 S1 → 0 ≤ S1.2.2 → GF b B c0 N0 M0 c1 (Wv c1 S1 V1) M1 → FTS (Wv c1 S1 V1) M1 → RunM (E2 + 2) n_readMember_0 [] M 0 M1 → -2147483648 ≤ x2 + 1 ∧ x2 + 1 ≤ 2147483647 ∧ XJ l G bX5_readMembers Q d 4 [vr (c 50), vi 0, vi (x2 + 1)] [] S1 V1 mc1 ms1 := fun k125 c1 S1 V1 M1 mc1 ms1 a1 a2 a3 a4 run => ⟨by omega, by omega, by
      have e50 : c 50 = c1 50 := (gf.1 50 (by unfold bkL; omega)).trans (a3.1 50 (by unfold bkL; omega)).symm
      rw [e50]
      exact mem_0 a1 b0 e0 e1 g50 g51 g52 g53 g54 a3 a4 (fun V2 b1 b2 => hbad c1 S1 V2 M1 a1 a2 b1 b2 (fun Qr hq => rstep k125 Qr (run _ (st_readEnum_244 ⟨fun _ => sn_w a4.1 (by omega) _ hq, fun y => absurd a4.1 (by omega)⟩))))⟩
    refine vX5_readMembers_4 ?_
    rw [ya, y4, y6, yd, zl]
    refine ⟨fun y => absurd y (by omega), fun _ => ⟨fun y => absurd y (by decide), fun _ => ⟨yf, fun k125 => ⟨yg, gE, fun y => absurd y (by decide), fun _ => CT.im (by omega) (fun d1 hd1 => ?_)⟩, fun k125 => ⟨fun k5 => ⟨gE, CT.im (by omega) (fun d1 hd1 => ?_)⟩, fun k5 => ⟨fun k6 => CT.of (d - 1) 3 29 (rd_table (ee := E2) (Q := fun z20 S20 V20 => -2147483648 ≤ x2 + 1 ∧ x2 + 1 ≤ 2147483647 ∧ XJ l G bX5_readMembers Q d 4 [vr (c 50), vi z20, vi (x2 + 1)] [] S20 V20 (mc - 3) (ms - 29)) hc h0 hW1 h1 gf1 k6 (by omega) (by omega) (fun c1 S1 V1 M1 gm1 ow1 eo1 j1 l1 a1 a2 a3 a4 a5 a6 a7 => nxt k125 c1 S1 V1 M1 gm1 ow1 eo1 cs 0 j1 l1 _ _ _ _ _ _ _ a1 a2 a3 a4 hcb a5 a6 (by omega) (by omega) a7) (fun c1 S1 V1 M1 a1 a2 a3 a4 a5 => flt k125 c1 S1 V1 M1 _ _ a1 a2 a3 a4 a5)) (by omega) (by omega) (by omega) (fun _ _ _ hq => hq), fun k6 => ⟨fun k7 => CT.im (by omega) (fun d1 hd1 => rd_check (ee := E2 + 2) hc hW1 h1 gf1 k7 (by omega) (by omega) (fun V1 M1 gm1 ow1 eo1 j1 l1 a4 a5 a6 a7 => nxt k125 c S V1 M1 gm1 ow1 eo1 cs 0 j1 l1 _ _ _ _ _ _ _ hc h0 rfl a4 hcb a5 a6 hmc hms a7) (fun V1 M1 a3 a4 a5 => flt k125 c S V1 M1 _ _ hc h0 a3 a4 a5)), fun k7 => ⟨fun k8 => CT.im (by omega) (fun d1 hd1 => rd_holder (ee := E2 + 2) hc hW1 h1 gf1 k8 (by omega) (by omega) (fun V1 M1 gm1 ow1 eo1 j1 l1 a4 a5 a6 a7 => nxt k125 c S V1 M1 gm1 ow1 eo1 cs 0 j1 l1 _ _ _ _ _ _ _ hc h0 rfl a4 hcb a5 a6 hmc hms a7) (fun V1 M1 a3 a4 a5 => flt k125 c S V1 M1 _ _ hc h0 a3 a4 a5)), fun k8 => ⟨fun k9 => CT.of (d - 1) 3 29 (rd_switch (ee := E2) (Q := fun z20 S20 V20 => -2147483648 ≤ x2 + 1 ∧ x2 + 1 ≤ 2147483647 ∧ XJ l G bX5_readMembers Q d 4 [vr (c 50), vi z20, vi (x2 + 1)] [] S20 V20 (mc - 3) (ms - 29)) hc h0 hW1 h1 gf1 k9 hcb (by omega) (by omega) (fun c1 S1 V1 M1 gm1 ow1 eo1 cs1 j1 l1 a1 a2 a3 a4 a5 a6 a7 => nxt k125 c1 S1 V1 M1 gm1 ow1 eo1 cs1 0 j1 l1 _ _ _ _ _ _ _ a1 a2 a3 a4 (by omega) a5 a6 (by omega) (by omega) a7) (fun c1 S1 V1 M1 a1 a2 a3 a4 a5 => flt k125 c1 S1 V1 M1 _ _ a1 a2 a3 a4 a5)) (by omega) (by omega) (by omega) (fun _ _ _ hq => hq), fun k9 => CT.im (by omega) (fun d1 hd1 => ct_pass0 hc hW1 h1.ls.ts (fun V1 hV1 => ?_))⟩⟩⟩⟩⟩⟩⟩⟩
    · have hW2 : Wv c S (up V (c (128 * (12 * b + e) + 3)) 2 ln) = up N (128 * (12 * b + e) + 3) 2 ln := by rw [Wv_up hc (by decide), hW]
      have n2 : ∀ L k, ¬ (L = 128 * (12 * b + e) + 3 ∧ k = 2) → up N (128 * (12 * b + e) + 3) 2 ln L k = N L k := fun L k q => up_ne' q
      have n22 : up N (128 * (12 * b + e) + 3) 2 ln (128 * (12 * b + e) + 3) 2 = ln := up_eq
      have fn2 : fCn b e ln c N c (up N (128 * (12 * b + e) + 3) 2 ln) := fCn.ua (cu3 (by omega)) (by omega)
      generalize hN2 : up N (128 * (12 * b + e) + 3) 2 ln = N2 at *
      have ts2 : TS c N2 M K P W E nt j := ts.fr (fun _ _ => rfl) (fun L k q => n2 L k (by unfold rdR at q; omega)) (fun _ _ => rfl) (fun _ => rfl)
      refine ct_acc1 (e := E2 + 1) hc hW2 ts2 k125 (by decide) (by omega) (by omega) (fun V3 M3 hW3 ts3 lx3 rn3 => ⟨fun y => absurd y (by decide), fun _ => ?_⟩)
      have n3 : ∀ L k, ¬ (L = 50 ∧ 6 ≤ k ∧ k ≤ 8) → Wv c S V3 L k = N2 L k := fun L k q => by rw [hW3]; exact nPs_ne q
      have n3N : ∀ L k, ¬ (L = 50 ∧ 6 ≤ k ∧ k ≤ 8) → ¬ (L = 128 * (12 * b + e) + 3 ∧ k = 2) → Wv c S V3 L k = N L k := fun L k q1 q2 => (n3 L k q1).trans (n2 L k q2)
      have fn3 : fCn b e ln c N c (Wv c S V3) := by rw [hW3]; exact fn2.tr (fCn.x fXn.ps) (Int.le_refl _)
      have fm3 : fCm b e (M 0 40) (M 0 51) M M3 := fCm.lx lx3
      have x40 : M3 0 40 = M 0 40 := lx3 _ _ (by omega)
      have mk : ∀ k i, k ≠ 0 → M3 k i = M k i := fun k i q => lx3 k i (by omega)
      have GA : GRW (M 0 40) ln (M 0 51) N M gm ow (Wv c S V3) M3 gm ow := fC_grw (fun _ _ _ => rfl) (fun _ _ => rfl) fn3 fm3
      have ls3 : MLS c (Wv c S V3) M3 K P W E nt b (12 * b + e) st B (j + 1) ln := ls.fr (st' := st) (by rw [hW3]; exact ts3) ((n3N _ _ (by omega) (by omega)).trans ls.sv) ((n3N _ _ (by omega) (by omega)).trans ls.lv) (fun i _ _ => n3N _ _ (by omega) (by omega)) (by omega) (lx3 _ _ (by omega)) x40 ((lx3 _ _ (by omega)).trans w0) ((n3N _ _ (by omega) (by omega)).trans ls.f) (lx3 _ _ (by omega)) (lx3 _ _ (by omega))
      have ei3 : EI c (Wv c S V3) M3 gm ow K P W E nt b B (M3 0 40) ln e nc nu nk nh ns := by
        rw [x40]
        refine h.ei.fr GA ls.r (Int.le_refl _) (Int.le_refl _) (fun L k q => ⟨rfl, n3N _ _ ?_ (fun y => (itn_ne q).2.1 y.1)⟩) (fun k i q => mk _ _ (itm_ne q).1)
        have := (itn_ne q).1
        omega
      have wd3 : WLD (Wv c S V3) M3 gm ow eo cs K P E nt b B (M3 0 40) ln e (N (128 * (12 * b + e) + 3) 1) cb := by
        rw [x40]; exact h.wd.fr GA ls.r
      refine hok c S V3 M3 gm ow eo cs st (j + 1) ln nu nk nh ns cb hc h0 rfl (h.nx fn3 fm3 GA (by omega) (Int.le_refl _) (fun _ _ => rfl) ls3 (h.hb.cu e0 b0 fn3 fm3 (fun k _ => n3N _ _ (by omega) (by omega)) (n3N _ _ (by omega) (by omega)) (mk _ _ (by omega)) (fun i _ _ => mk _ _ (by omega))) ?_ ⟨(mk _ _ (by omega)).trans q14, (mk _ _ (by omega)).trans q15, (mk _ _ (by omega)).trans q16, (mk _ _ (by omega)).trans q17, (mk _ _ (by omega)).trans q18⟩ ei3 wd3) ((n3 _ _ (by omega)).trans n22) (by omega) (gf.cu e0 e1 l0 BX fn3 fm3) (by omega) (fun Qr hq => rch Qr (st_readEnum_244 ⟨fun y => absurd w0 y, fun _ => ts.sg1 (by decide) k125 (by omega) _ ⟨fun _ => ts.sn1 w0 (by decide) k125 (by omega) rn3 _ hq, fun y => absurd (by decide) y⟩⟩))
      refine hE.gen (fun _ _ => rfl) (fun L k q1 q2 q3 => n3N L k (by unfold hdL at q1; omega) (by omega)) (mk _ _ (by omega)) (fun i => mk _ _ (by omega)) ?_ ?_ ?_ ?_ ?_ (fun i i0 i1 => ?_) (fun i i0 i1 => ?_) (fun i i0 i1 => ?_)
      · rw [n3N _ _ (by omega) (by omega), mk _ _ (by omega)]; exact ⟨hE.nc, hE.nc0, hE.nc1⟩
      · rw [n3N _ _ (by omega) (by omega), mk _ _ (by omega)]; exact ⟨hE.nt, hE.nt0, hE.nt1⟩
      · rw [n3N _ _ (by omega) (by omega), mk _ _ (by omega)]; exact ⟨hE.nk, hE.nk0, hE.nk1⟩
      · rw [n3N _ _ (by omega) (by omega), mk _ _ (by omega)]; exact ⟨hE.nh, hE.nh0, hE.nh1⟩
      · rw [n3N _ _ (by omega) (by omega), mk _ _ (by omega)]; exact ⟨hE.nw, hE.nw0, hE.nw1⟩
      · rw [mk _ _ (by omega)] at i1
        rw [n3N _ _ (by omega) (by omega), n3N _ _ (by omega) (by omega)]; exact hE.ci i i0 i1
      · rw [mk _ _ (by omega)] at i1
        rw [n3N _ _ (by omega) (by omega), n3N _ _ (by omega) (by omega)]; exact hE.ti i i0 i1
      · rw [mk _ _ (by omega)] at i1
        rw [n3N _ _ (by omega) (by omega), n3N _ _ (by omega) (by omega)]; exact hE.si i i0 i1
    · refine rd_act (ee := E2 + 1) (xr := -1) (Lb := 128 * (12 * b + e) + 7) (kb := 19) (bs := 4 * (12 * b + e)) (sv := 2) (lv := 2) hc hW1 h1 gf1 (by omega) (by omega) (Or.inl ⟨rfl, rfl, rfl, rfl, rfl, rfl⟩) h1.ei.2.2.2.2.2 ⟨h1.he.tb, h1.he.lb⟩ (fun V1 M1 gm1 ow1 eo1 j1 l1 a rd1 gf2 jj1 _ _ _ _ _ _ _ _ _ _ _ _ run => ?_) (fun V1 M1 gf2 fts run => ?_)
      · exact nxt k125 c S V1 M1 gm1 ow1 eo1 cs 2 j1 l1 _ _ _ _ _ _ _ hc h0 rfl rd1 hcb gf2 jj1 hmc hms (fun Qr hq => st_readMember_0 (ts.wd1 1 (by decide) k5 (by omega) _ ⟨fun y => absurd y (by decide), fun _ => run _ hq⟩))
      · exact flt k125 c S V1 M1 _ _ hc h0 gf2 fts (fun Qr hq => st_readMember_0 (ts.wd1 1 (by decide) k5 (by omega) _ ⟨fun y => absurd y (by decide), fun _ => run _ hq⟩))
    · refine flt k125 c S V1 (mFt M (if K j = 0 then 1 else 2) (P j)) _ _ hc h0 (gf1.tr (fun _ _ => rfl) (fun L k q => by rw [hV1]; exact gf_nft q) (fun k i q => gf_mft q)) (by rw [hV1]; exact FTS.ft (ftp (by decide))) (fun Qr hq => st_readMember_0 (ts.wd0 1 (by decide) (fun y => k5 (by rw [y]; decide)) (by omega) _ ⟨fun _ => ts.wd0 2 (by decide) (fun y => k6 (by rw [y]; decide)) (by omega) _ ⟨fun _ => ts.wd0 3 (by decide) (fun y => k7 (by rw [y]; decide)) (by omega) _ ⟨fun _ => ts.wd0 4 (by decide) (fun y => k8 (by rw [y]; decide)) (by omega) _ ⟨fun _ => ts.wd0 5 (by decide) (fun y => k9 (by rw [y]; decide)) (by omega) _ ⟨fun _ => ts.ft w0 (by omega) _ hq, fun y => absurd rfl y⟩, fun y => absurd rfl y⟩, fun y => absurd rfl y⟩, fun y => absurd rfl y⟩, fun y => absurd rfl y⟩))
end MLP
