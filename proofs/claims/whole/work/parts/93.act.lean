/-! ===== book: acts read ===== -/
section ACR
variable {l : Launch} {G : GT} {c c0 : Int → Int} {S : Sh} {V N M gm N0 M0 : Mem} {Q : Int → Sh → Mem → Prop} {d mc ms ee : Nat} {ow eo cs K P W E : Int → Int} {nt b B st j ln e nc nu nk nh ns cb pc Lb kb bs xr sv lv : Int}
set_option maxHeartbeats 2000000 in
theorem rd_act (hc : Cn c S) (hW : Wv c S V = N) (h : RDI c N M gm ow eo cs K P W E nt b B st j ln e nc nu nk nh ns cb pc) (gf : GF b B c0 N0 M0 c N M) (hd : 90 ≤ d) (he : 110 ≤ ee)
    (hcs : (xr = -1 ∧ Lb = 128 * (12 * b + e) + 7 ∧ kb = 19 ∧ bs = 4 * (12 * b + e) ∧ sv = 2 ∧ lv = 2) ∨ (xr = 24 * (12 * b + e) + nc ∧ (0 ≤ nc ∧ nc < 24) ∧ Lb = 128 * (24 * (12 * b + e) + nc) + 6 ∧ kb = 22 ∧ bs = 4 * (24 * (12 * b + e) + nc) ∧ sv = 3 ∧ lv = 3))
    (hbod : ∀ a, 0 ≤ a → a < 4 → BOD N M gm ow B (M 0 40) ln Lb kb bs a lv) (hL : N Lb (-1) = 20 ∧ N Lb (-2) = 4)
    (hok : ∀ V' M' gm' ow' eo' j' ln' a, RDI c (Wv c S V') M' gm' ow' eo' cs K P W E nt b B sv j' ln' e nc nu nk nh ns cb pc → GF b B c0 N0 M0 c (Wv c S V') M' → j < j' → (∀ a, 0 ≤ a → a < 4 → BOD (Wv c S V') M' gm' ow' B (M' 0 40) ln' Lb kb bs a lv) → GRW (M 0 40) ln (M 0 51) N M gm ow (Wv c S V') M' gm' ow' → M 0 40 ≤ M' 0 40 → ln ≤ ln' → (∀ L k, L % 128 < 30 → ¬ (L = 128 * b + 1 ∧ k = 2) → L ≠ Lb → Wv c S V' L k = N L k) → (∀ k, k < 0 → Wv c S V' Lb k = N Lb k) → (∀ k i, k = 7 ∨ k = 20 ∨ k = 21 → M' k i = M k i) → 0 ≤ a → a < 4 → 0 ≤ Wv c S V' Lb a → (∀ a', 0 ≤ a' → a' ≠ a → Wv c S V' Lb a' = N Lb a') → ((∀ a', M 11 b ≤ a' → a' < 4 → N Lb a' = -1) → N Lb a = -1 ∧ ∀ a', M' 11 b ≤ a' → a' < 4 → Wv c S V' Lb a' = -1) → RunM ee n_readAct_0 [xr] M 0 M' → Q 1 S V')
    (hbad : ∀ V' M', GF b B c0 N0 M0 c (Wv c S V') M' → FTS (Wv c S V') M' → RunM ee n_readAct_0 [xr] M 0 M' → Q 0 S V') : Ct l G bX5_readAct Q d mc ms [vr (c 50), vr (c Lb), vi sv] S V := by
  obtain ⟨e0, e1, b0, b1, B0, B1⟩ := h.bd
  obtain ⟨e', rfl⟩ : ∃ e', ee = e' + 1 := ⟨ee - 1, by omega⟩
  have ls := h.ls
  have ts := ls.ts
  have hE := h.he
  have w0 := ls.w
  have hB := h.hb
  have na0 := hB.na0
  have na1 := hB.na1
  have nc0 := hE.nc0
  have pcn := h.ct.1
  have nc1 := hE.nc1
  obtain ⟨ya, yb, yc, yd, ye, yf, yg⟩ := ts.x hW
  have Lne : Lb ≠ 128 * (12 * b + e) + 3 ∧ Lb % 128 < 30 ∧ 3 ≤ Lb % 128 ∧ Lb ≠ 50 := by omega
  refine qX5_readAct fun _ _ _ => vX5_readAct_0 ⟨yf, CT.im (by omega) (fun d1 hd1 => ?_)⟩
  by_cases k5 : K j = 5
  · refine ct_acc1 (e := e') hc hW ts k5 (by decide) (by omega) (by omega) (fun V1 M1 hW1 ts1 lx1 rn1 => ⟨fun _ => ⟨yf, ?_⟩, fun y => absurd (by decide) y⟩)
    have n1 : ∀ L k, ¬ (L = 50 ∧ 6 ≤ k ∧ k ≤ 8) → nPs N (j + 1) (K (j + 1)) (W (j + 1)) L k = N L k := fun L k q => nPs_ne q
    have m1 : ∀ k i, ¬ (k = 0 ∧ 3 ≤ i ∧ i ≤ 6) → M1 k i = M k i := lx1
    obtain ⟨v1, tg1, ln1⟩ := Wr hW1
    have zx := ts1.x hW1
    have jlt := ts.lt (show K j ≠ 1 by omega)
    have h1 : RDI c (nPs N (j + 1) (K (j + 1)) (W (j + 1))) M1 gm ow eo cs K P W E nt b B st (j + 1) ln e nc nu nk nh ns cb pc := h.tk (ls.fr ts1 ((n1 _ _ (by omega)).trans ls.sv) ((n1 _ _ (by omega)).trans ls.lv) (fun i _ _ => n1 _ _ (by omega)) (by omega) (m1 _ _ (by omega)) (m1 _ _ (by omega)) ((m1 _ _ (by omega)).trans w0) ((n1 _ _ (by omega)).trans ls.f) (m1 _ _ (by omega)) (m1 _ _ (by omega))) (fun L k q => n1 L k (by omega)) (fun k i q => m1 k i q)
    have hB1 := h1.hb
    have w1 := h1.ls.w
    have m11 : M1 11 b = M 11 b := m1 _ _ (by omega)
    have f51 : nPs N (j + 1) (K (j + 1)) (W (j + 1)) 51 = N 51 := funext fun i => n1 _ _ (by omega)
    have nrj : K (j + 1) = 3 → NR M1 (W (j + 1)) (nmv P E b (j + 1)) := fun q1 => (ts1.nr b0 b1 h1.tx (by omega) (by omega)).1
    have z3 : V1 (c 50) 3 = c (128 * b + 1) := (v1 _ _ (by decide)).trans hB1.r3
    have zna : V1 (c (128 * b + 1)) 2 = M 11 b := (v1 _ _ (by decide)).trans (hB1.na.trans m11)
    have zb : ∀ a, 0 ≤ a → V1 (c Lb) a = N Lb a := fun a q => (v1 _ _ q).trans (n1 _ _ (by omega))
    -- refused at the name
    have bad : ∀ (kk rm f : Int), ((K (j + 1) ≠ 3 ∧ f = 2) ∨ (K (j + 1) = 3 ∧ kk ≠ 0 ∧ f = 3) ∨ (K (j + 1) = 3 ∧ kk = 0 ∧ rm = 0 ∧ f = 5)) → (∀ Qr : Int → Mem → Prop, PM e' n_fault_0 [f] M1 (fun z M => Qr 0 M) → PM (e' + 1) n_readAct_0 [xr] M Qr) → ∀ K' : Int → Sh → Mem → Nat → Nat → Prop, (∀ V2, Q 0 S V2 → K' 0 S V2 mc ms) → CT l G bX5_acceptNew d mc ms [vr (c 50), vi kk, vi rm] S V1 K' := by
      intro kk rm f hf href K' hk
      have fpos : 0 < (if K (j + 1) = 0 then 1 else f) := ftp (by omega)
      refine CT.im (by omega) (fun d2 hd2 => ct_new0 (f := f) hc hW1 ts1 hf (by omega) (fun V2 hV2 => hk V2 ?_))
      refine hbad V2 (mFt M1 (if K (j + 1) = 0 then 1 else f) (P (j + 1))) (gf.tr (fun _ _ => rfl) (fun L k q => ?_) (fun k i q => (gf_mft q).trans (gf_lx lx1 q))) ?_ (fun Qr hq => href Qr (ts1.ft w1 (by omega) _ hq))
      · rcases hV2 with hV2 | hV2
        · rw [hV2, gf_nft q, gf_nps q]
        · rw [hV2, gf_nft q, nNn_ne (fun y => q (Or.inr (Or.inl ⟨y.1, by omega, by omega⟩))), gf_nps q]
      · rcases hV2 with hV2 | hV2
        · rw [hV2]; exact FTS.ft fpos
        · rw [hV2]; exact FTS.ft fpos
    have ref0 : K (j + 1) ≠ 3 → ∀ Qr : Int → Mem → Prop, PM e' n_fault_0 [2] M1 (fun z M => Qr 0 M) → PM (e' + 1) n_readAct_0 [xr] M Qr := fun k3 Qr hq => st_readAct_0 (ts.wd1 1 (by decide) k5 (by omega) _ ⟨fun _ => rn1 _ (ts1.nm0 k3 (by omega) _ ⟨fun y => absurd rfl y, fun _ => hq⟩), fun y => absurd (by decide) y⟩)
    have ref1 : K (j + 1) = 3 → ∀ Qr : Int → Mem → Prop, PM (e' + 1) n_readAct_132 [xr, if 0 ≤ fdx (N 51) (W (j + 1)) (M 11 b).toNat 0 then fdx (N 51) (W (j + 1)) (M 11 b).toNat 0 else M 11 b, if 0 ≤ fdx (N 51) (W (j + 1)) (M 11 b).toNat 0 ∧ M1 kb (bs + fdx (N 51) (W (j + 1)) (M 11 b).toNat 0) ≠ -1 then 1 else 0] M1 Qr → PM (e' + 1) n_readAct_0 [xr] M Qr := fun k3 Qr hq => st_readAct_0 (ts.wd1 1 (by decide) k5 (by omega) _ ⟨fun _ => rn1 _ (ts1.nm1 k3 (by omega) _ ⟨fun _ => act36 (g := 12 * b + e) (kb := kb) (bs := bs) h1.ls.b9 b0 b1 (by omega) (by omega) (fun i i0 i1 => by have := hB1.an i i0 i1; rw [f51] at this; exact this) (nrj k3) (ts1.nh h1.ls.b9 b0 b1 (by omega)) h1.ls.g41 (by omega) (by omega) (by omega) (by omega) (M 11 b).toNat 0 (by rw [m11, Int.sub_zero]) (by decide) (by omega) (by rw [m11]; exact hq), fun y => absurd (by decide) y⟩), fun y => absurd (by decide) y⟩)
    have fr := fdx_rng (f := N 51) (v := W (j + 1)) (M 11 b).toNat 0 (by decide)
    rw [zx.2.1]
    refine CT.pu (by omega) (fun d2 hd2 => ct_fA (n := M 11 b) hW1 ts1.rd hB1.r3 hB1.tg (hB1.na.trans m11) na1 ?_)
    rw [f51]
    refine ⟨rfl, rfl, fun ai0 => ?_, fun ai0 => ?_⟩
    · -- an act that is there
      have ai1 : fdx (N 51) (W (j + 1)) (M 11 b).toNat 0 < M 11 b := by omega
      generalize hai : fdx (N 51) (W (j + 1)) (M 11 b).toNat 0 = ai at *
      have mk : M1 kb (bs + ai) = M kb (bs + ai) := m1 _ _ (by omega)
      have bd := hbod ai ai0 (by omega)
      rw [zb ai ai0]
      refine ⟨by rw [tg1, n1 _ _ (by omega)]; exact hL.1, ai0, by rw [ln1, n1 _ _ (by omega), hL.2]; omega, fun nb => ⟨yf, ?_⟩, fun nb => ⟨yf, ?_⟩⟩
      · have mb : M kb (bs + ai) = -1 := by
          rcases bd with q | q
          · exact q.2
          · omega
        by_cases k3 : K (j + 1) = 3
        · refine CT.im (by omega) (fun d3 hd3 => ct_new1 (e := e') hc hW1 ts1 k3 (by omega) (by omega) (fun V2 M2 hW2 ts2 lx2 rn2 => ⟨fun _ => ?_, fun y => absurd (by decide) y⟩))
          obtain ⟨v2, tg2, ln2⟩ := Wr hW2
          have n2 : ∀ L k, ¬ (L = 50 ∧ 6 ≤ k ∧ k ≤ 9) → nPs (nNn (nPs N (j + 1) (K (j + 1)) (W (j + 1))) (W (j + 1))) (j + 1 + 1) (K (j + 1 + 1)) (W (j + 1 + 1)) L k = N L k := fun L k q => by rw [nPs_ne (by omega), nNn_ne (by omega), n1 _ _ (by omega)]
          have z2 := ts2.x hW2
          have zl : V2 (c 120) 2 = ln := by rw [v2 _ _ (by decide), n2 _ _ (by omega)]; exact ls.lv
          rw [z2.2.2.2.1, zl]
          have hW3 : Wv c S (up (up V2 (c Lb) ai ln) (c 50) 5 sv) = up (up (nPs (nNn (nPs N (j + 1) (K (j + 1)) (W (j + 1))) (W (j + 1))) (j + 1 + 1) (K (j + 1 + 1)) (W (j + 1 + 1))) Lb ai ln) 50 5 sv := by rw [Wv_up hc (by decide), Wv_up hc ai0, hW2]
          have m2 : ∀ k i, ¬ (k = 0 ∧ 3 ≤ i ∧ i ≤ 6) → M2 k i = M k i := fun k i q => (lx2 k i q).trans (m1 k i q)
          refine ⟨yf, z2.2.2.2.2.2.2, by rw [tg2, n2 _ _ (by omega)]; exact hL.1, ai0, by rw [ln2, n2 _ _ (by omega), hL.2]; omega, act_tail (a := ai) hc h gf (by omega) (by omega) hcs hbod ai0 (by omega) hW3 (fun L k q1 q2 q3 q4 => by rw [up_ne (by omega), up_ne (by omega), n2 _ _ (by omega)]) (by rw [up_ne (by omega), up_eq]) up_eq (fun k i q1 _ _ => m2 k i q1) (ts2.fr (fun _ _ => rfl) (fun L k q => by unfold rdR at q; rw [up_ne (by omega), up_ne (by omega)]) (fun _ _ => rfl) (fun _ => rfl)) (by omega) (hB.fr (fun _ _ => rfl) (fun k => by rw [up_ne (by omega), up_ne (by omega), n2 _ _ (by omega)]) (fun k => by rw [up_ne (by omega), up_ne (by omega), n2 _ _ (by omega)]) (by rw [up_ne (by omega), up_ne (by omega), n2 _ _ (by omega)]) (fun k _ => by rw [up_ne (by omega), up_ne (by omega), n2 _ _ (by omega)]) (fun i _ _ => ⟨rfl, by rw [up_ne (by omega), up_ne (by omega), n2 _ _ (by omega)]⟩) (m2 _ _ (by omega)) (m2 _ _ (by omega)) (fun i _ _ => m2 _ _ (by omega)) (fun i => m2 _ _ (by omega))) (fun Qr hq => ref1 k3 Qr ?_) (fun V' M' gm' ow' eo' j' ln' g1 g2 g3 g4 g5 g6 g7 g8 g9 g10 g11 g12 g13 g14 => hok V' M' gm' ow' eo' j' ln' ai g1 g2 g3 g4 g5 g6 g7 g8 g9 g10 ai0 (by omega) g11 g12 (fun hz => ⟨nb, fun a' p0 p1 => ?_⟩) g14) hbad⟩
          rotate_left
          · rw [g13, m2 _ _ (by omega)] at p0
            rw [g12 a' (by omega) (by omega)]
            exact hz a' p0 p1
          rw [if_pos ai0, if_neg (fun y => y.2 (mk.trans mb))]
          refine st_readAct_132 ⟨fun y => absurd rfl y, fun _ => ⟨fun _ => ?_, fun y => absurd (by omega) y⟩⟩
          rw [h1.ls.b9]
          refine ⟨b0, b1, fun _ => rn2 _ ?_, fun y => absurd (by rw [m11]; omega) y⟩
          rcases hcs with p | p
          · have : fa sv = 0 := by rw [p.2.2.2.2.1]; rfl
            rw [this] at hq
            have e1 : (fun (z11 : Int) M11 => PM (e' + 1) n_readAct_224 [xr, ai, 0, 1, 1, 0] M11 Qr) = (fun (z11 : Int) M11 => (xr = -1 → PM (e' + 1) n_readAct_224 [xr, ai, 0, 1, 1, 0] M11 Qr) ∧ (¬ (xr = -1) → PM (e' + 1) n_readAct_224 [xr, ai, 0, 1, 1, 1] M11 Qr)) := by
              funext z M
              exact propext ⟨fun q => ⟨fun _ => q, fun y => absurd p.1 y⟩, fun q => q.1 p.1⟩
            rw [e1] at hq
            exact hq
          · have : fa sv = 1 := by rw [p.2.2.2.2.2.1]; rfl
            rw [this] at hq
            have xn : ¬ (xr = -1) := by omega
            have e1 : (fun (z11 : Int) M11 => PM (e' + 1) n_readAct_224 [xr, ai, 0, 1, 1, 1] M11 Qr) = (fun (z11 : Int) M11 => (xr = -1 → PM (e' + 1) n_readAct_224 [xr, ai, 0, 1, 1, 0] M11 Qr) ∧ (¬ (xr = -1) → PM (e' + 1) n_readAct_224 [xr, ai, 0, 1, 1, 1] M11 Qr)) := by
              funext z M
              exact propext ⟨fun q => ⟨fun y => absurd y xn, fun _ => q⟩, fun q => q.2 xn⟩
            rw [e1] at hq
            exact hq
        · exact bad 0 1 2 (Or.inl ⟨k3, rfl⟩) (ref0 k3) _ (fun V2 q => ⟨fun y => absurd rfl y, fun _ => q⟩)
      · have mb : M kb (bs + ai) ≠ -1 := by
          rcases bd with q | q
          · exact absurd q.1 nb
          · have := q.2.1; omega
        by_cases k3 : K (j + 1) = 3
        · refine bad 1 1 3 (Or.inr (Or.inl ⟨k3, by decide, rfl⟩)) (fun Qr hq => ref1 k3 Qr ?_) _ (fun V2 q => ⟨fun y => absurd rfl y, fun _ => q⟩)
          rw [if_pos ai0, if_pos ⟨ai0, by rw [mk]; exact mb⟩]
          exact st_readAct_132 ⟨fun _ => ⟨fun y => absurd y (by decide), fun _ => hq⟩, fun y => absurd (by decide) y⟩
        · exact bad 1 1 2 (Or.inl ⟨k3, rfl⟩) (ref0 k3) _ (fun V2 q => ⟨fun y => absurd rfl y, fun _ => q⟩)
    · -- a new one
      have i1 : ¬ (0 ≤ fdx (N 51) (W (j + 1)) (M 11 b).toNat 0) := ai0
      rw [z3, zna]
      refine ⟨yf, by rw [tg1]; exact hB1.tg, fun n4 => ?_, fun n4 => ?_⟩
      · by_cases k3 : K (j + 1) = 3
        · refine bad 0 0 5 (Or.inr (Or.inr ⟨k3, rfl, rfl, rfl⟩)) (fun Qr hq => ref1 k3 Qr ?_) _ (fun V2 q => ⟨fun y => absurd rfl y, fun _ => q⟩)
          rw [if_neg i1, if_neg (fun y => i1 y.1)]
          exact st_readAct_132 ⟨fun y => absurd rfl y, fun _ => ⟨fun y => absurd (by omega) y, fun _ => ⟨fun _ => hq, fun y => absurd rfl y⟩⟩⟩
        · exact bad 0 0 2 (Or.inl ⟨k3, rfl⟩) (ref0 k3) _ (fun V2 q => ⟨fun y => absurd rfl y, fun _ => q⟩)
      · by_cases k3 : K (j + 1) = 3
        · have ta : ∀ k i, ¬ (k = 12 ∧ i = 4 * b + M 11 b) → ¬ (k = 11 ∧ i = b) → up (up M1 12 (4 * b + M 11 b) (nmv P E b (j + 1))) 11 b (M 11 b + 1) k i = M1 k i := fun k i q1 q2 => by rw [up_ne (by omega), up_ne (by omega)]
          have tsa : TS c (nPs N (j + 1) (K (j + 1)) (W (j + 1))) (up (up M1 12 (4 * b + M 11 b) (nmv P E b (j + 1))) 11 b (M 11 b + 1)) K P W E nt (j + 1) := ts1.fr (fun _ _ => rfl) (fun _ _ _ => rfl) (fun i hi => ta _ _ (by omega) (by omega)) (fun i => ta _ _ (by omega) (by omega))
          refine CT.im (by omega) (fun d3 hd3 => ct_new1 (e := e') hc hW1 tsa k3 (by omega) (by omega) (fun V2 M2 hW2 ts2 lx2 rn2 => ⟨fun _ => ?_, fun y => absurd (by decide) y⟩))
          obtain ⟨v2, tg2, ln2⟩ := Wr hW2
          have n2 : ∀ L k, ¬ (L = 50 ∧ 6 ≤ k ∧ k ≤ 9) → nPs (nNn (nPs N (j + 1) (K (j + 1)) (W (j + 1))) (W (j + 1))) (j + 1 + 1) (K (j + 1 + 1)) (W (j + 1 + 1)) L k = N L k := fun L k q => by rw [nPs_ne (by omega), nNn_ne (by omega), n1 _ _ (by omega)]
          have z2 := ts2.x hW2
          have zl : V2 (c 120) 2 = ln := by rw [v2 _ _ (by decide), n2 _ _ (by omega)]; exact ls.lv
          have y3 : V2 (c 50) 3 = c (128 * b + 1) := by rw [v2 _ _ (by decide), n2 _ _ (by omega)]; exact hB.r3
          have y2 : V2 (c (128 * b + 1)) 2 = M 11 b := by rw [v2 _ _ (by decide), n2 _ _ (by omega)]; exact hB.na
          have y5 : V2 (c 50) 2 = c 51 := (v2 _ _ (by decide)).trans ts2.rd.r2
          have y9 : V2 (c 50) 9 = W (j + 1) := by rw [v2 _ _ (by decide), nPs_ne (by omega)]; exact up_eq
          rw [y3, y2, y5, y9, z2.2.2.2.1, zl]
          have hW3 : Wv c S (up (up (up (up V2 (c 51) (M 11 b) (W (j + 1))) (c (128 * b + 1)) 2 (M 11 b + 1)) (c Lb) (M 11 b) ln) (c 50) 5 sv) = up (up (up (up (nPs (nNn (nPs N (j + 1) (K (j + 1)) (W (j + 1))) (W (j + 1))) (j + 1 + 1) (K (j + 1 + 1)) (W (j + 1 + 1))) 51 (M 11 b) (W (j + 1))) (128 * b + 1) 2 (M 11 b + 1)) Lb (M 11 b) ln) 50 5 sv := by rw [Wv_up hc (by decide), Wv_up hc na0, Wv_up hc (by decide), Wv_up hc na0, hW2]
          have m2 : ∀ k i, ¬ (k = 0 ∧ 3 ≤ i ∧ i ≤ 6) → ¬ (k = 12 ∧ i = 4 * b + M 11 b) → ¬ (k = 11 ∧ i = b) → M2 k i = M k i := fun k i q q1 q2 => (lx2 k i q).trans ((ta k i q1 q2).trans (m1 k i q))
          have m212 : M2 12 (4 * b + M 11 b) = nmv P E b (j + 1) := (lx2 _ _ (by omega)).trans (by rw [up_ne (by omega), up_eq])
          have m211 : M2 11 b = M 11 b + 1 := (lx2 _ _ (by omega)).trans up_eq
          have x3 : ∀ L k, ¬ (L = 50 ∧ 5 ≤ k ∧ k ≤ 9) → ¬ (L = 51 ∧ k = M 11 b) → ¬ (L = 128 * b + 1 ∧ k = 2) → ¬ (L = Lb ∧ k = M 11 b) → up (up (up (up (nPs (nNn (nPs N (j + 1) (K (j + 1)) (W (j + 1))) (W (j + 1))) (j + 1 + 1) (K (j + 1 + 1)) (W (j + 1 + 1))) 51 (M 11 b) (W (j + 1))) (128 * b + 1) 2 (M 11 b + 1)) Lb (M 11 b) ln) 50 5 sv L k = N L k := fun L k q1 q2 q3 q4 => by rw [up_ne (by omega), up_ne (by omega), up_ne (by omega), up_ne (by omega), n2 _ _ (by omega)]
          have x51 : up (up (up (up (nPs (nNn (nPs N (j + 1) (K (j + 1)) (W (j + 1))) (W (j + 1))) (j + 1 + 1) (K (j + 1 + 1)) (W (j + 1 + 1))) 51 (M 11 b) (W (j + 1))) (128 * b + 1) 2 (M 11 b + 1)) Lb (M 11 b) ln) 50 5 sv 51 (M 11 b) = W (j + 1) := by rw [up_ne (by omega), up_ne (by omega), up_ne (by omega), up_eq]
          have x1 : up (up (up (up (nPs (nNn (nPs N (j + 1) (K (j + 1)) (W (j + 1))) (W (j + 1))) (j + 1 + 1) (K (j + 1 + 1)) (W (j + 1 + 1))) 51 (M 11 b) (W (j + 1))) (128 * b + 1) 2 (M 11 b + 1)) Lb (M 11 b) ln) 50 5 sv (128 * b + 1) 2 = M 11 b + 1 := by rw [up_ne (by omega), up_ne (by omega), up_eq]
          have hb3 : HB c (up (up (up (up (nPs (nNn (nPs N (j + 1) (K (j + 1)) (W (j + 1))) (W (j + 1))) (j + 1 + 1) (K (j + 1 + 1)) (W (j + 1 + 1))) 51 (M 11 b) (W (j + 1))) (128 * b + 1) 2 (M 11 b + 1)) Lb (M 11 b) ln) 50 5 sv) M2 b := by
            have m7 : ∀ i, M2 7 i = M 7 i := fun i => m2 _ _ (by omega) (by omega) (by omega)
            obtain ⟨a1, a2, a3, a4, a5, a6, a7, a8, a9, a10, a11, a12, a13, a14, a15⟩ := hB
            refine ⟨by rw [x3 _ _ (by omega) (by omega) (by omega) (by omega)]; exact a1, by rw [x3 _ _ (by omega) (by omega) (by omega) (by omega)]; exact a2, by rw [x3 _ _ (by omega) (by omega) (by omega) (by omega)]; exact a3, by rw [x3 _ _ (by omega) (by omega) (by omega) (by omega)]; exact a4, by rw [x3 _ _ (by omega) (by omega) (by omega) (by omega)]; exact a5, by rw [x3 _ _ (by omega) (by omega) (by omega) (by omega), m2 _ _ (by omega) (by omega) (by omega)]; exact a6, by rw [m2 _ _ (by omega) (by omega) (by omega)]; exact a7, by rw [m2 _ _ (by omega) (by omega) (by omega)]; exact a8, by rw [x1, m211], by rw [m211]; omega, by rw [m211]; omega, by rw [x3 _ _ (by omega) (by omega) (by omega) (by omega)]; exact a12, by rw [x3 _ _ (by omega) (by omega) (by omega) (by omega)]; exact a13, fun i i0 i1 => ?_, fun i i0 i1 => ?_⟩
            · rw [m2 _ _ (by omega) (by omega) (by omega)] at i1
              rw [x3 _ _ (by omega) (by omega) (by omega) (by omega), x3 _ _ (by omega) (by omega) (by omega) (by omega)]
              exact a14 i i0 i1
            · rw [m211] at i1
              by_cases y : i = M 11 b
              · subst y
                rw [x51, m212]
                exact (nrj k3).m7 (fun t => (m7 t).trans (m1 _ _ (by omega)).symm)
              · rw [x3 _ _ (by omega) (by omega) (by omega) (by omega), m2 _ _ (by omega) (by omega) (by omega)]
                exact (a15 i i0 (by omega)).m7 m7
          refine ⟨yf, by rw [tg2, n2 _ _ (by omega)]; exact hB.tg, by rw [tg2]; exact ts2.rd.g51, na0, by rw [ln2, ts2.rd.n51]; omega, by omega, by omega, z2.2.2.2.2.2.2, by rw [tg2, n2 _ _ (by omega)]; exact hL.1, by rw [ln2, n2 _ _ (by omega), hL.2]; omega, act_tail (a := M 11 b) hc h gf (by omega) (by omega) hcs hbod na0 (by omega) hW3 (fun L k q1 q2 q3 q4 => x3 L k q1 (by omega) q3 q4) (by rw [up_ne (by omega), up_eq]) up_eq (fun k i q1 q2 q3 => m2 k i q1 (by omega) q2) (ts2.fr (fun _ _ => rfl) (fun L k q => by unfold rdR at q; rw [up_ne (by omega), up_ne (by omega), up_ne (by omega), up_ne (by omega)]) (fun _ _ => rfl) (fun _ => rfl)) (by omega) hb3 (fun Qr hq => ref1 k3 Qr ?_) (fun V' M' gm' ow' eo' j' ln' g1 g2 g3 g4 g5 g6 g7 g8 g9 g10 g11 g12 g13 g14 => hok V' M' gm' ow' eo' j' ln' (M 11 b) g1 g2 g3 g4 g5 g6 g7 g8 g9 g10 na0 (by omega) g11 g12 (fun hz => ⟨hz _ (Int.le_refl _) (by omega), fun a' p0 p1 => ?_⟩) g14) hbad⟩
          rotate_left
          · rw [g13, m211] at p0
            rw [g12 a' (by omega) (by omega)]
            exact hz a' (by omega) p1
          rw [if_neg i1, if_neg (fun y => i1 y.1)]
          refine st_readAct_132 ⟨fun y => absurd rfl y, fun _ => ⟨fun _ => ?_, fun y => absurd (by omega) y⟩⟩
          rw [h1.ls.b9]
          refine ⟨b0, b1, fun y => absurd m11.symm y, fun _ => ⟨by omega, by omega, by omega, by omega, ts1.nh h1.ls.b9 b0 b1 (by omega) _ ?_⟩⟩
          rw [h1.ls.b9, m11]
          refine ⟨by omega, by omega, b0, b1, by omega, by omega, rn2 _ ?_⟩
          rcases hcs with p | p
          · have : fa sv = 0 := by rw [p.2.2.2.2.1]; rfl
            rw [this] at hq
            have e1 : (fun (z11 : Int) M11 => PM (e' + 1) n_readAct_224 [xr, M 11 b, 0, 1, 1, 0] M11 Qr) = (fun (z11 : Int) M11 => (xr = -1 → PM (e' + 1) n_readAct_224 [xr, M 11 b, 0, 1, 1, 0] M11 Qr) ∧ (¬ (xr = -1) → PM (e' + 1) n_readAct_224 [xr, M 11 b, 0, 1, 1, 1] M11 Qr)) := by
              funext z Mz
              exact propext ⟨fun q => ⟨fun _ => q, fun y => absurd p.1 y⟩, fun q => q.1 p.1⟩
            rw [e1] at hq
            exact hq
          · have : fa sv = 1 := by rw [p.2.2.2.2.2.1]; rfl
            rw [this] at hq
            have xn : ¬ (xr = -1) := by omega
            have e1 : (fun (z11 : Int) M11 => PM (e' + 1) n_readAct_224 [xr, M 11 b, 0, 1, 1, 1] M11 Qr) = (fun (z11 : Int) M11 => (xr = -1 → PM (e' + 1) n_readAct_224 [xr, M 11 b, 0, 1, 1, 0] M11 Qr) ∧ (¬ (xr = -1) → PM (e' + 1) n_readAct_224 [xr, M 11 b, 0, 1, 1, 1] M11 Qr)) := by
              funext z Mz
              exact propext ⟨fun q => ⟨fun y => absurd y xn, fun _ => q⟩, fun q => q.2 xn⟩
            rw [e1] at hq
            exact hq
        · exact bad 0 1 2 (Or.inl ⟨k3, rfl⟩) (ref0 k3) _ (fun V2 q => ⟨fun y => absurd rfl y, fun _ => q⟩)
  · refine ct_acc0 hc hW ts k5 (by omega) (fun V1 hW1 => ⟨fun y => absurd rfl y, fun _ => ?_⟩)
    exact hbad V1 (mFt M (if K j = 0 then 1 else 2) (P j)) (gf.tr (fun _ _ => rfl) (fun L k q => by rw [hW1]; exact gf_nft q) (fun k i q => gf_mft q)) (by rw [hW1]; exact FTS.ft (ftp (by decide))) (fun Qr hq => st_readAct_0 (ts.wd0 1 (by decide) k5 (by omega) _ ⟨fun y => absurd rfl y, fun _ => ts.ft w0 (by omega) _ hq⟩))
end ACR
