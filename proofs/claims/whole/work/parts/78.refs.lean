/-! ===== book: references ===== -/
def RTL (e : Nat) (R : Int) (Qr : Int → Mem → Prop) (M : Mem) : Prop := PM e n_expression_0 [10, (-1), (-1)] M (fun z11 M11 => 0 ≤ R ∧ R < 3100 ∧ (0 < (M11 0 46) → Qr z11 (up M11 48 R z11)) ∧ (¬ (0 < (M11 0 46)) → PM e n_isSign_0 [91] (up M11 48 R z11) (fun z14 M14 => (z14 ≠ 0 → ((M14 0 42) ≠ 12 → -2147483648 ≤ (M14 0 42) + 1 ∧ (M14 0 42) + 1 ≤ 2147483647 ∧ PM e n_next_0 [] (up M14 0 42 ((M14 0 42) + 1)) (fun z18 M18 => PM e n_readSum_0 [] M18 (fun z20 M20 => PM e n_sign_0 [93] M20 (fun z22 M22 => -2147483648 ≤ (M22 0 42) - 1 ∧ (M22 0 42) - 1 ≤ 2147483647 ∧ ((M22 0 46) ≤ 0 → 0 ≤ z11 ∧ z11 < 31000 ∧ Qr z11 (up (up (up M22 0 42 ((M22 0 42) - 1)) 35 z11 12) 37 z11 z20)) ∧ (¬ ((M22 0 46) ≤ 0) → Qr z11 (up M22 0 42 ((M22 0 42) - 1))))))) ∧ (¬ ((M14 0 42) ≠ 12) → PM e n_fault_0 [5] M14 (fun z25 M25 => Qr z25 M25))) ∧ (¬ (z14 ≠ 0) → Qr z11 M14))))
section RFT
variable {l : Launch} {G : GT} {c : Int → Int} {S : Sh} {Q : Int → Sh → Mem → Prop} {d mc ms e : Nat} {K P W E : Int → Int} {nt b g st B n j ln : Int} {N M gm : Mem}
set_option maxHeartbeats 1000000 in
theorem ref_tail {t j1 : Int} {V N1 M1 : Mem} (hc : Cn c S) (cn : CN b B st) (n0 : 0 ≤ n) (n1 : n ≤ 12) (hd : 3 ≤ d) (he : 10 ≤ e) (hS : n < 12 → FacT l G c S K P W E nt b g st B bX5_readSum n_readSum_0 (3 * (12 - (n + 1)) + 3) (n + 1) (d - 1) e)
    (xs : XS c N M K P W E nt b g st B n j ln) (hW1 : Wv c S V = N1) (fn : fXn ln N N1) (hl : N1 120 2 = ln) (hf : N1 50 10 = 0) (fm : fXm (M 0 40) (M 0 51) M M1) (m40 : M1 0 40 = M 0 40) (m51 : M1 0 51 = M 0 51 + 1) (m46 : M1 0 46 = 0) (m42 : M1 0 42 = n) (ts1 : TS c N1 M1 K P W E nt j1) (jj : j < j1)
    (nm : 0 ≤ t ∧ t + 1 < nt ∧ K t = 3 ∧ ((K (t + 1) ≠ 46 ∧ M1 49 (M 0 51) = -1 ∧ M1 50 (M 0 51) = nmv P E b t) ∨ (K (t + 1) = 46 ∧ t + 2 < nt ∧ K (t + 2) = 3 ∧ M1 49 (M 0 51) = nmv P E b t ∧ M1 50 (M 0 51) = nmv P E b (t + 2))))
    (ref : ∀ Qr : Int → Mem → Prop, RTL e (M 0 51) Qr M1 → PM (e + 1) n_readReference_0 [] M Qr)
    (hok : ∀ V' M' gm' x j' ln', XR c N M gm K P W E nt b g st B n j ln (3 * (12 - n) + 1) (Wv c S V') M' gm' x j' ln' → RunM (e + 1) n_readReference_0 [] M x M' → Q 1 S V') (hbad : ∀ V' M' z, XF ln n N M (Wv c S V') M' → RunM (e + 1) n_readReference_0 [] M z M' → Q 0 S V') : XJ l G bX5_readReference Q d 51 [vr (c 50), vi n, vi t] [] S V mc ms := by
  have hl0 := xs.l0
  have hlj := xs.lj
  have hx0 := xs.x0
  have hx1 := xs.x1
  have r51 := xs.r0
  have ntb := ts1.ntb
  have j11 := ts1.j1
  have cb := cn
  unfold CN at cb
  obtain ⟨ya, yb, yc, yd, ye, yf, yg⟩ := ts1.x hW1
  have kk : ¬ ((2 : Int) ≤ 10 ∧ (10 : Int) ≤ 5) := by decide
  have m3 : ∀ L i, ¬ (35 ≤ L ∧ L ≤ 39 ∧ i = M 0 40) → ¬ (L = 0 ∧ i = 40) → ¬ (L = 48 ∧ i = M 0 51) → up (mEx M1 10 (-1) (-1)) 48 (M 0 51) (M 0 40) L i = M1 L i := fun L i q1 q2 q3 => by
    rw [up_ne (by omega), mEx_ne (by omega)]
  have e40 : up (mEx M1 10 (-1) (-1)) 48 (M 0 51) (M 0 40) 0 40 = M 0 40 + 1 := by rw [up_ne (by omega), mEx_40, m40]
  have e35 : up (mEx M1 10 (-1) (-1)) 48 (M 0 51) (M 0 40) 35 (M 0 40) = 10 := by rw [up_ne (by omega), ← m40, mEx_35]
  have e39 : up (mEx M1 10 (-1) (-1)) 48 (M 0 51) (M 0 40) 39 (M 0 40) = g := by rw [up_ne (by omega), ← m40, mEx_39]; exact (xs.xc.fr fm).2.1
  have e48 : up (mEx M1 10 (-1) (-1)) 48 (M 0 51) (M 0 40) 48 (M 0 51) = M 0 40 := up_eq
  have e46 : up (mEx M1 10 (-1) (-1)) 48 (M 0 51) (M 0 40) 0 46 = 0 := (m3 _ _ (by omega) (by omega) (by omega)).trans m46
  have e42 : up (mEx M1 10 (-1) (-1)) 48 (M 0 51) (M 0 40) 0 42 = n := (m3 _ _ (by omega) (by omega) (by omega)).trans m42
  have e51 : up (mEx M1 10 (-1) (-1)) 48 (M 0 51) (M 0 40) 0 51 = M 0 51 + 1 := (m3 _ _ (by omega) (by omega) (by omega)).trans m51
  have e49 : up (mEx M1 10 (-1) (-1)) 48 (M 0 51) (M 0 40) 49 (M 0 51) = M1 49 (M 0 51) := m3 _ _ (by omega) (by omega) (by omega)
  have e50 : up (mEx M1 10 (-1) (-1)) 48 (M 0 51) (M 0 40) 50 (M 0 51) = M1 50 (M 0 51) := m3 _ _ (by omega) (by omega) (by omega)
  have fm3 : fXm (M 0 40) (M 0 51) M (up (mEx M1 10 (-1) (-1)) 48 (M 0 51) (M 0 40)) := fun k i q1 q2 q3 => (m3 k i (by omega) (by omega) (by omega)).trans (fm k i q1 q2 q3)
  have ts3 : TS c N1 (up (mEx M1 10 (-1) (-1)) 48 (M 0 51) (M 0 40)) K P W E nt j1 := ts1.fr (fun _ _ => rfl) (fun _ _ _ => rfl) (fun i hi => m3 _ _ (by omega) (by omega) (by omega)) (fun i => m3 _ _ (by omega) (by omega) (by omega))
  have rcl : ∀ N2 : Mem, fXn ln N1 N2 → rcn (N2 121) ln.toNat = M 0 51 := fun N2 f2 => by
    rw [rcn_cg (g := N 121) _ (fun k a q => (f2 121 k (by omega) (by omega) (by omega)).trans (fn 121 k (by omega) (by omega) (by omega))), xs.r]
  generalize hM3 : up (mEx M1 10 (-1) (-1)) 48 (M 0 51) (M 0 40) = M3 at *
  have ref3 : ∀ Qr : Int → Mem → Prop, PM e n_isSign_0 [91] M3 (fun z14 M14 => (z14 ≠ 0 → ((M14 0 42) ≠ 12 → -2147483648 ≤ (M14 0 42) + 1 ∧ (M14 0 42) + 1 ≤ 2147483647 ∧ PM e n_next_0 [] (up M14 0 42 ((M14 0 42) + 1)) (fun z18 M18 => PM e n_readSum_0 [] M18 (fun z20 M20 => PM e n_sign_0 [93] M20 (fun z22 M22 => -2147483648 ≤ (M22 0 42) - 1 ∧ (M22 0 42) - 1 ≤ 2147483647 ∧ ((M22 0 46) ≤ 0 → 0 ≤ M 0 40 ∧ M 0 40 < 31000 ∧ Qr (M 0 40) (up (up (up M22 0 42 ((M22 0 42) - 1)) 35 (M 0 40) 12) 37 (M 0 40) z20)) ∧ (¬ ((M22 0 46) ≤ 0) → Qr (M 0 40) (up M22 0 42 ((M22 0 42) - 1))))))) ∧ (¬ ((M14 0 42) ≠ 12) → PM e n_fault_0 [5] M14 (fun z25 M25 => Qr z25 M25))) ∧ (¬ (z14 ≠ 0) → Qr (M 0 40) M14)) → PM (e + 1) n_readReference_0 [] M Qr := fun Qr hq => ref Qr (rn_ex (k := 10) (a := -1) (b := -1) (by omega) (by omega) (fun q => absurd q kk) (by omega) _ (by
    rw [m40, hM3]
    exact ⟨by omega, by omega, fun y => absurd y (by have : mEx M1 10 (-1) (-1) 0 46 = M1 0 46 := mEx_ne (by omega); omega), fun _ => hq⟩))
  refine vX5_readReference_51 ?_
  rw [ya, yd]
  refine ⟨yf, fun k91 => ⟨yg, CT.im (by omega) (fun d2 hd2 => ct_emit hc hW1 ts1.rd hl hl0 (by omega) (fun V5 hW5 => ?_))⟩, fun k91 => ⟨yg, CT.im (by omega) (fun d2 hd2 => ct_emit hc hW1 ts1.rd hl hl0 (by omega) (fun V5 hW5 => ?_))⟩⟩
  · -- a table's entry
    have ts5 : TS c (nEm N1 ln 12 t) M3 K P W E nt j1 := ts3.em hl0
    obtain ⟨za, zb, zc, zd, ze, zf, zg⟩ := ts5.x hW5
    have fn5 : fXn ln N (nEm N1 ln 12 t) := fn.tr fXn.em (Int.le_refl _)
    refine ⟨fun n12 => ⟨zf, CT.im (by omega) (fun d3 hd3 => ct_pass0 hc hW5 ts5 (fun V6 hW6 => ⟨fun _ => hbad V6 (mFt M3 (if K j1 = 0 then 1 else 5) (P j1)) (-1) ⟨by rw [hW6]; exact fn5.tr fXn.ft (Int.le_refl _), fm3.tr fXm.ft (Int.le_refl _) (Int.le_refl _), (mFt_ne (by omega)).trans e42, by rw [mFt_46]; split <;> decide, by rw [hW6, nFt_10, mFt_46], by rw [hW6, nFt_11, mFt_47]; exact ⟨rfl, ts5.pb⟩⟩ (fun Qr hq => ref3 Qr (ts3.sg1 (by decide) k91 (by omega) _ ⟨fun _ => ⟨fun q => absurd (show M3 0 42 = 12 by omega) q, fun _ => ts3.ft e46 (by omega) _ hq⟩, fun q => absurd (by decide) q⟩)), fun q => absurd rfl q⟩))⟩, fun n12 => ⟨zf, ?_⟩⟩
    have ts6 : TS c (nEm N1 ln 12 t) (up M3 0 42 (n + 1)) K P W E nt j1 := ts5.fr (fun _ _ => rfl) (fun _ _ _ => rfl) (fun i hi => up_ne (by omega)) (fun i => up_ne (by omega))
    refine CT.im (by omega) (fun d3 hd3 => ct_pass (e := e) hc hW5 ts6 (by omega) (by omega) (by omega) (fun V6 M6 hW6 ts7 lx6 rn6 => ⟨fun q => absurd q (by decide), fun _ => ⟨by omega, by omega, (ts7.x hW6).2.2.2.2.2.1, CT.im (by omega) (fun d4 hd4 => ?_)⟩⟩))
    obtain rfl : d4 = d - 1 := by omega
    have v6 : ∀ k i, ¬ (k = 0 ∧ 3 ≤ i ∧ i ≤ 6) → ¬ (k = 0 ∧ i = 42) → M6 k i = M3 k i := fun k i q1 q2 => (lx6 k i q1).trans (up_ne (by omega))
    have n6 : M6 0 42 = n + 1 := (lx6 _ _ (by omega)).trans up_eq
    have x40 : M6 0 40 = M 0 40 + 1 := (v6 _ _ (by omega) (by omega)).trans e40
    have x51 : M6 0 51 = M 0 51 + 1 := (v6 _ _ (by omega) (by omega)).trans e51
    have fm6 : fXm (M 0 40) (M 0 51) M M6 := fm3.tr (fun k i q1 q2 q3 => v6 k i (by omega) (by omega)) (Int.le_refl _) (Int.le_refl _)
    have fn6 : fXn ln N (nPs (nEm N1 ln 12 t) (j1 + 1) (K (j1 + 1)) (W (j1 + 1))) := fn5.tr fXn.ps (Int.le_refl _)
    have rc1 : rcn (nPs (nEm N1 ln 12 t) (j1 + 1) (K (j1 + 1)) (W (j1 + 1)) 121) ln.toNat = M 0 51 := rcl _ (fXn.em.tr fXn.ps (Int.le_refl _))
    have o6 : nPs (nEm N1 ln 12 t) (j1 + 1) (K (j1 + 1)) (W (j1 + 1)) 121 ln = 12 := (nPs_ne (by omega)).trans nEm_o
    have a6 : nPs (nEm N1 ln 12 t) (j1 + 1) (K (j1 + 1)) (W (j1 + 1)) 122 ln = t := (nPs_ne (by omega)).trans nEm_a
    have xs6 : XS c (nPs (nEm N1 ln 12 t) (j1 + 1) (K (j1 + 1)) (W (j1 + 1))) M6 K P W E nt b g st B (n + 1) (j1 + 1) (ln + 1) := by
      refine xs.go fn6 fm6 ts7 ((nPs_ne (by omega)).trans nEm_l) ?_ (by omega) (by omega) (by omega) (by omega) ((v6 _ _ (by omega) (by omega)).trans e46) n6 ((nPs_ne (by omega)).trans ((nEm_ne (by omega)).trans hf))
      rw [rcn_s hl0, rc1, o6, x51]
      rfl
    have ref6 : ∀ Qr : Int → Mem → Prop, PM e n_readSum_0 [] M6 (fun z20 M20 => PM e n_sign_0 [93] M20 (fun z22 M22 => -2147483648 ≤ (M22 0 42) - 1 ∧ (M22 0 42) - 1 ≤ 2147483647 ∧ ((M22 0 46) ≤ 0 → 0 ≤ M 0 40 ∧ M 0 40 < 31000 ∧ Qr (M 0 40) (up (up (up M22 0 42 ((M22 0 42) - 1)) 35 (M 0 40) 12) 37 (M 0 40) z20)) ∧ (¬ ((M22 0 46) ≤ 0) → Qr (M 0 40) (up M22 0 42 ((M22 0 42) - 1))))) → PM (e + 1) n_readReference_0 [] M Qr := fun Qr hq => ref3 Qr (ts3.sg1 (by decide) k91 (by omega) _ ⟨fun _ => ⟨fun _ => ⟨by omega, by omega, by rw [e42]; exact rn6 _ hq⟩, fun q => absurd (by omega) q⟩, fun q => absurd (by decide) q⟩)
    refine hS (by omega) _ V6 _ M6 gm (j1 + 1) (ln + 1) hW6 xs6 (fun V7 M7 gm7 k j7 q7 xr run => ⟨fun q => absurd q (by decide), fun _ => ?_⟩) (fun V7 M7 z xf run => ⟨fun _ => ?_, fun q => absurd rfl q⟩)
    · obtain ⟨xs7, fn7, fm7, gf7, T7, ⟨p1, p2, p3, p4, p5⟩, ⟨b1, b2, b3, b4, b5⟩⟩ := xr
      obtain ⟨ua, ub, uc, ud, ue, uf, ug⟩ := xs7.ts.x rfl
      have fnn : fXn ln N (Wv c S V7) := fn6.tr fn7 (by omega)
      have fmm : fXm (M 0 40) (M 0 51) M M7 := fm6.tr fm7 (by omega) (by omega)
      have n7 := xs7.nv
      refine ⟨uf, ?_⟩
      rw [ua]
      refine ⟨fun k93 => CT.im (by omega) (fun d5 hd5 => ct_pass0 hc rfl xs7.ts (fun V8 hW8 => ⟨fun q => absurd rfl q, fun _ => ?_⟩)), fun k93 => ?_⟩
      · refine hbad V8 (up (mFt M7 (if K j7 = 0 then 1 else 2) (P j7)) 0 42 n) (M 0 40) ⟨by rw [hW8]; exact fnn.tr fXn.ft (Int.le_refl _), (fmm.tr fXm.ft (Int.le_refl _) (Int.le_refl _)).tr fXm.nest (Int.le_refl _) (Int.le_refl _), up_eq, ?_, ?_, ?_⟩ (fun Qr hq => ref6 Qr (run _ (xs7.ts.sn0 xs7.w (by decide) k93 (by omega) _ ?_)))
        · rw [up_ne (by omega), mFt_46]; split <;> decide
        · rw [up_ne (by omega), hW8, nFt_10, mFt_46]
        · rw [up_ne (by omega), hW8, nFt_11, mFt_47]; exact ⟨rfl, xs7.ts.pb⟩
        · have w1 : mFt M7 (if K j7 = 0 then 1 else 2) (P j7) 0 42 = n + 1 := (mFt_ne (by omega)).trans n7
          have w2 : 0 < mFt M7 (if K j7 = 0 then 1 else 2) (P j7) 0 46 := by rw [mFt_46]; split <;> decide
          rw [w1, show n + 1 - 1 = n from by omega]
          exact ⟨by omega, by omega, fun q => absurd q (by omega), fun _ => hq⟩
      · have k93 := Classical.not_not.1 k93
        have jt := xs7.ts.lt (show K j7 ≠ 1 by omega)
        refine CT.im (by omega) (fun d5 hd5 => ct_pass (e := e - 1) hc rfl xs7.ts (by omega) (by omega) (by omega) (fun V8 M8 hW8 ts8 lx8 rn8 => ⟨fun _ => ?_, fun q => absurd (by decide) q⟩))
        have l70 := xs7.l0
        obtain ⟨wa, wb', wc, wd, we, wf, wg⟩ := ts8.x hW8
        rw [wd]
        refine ⟨wf, wg, CT.im (by omega) (fun d6 hd6 => ct_emit hc hW8 ts8.rd ((nPs_ne (by omega)).trans xs7.l) l70 (by omega) (fun V9 hW9 => ?_))⟩
        have v8 : ∀ k i, ¬ (k = 0 ∧ 3 ≤ i ∧ i ≤ 6) → M8 k i = M7 k i := fun k i q => lx8 k i q
        have fm9 : ∀ L i, ¬ (L = 0 ∧ i = 42) → ¬ (L = 35 ∧ i = M 0 40) → ¬ (L = 37 ∧ i = M 0 40) → up (up (up M8 0 42 n) 35 (M 0 40) 12) 37 (M 0 40) k L i = M8 L i := fun L i q1 q2 q3 => by rw [up_ne (by omega), up_ne (by omega), up_ne (by omega)]
        have f35 : up (up (up M8 0 42 n) 35 (M 0 40) 12) 37 (M 0 40) k 35 (M 0 40) = 12 := by rw [up_ne (by omega), up_eq]
        have f37 : up (up (up M8 0 42 n) 35 (M 0 40) 12) 37 (M 0 40) k 37 (M 0 40) = k := up_eq
        have f42 : up (up (up M8 0 42 n) 35 (M 0 40) 12) 37 (M 0 40) k 0 42 = n := by rw [up_ne (by omega), up_ne (by omega), up_eq]
        have v37 : ∀ L i, (35 ≤ L ∧ L ≤ 39 ∧ i ≤ M 0 40 ∨ 48 ≤ L ∧ L ≤ 50 ∧ i ≤ M 0 51) → M7 L i = M3 L i := fun L i q => (fm7 L i (by omega) (by omega) (by omega)).trans (v6 L i (by omega) (by omega))
        have run9 : RunM (e + 1) n_readReference_0 [] M (M 0 40) (up (up (up M8 0 42 n) 35 (M 0 40) 12) 37 (M 0 40) k) := fun Qr hq => ref6 Qr (run _ (xs7.ts.sn1 xs7.w (by decide) k93 (by omega) rn8 _ (by
          have w1 : M8 0 42 = n + 1 := (v8 _ _ (by omega)).trans n7
          have w2 : M8 0 46 = 0 := (v8 _ _ (by omega)).trans xs7.w
          rw [w1, show n + 1 - 1 = n from by omega]
          exact ⟨by omega, by omega, fun _ => ⟨by omega, by omega, hq⟩, fun q => absurd (by omega) q⟩)))
        have q40 : up (up (up M8 0 42 n) 35 (M 0 40) 12) 37 (M 0 40) k 0 40 = M7 0 40 := (fm9 _ _ (by omega) (by omega) (by omega)).trans (v8 _ _ (by omega))
        have q51 : up (up (up M8 0 42 n) 35 (M 0 40) 12) 37 (M 0 40) k 0 51 = M7 0 51 := (fm9 _ _ (by omega) (by omega) (by omega)).trans (v8 _ _ (by omega))
        have q39 : up (up (up M8 0 42 n) 35 (M 0 40) 12) 37 (M 0 40) k 39 (M 0 40) = g := by rw [fm9 _ _ (by omega) (by omega) (by omega), v8 _ _ (by omega), v37 _ _ (by omega)]; exact e39
        have q48 : ∀ L, 48 ≤ L → L ≤ 50 → up (up (up M8 0 42 n) 35 (M 0 40) 12) 37 (M 0 40) k L (M 0 51) = M3 L (M 0 51) := fun L q1 q2 => by rw [fm9 _ _ (by omega) (by omega) (by omega), v8 _ _ (by omega), v37 _ _ (by omega)]
        have qq : ∀ L i, 35 ≤ L → L ≤ 39 → M 0 40 < i → up (up (up M8 0 42 n) 35 (M 0 40) 12) 37 (M 0 40) k L i = M7 L i := fun L i q1 q2 q3 => (fm9 _ _ (by omega) (by omega) (by omega)).trans (v8 _ _ (by omega))
        have qr : ∀ L i, 48 ≤ L → L ≤ 50 → up (up (up M8 0 42 n) 35 (M 0 40) 12) 37 (M 0 40) k L i = M7 L i := fun L i q1 q2 => (fm9 _ _ (by omega) (by omega) (by omega)).trans (v8 _ _ (by omega))
        have fmF : fXm (M 0 40) (M 0 51) M (up (up (up M8 0 42 n) 35 (M 0 40) 12) 37 (M 0 40) k) := fmm.tr (fun L i q1 q2 q3 => (fm9 L i (by omega) (by omega) (by omega)).trans (v8 _ _ (by omega))) (Int.le_refl _) (Int.le_refl _)
        have tsF : TS c (nEm (nPs (Wv c S V7) (j7 + 1) (K (j7 + 1)) (W (j7 + 1))) q7 13 t) (up (up (up M8 0 42 n) 35 (M 0 40) 12) 37 (M 0 40) k) K P W E nt (j7 + 1) := (ts8.em l70).fr (fun _ _ => rfl) (fun _ _ _ => rfl) (fun i hi => fm9 _ _ (by omega) (by omega) (by omega)) (fun i => fm9 _ _ (by omega) (by omega) (by omega))
        have f19 : fXn ln N1 (nEm (nPs (Wv c S V7) (j7 + 1) (K (j7 + 1)) (W (j7 + 1))) q7 13 t) := (((fXn.em.tr fXn.ps (Int.le_refl ln)).tr fn7 (by omega)).tr fXn.ps (Int.le_refl ln)).tr fXn.em (by omega)
        have fn9 : fXn ln N (nEm (nPs (Wv c S V7) (j7 + 1) (K (j7 + 1)) (W (j7 + 1))) q7 13 t) := fn.tr f19 (Int.le_refl _)
        have o9 : nEm (nPs (Wv c S V7) (j7 + 1) (K (j7 + 1)) (W (j7 + 1))) q7 13 t 121 ln = 12 := (nEm_ne (by omega)).trans ((nPs_ne (by omega)).trans ((fn7 121 ln (by omega) (by omega) (by omega)).trans o6))
        have a9 : nEm (nPs (Wv c S V7) (j7 + 1) (K (j7 + 1)) (W (j7 + 1))) q7 13 t 122 ln = t := (nEm_ne (by omega)).trans ((nPs_ne (by omega)).trans ((fn7 122 ln (by omega) (by omega) (by omega)).trans a6))
        have rc9 : rcn (nEm (nPs (Wv c S V7) (j7 + 1) (K (j7 + 1)) (W (j7 + 1))) q7 13 t 121) ln.toNat = M 0 51 := rcl _ f19
        have gu : ∀ i y, y ≠ M 0 40 → gmU gm7 (M 0 40) ln (q7 + 1) (3 * (12 - n) + 1) st i y = gm7 i y := fun i y q => gmU_ne q
        have T9 : TRE (nEm (nPs (Wv c S V7) (j7 + 1) (K (j7 + 1)) (W (j7 + 1))) q7 13 t) (up (up (up M8 0 42 n) 35 (M 0 40) 12) 37 (M 0 40) k) (gmU gm7 (M 0 40) ln (q7 + 1) (3 * (12 - n) + 1) st) K P E nt b g st (M 0 40 + 1) (M7 0 40) (ln + 1) q7 := by
          rw [x40] at T7
          refine T7.fr (by omega) (fun i i0 i1 => ⟨(nEm_ne (by omega)).trans (nPs_ne (by omega)), (nEm_ne (by omega)).trans (nPs_ne (by omega))⟩) (fun L y q1 q2 q3 y0 y1 => qq L y q1 q2 (by omega)) (fun y y0 y1 q1 q2 => ?_) (fun L i q1 q2 _ => qr L i q1 q2) (fun i y _ _ y0 _ => gu i y (by omega))
          have pk := (T7.1 y y0 y1).2.2.2.2
          unfold PCk at pk
          exact qq _ _ (by omega) (by omega) (by omega)
        have g1k : gmU gm7 (M 0 40) ln (q7 + 1) (3 * (12 - n) + 1) st 1 k = ln + 1 := (gu 1 k (by omega)).trans p3
        have g2k : gmU gm7 (M 0 40) ln (q7 + 1) (3 * (12 - n) + 1) st 2 k = q7 := (gu 2 k (by omega)).trans p4
        have g3k : gmU gm7 (M 0 40) ln (q7 + 1) (3 * (12 - n) + 1) st 3 k = gm7 3 k := gu 3 k (by omega)
        refine hok V9 _ (gmU gm7 (M 0 40) ln (q7 + 1) (3 * (12 - n) + 1) st) (M 0 40) (j7 + 1) (q7 + 1) ⟨?_, by rw [hW9]; exact fn9, fmF, fun i y q => (gmU_ne (by omega)).trans (gf7 i y (by omega)), ?_, ⟨Int.le_refl _, by rw [q40]; omega, gmU_1, gmU_2, by rw [gmU_3]; omega⟩, ⟨by omega, by omega, by omega, by rw [q40]; omega, by rw [q40]; omega⟩⟩ run9
        · rw [hW9]
          have := xs7.lj
          have := xs7.x1
          refine xs.go fn9 fmF tsF nEm_l ?_ (by omega) (by omega) (by rw [q40]; omega) (by rw [q40]; omega) ((fm9 _ _ (by omega) (by omega) (by omega)).trans ((v8 _ _ (by omega)).trans xs7.w)) f42 ((nEm_ne (by omega)).trans ((nPs_ne (by omega)).trans xs7.f))
          rw [rcn_s l70, rcn_cg (g := Wv c S V7 121) _ (fun i a q => (nEm_ne (by omega)).trans (nPs_ne (by omega))), xs7.r, nEm_o, q51]
          show M7 0 51 + 0 = _
          omega
        · rw [hW9, q40]
          refine ⟨fun x x0 x1 => ?_, fun p p0 p1 => ?_⟩
          · by_cases y : x = M 0 40
            · subst y
              refine ⟨?_, ?_, gmU_4, q39, ?_⟩
              · rw [gmU_1, gmU_2]; omega
              · rw [gmU_3]; omega
              · refine Or.inr (Or.inr (Or.inr (Or.inr (Or.inr (Or.inr (Or.inr (Or.inr ?_)))))))
                rw [f35, f37, gmU_1, gmU_2, gmU_3, g1k, g2k, g3k, o9, nEm_o, nEm_a, a9]
                refine ⟨rfl, rfl, by omega, by omega, rfl, rfl, by omega, rfl, rfl, ?_⟩
                unfold RFn
                rw [rc9, a9, q48 48 (by decide) (by decide), q48 49 (by decide) (by decide), q48 50 (by decide) (by decide), e48, e49, e50]
                exact ⟨rfl, nm⟩
            · exact (T9.1 x (by omega) x1).mono (by omega) (Int.le_refl _) (by omega) (by omega)
          · by_cases y : p = ln
            · subst y
              refine ⟨by rw [o9]; omega, fun z => by rw [o9] at z; omega, fun z => by rw [o9] at z; omega, fun _ => ⟨M 0 40, Int.le_refl _, by omega, gmU_1, f35⟩, fun z => by rw [o9] at z; omega⟩
            · by_cases y2 : p = q7
              · subst y2
                refine ⟨by rw [nEm_o]; omega, fun z => by rw [nEm_o] at z; omega, fun z => by rw [nEm_o] at z; omega, fun z => by rw [nEm_o] at z; omega, fun _ => ⟨M 0 40, Int.le_refl _, by omega, f35, by rw [f37]; exact g2k⟩⟩
              · exact (T9.2 p (by omega) (by omega)).mono (by omega) (Int.le_refl _)
    · obtain ⟨x1, x2, x3, x4, x5, x6⟩ := xf
      refine hbad V7 (up M7 0 42 n) (M 0 40) ⟨fn6.tr x1 (by omega), (fm6.tr x2 (by omega) (by omega)).tr fXm.nest (Int.le_refl _) (Int.le_refl _), up_eq, by rw [up_ne (by omega)]; exact x4, by rw [up_ne (by omega)]; exact x5, by rw [up_ne (by omega)]; exact x6⟩ (fun Qr hq => ref6 Qr (run _ (sn_w x4 (by omega) _ ?_)))
      rw [x3, show n + 1 - 1 = n from by omega]
      exact ⟨by omega, by omega, fun q => absurd q (by omega), fun _ => hq⟩
  · -- a name alone
    have fn5 : fXn ln N (nEm N1 ln 11 t) := fn.tr fXn.em (Int.le_refl _)
    have ts5 : TS c (nEm N1 ln 11 t) M3 K P W E nt j1 := ts3.em hl0
    have rc5 : rcn (nEm N1 ln 11 t 121) ln.toNat = M 0 51 := rcl _ fXn.em
    have run : RunM (e + 1) n_readReference_0 [] M (M 0 40) M3 := fun Qr hq => ref3 Qr (ts3.sg0 (by decide) k91 (by omega) _ ⟨fun q => absurd rfl q, fun _ => hq⟩)
    refine hok V5 M3 (gmU gm (M 0 40) ln (ln + 1) (3 * (12 - n) + 1) st) (M 0 40) j1 (ln + 1) ⟨?_, by rw [hW5]; exact fn5, fm3, fun k y q => gmU_ne (by omega), ?_, ⟨Int.le_refl _, by omega, gmU_1, gmU_2, by rw [gmU_3]; omega⟩, ⟨by omega, by omega, by omega, by omega, by omega⟩⟩ run
    · rw [hW5]
      refine xs.go fn5 fm3 ts5 nEm_l ?_ (by omega) (by omega) (by omega) (by omega) e46 e42 ((nEm_ne (by omega)).trans hf)
      rw [rcn_s hl0, rc5, nEm_o, e51]
      rfl
    · rw [hW5, e40]
      refine TRE.emp.add (Int.le_refl _) (Int.le_refl _) ⟨?_, ?_, gmU_4, e39, ?_⟩ ⟨?_, fun z => ?_, fun z => ?_, fun z => ?_, fun z => ?_⟩
      · rw [gmU_1, gmU_2]; omega
      · rw [gmU_3]; omega
      · refine Or.inr (Or.inr (Or.inr (Or.inr (Or.inr (Or.inr (Or.inr (Or.inl ?_)))))))
        rw [gmU_1, gmU_2, e35, nEm_o]
        refine ⟨rfl, rfl, rfl, ?_⟩
        unfold RFn
        rw [rc5, nEm_a, e48, e49, e50]
        exact ⟨rfl, nm⟩
      · rw [nEm_o]; omega
      · rw [nEm_o] at z; omega
      · exact ⟨M 0 40, by omega, by omega, gmU_1, e35⟩
      · rw [nEm_o] at z; omega
      · rw [nEm_o] at z; omega
end RFT
