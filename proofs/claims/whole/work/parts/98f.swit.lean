/-! ===== book: a switch: its loop, its else ===== -/
section SWL
variable {l : Launch} {G : GT} {c : Int → Int} {S : Sh} {Q : Int → Sh → Mem → Prop} {d mc ms ee : Nat} {V N M gm N1 M1 gm1 : Mem} {ow eo cs ow1 eo1 K P W E : Int → Int} {nt b B ln1 e F s k j ln nm j0 x0 x1 x3 : Int} {Xq : (Int → Mem → Prop) → Prop}
theorem sw75_0 (h : Q 0 S V) : XJ l G bX5_readSwitch Q d 75 [vr x0, vr x1, vi 0, vi x3] [] S V mc ms := vX5_readSwitch_75 ⟨fun _ => ⟨fun _ => h, fun y => absurd rfl y⟩, fun _ => ⟨fun _ => ⟨fun _ => h, fun y => absurd rfl y⟩, fun y => absurd rfl y⟩⟩
set_option maxHeartbeats 2000000 in
theorem sw_else (hc : Cn c S) (cn : CN b B 0) (hd : 80 ≤ d) (he : 100 ≤ ee) (s0 : 0 ≤ s) (s1 : s < 360) (t17 : N1 (128 * s + 17) (-1) = 8) (hW : Wv c S V = N) (st : CSM c N1 M1 gm1 ow1 eo1 ln1 N M gm ow eo cs K P W E nt b B j ln e F s k) (k10 : K j ≠ 10) (rch : ∀ Qr : Int → Mem → Prop, PM (ee + 1) n_readSwitch_95 [nm, s] M Qr → Xq Qr)
    (hok : ∀ V' M' gm' ow' eo' j' ln', MLS c (Wv c S V') M' K P W E nt b (12 * b + e) 0 B j' ln' → fSa s ln1 N1 (Wv c S V') → fSb s (M1 0 40) (M1 0 51) M1 M' → ((∀ k y, y < M1 0 40 → gm' k y = gm1 k y) ∧ (∀ p, p < ln1 → ow' p = ow1 p) ∧ (∀ p, p < ln1 → eo' p = eo1 p)) → WLD (Wv c S V') M' gm' ow' eo' cs K P E nt b B (M' 0 40) ln' e F (12 * s + 12) → (Wv c S V' (128 * s + 17) 3 = M' 30 s ∧ 0 ≤ M' 30 s ∧ M' 30 s ≤ 12) → RTr (Wv c S V') gm' ow' B (M' 0 40) ln' (Wv c S V' (128 * s + 17) 4) (M' 34 s) 0 (-1) → (∀ i, 0 ≤ i → i < M' 30 s → CSE (Wv c S V') M' gm' ow' K P W E nt b B (M' 0 40) ln' s i) → (M1 0 40 ≤ M' 0 40 ∧ ln1 ≤ ln') → j < j' → (∀ Qr : Int → Mem → Prop, Qr 0 M' → Xq Qr) → Q 1 S V')
    (hbad : ∀ V' M', fSa s ln1 N1 (Wv c S V') → fSb s (M1 0 40) (M1 0 51) M1 M' → FTS (Wv c S V') M' → (∀ Qr : Int → Mem → Prop, Qr 0 M' → Xq Qr) → Q 0 S V') :
    CT l G bX5_accept d mc ms [vr (c 50), vi 11] S V (fun z37 S37 V37 mc37 ms37 => (z37 = 0 → Q 0 S37 V37) ∧ (¬ (z37 = 0) → S37.1 (c 50) = 6 ∧ CT l G bX5_accept d mc37 ms37 [vr (c 50), vi 58] S37 V37 (fun z40 S40 V40 mc40 ms40 => (z40 ≠ 0 → S40.1 (c 50) = 6 ∧ S40.1 (V40 (c 50) 1) = 2 ∧ S40.1 (c (128 * s + 17)) = 8 ∧ CT l G bX5_readSum d mc40 ms40 [vr (c 50), vi 0] S40 (up V40 (c (128 * s + 17)) 4 (V40 (V40 (c 50) 1) 2)) (fun z43 S43 V43 mc43 ms43 => (z43 = 0 → Q 0 S43 V43) ∧ (¬ (z43 = 0) → S43.1 (c 50) = 6 ∧ CT l G bX5_accept d mc43 ms43 [vr (c 50), vi 59] S43 V43 (fun z46 S46 V46 mc46 ms46 => (z46 = 0 → Q 0 S46 V46) ∧ (¬ (z46 = 0) → S46.1 (c 50) = 6 ∧ CT l G bX5_accept d mc46 ms46 [vr (c 50), vi 125] S46 V46 (fun z49 S49 V49 mc49 ms49 => (z49 = 0 → Q 0 S49 V49) ∧ (¬ (z49 = 0) → Q 1 S49 V49))))))) ∧ (¬ (z40 ≠ 0) → Q 0 S40 V40)))) := by
  obtain ⟨ls, ⟨fa, fb⟩, ⟨gg1, gg2, gg3⟩, wd, ⟨q1, q2, q3, q4⟩, rts, ⟨bn1, bn2, bn3⟩⟩ := st
  have ts := ls.ts
  have w0 := ls.w
  have l0 := ls.l0
  have lj := ls.lj
  have ntb := ts.ntb
  have rr := ls.r0
  obtain ⟨ya, yb, yc, yd, ye, yf, yg⟩ := ts.x hW
  obtain ⟨v', tg, lnn⟩ := Wr hW
  have g17 : S.1 (c (128 * s + 17)) = 8 := by rw [tg, fa _ _ (by omega) (by omega) (by omega) (by omega) (by omega)]; exact t17
  have bad : ∀ V' M', (∀ L i, ¬ (L = 50 ∧ 6 ≤ i ∧ i ≤ 11) → ¬ (L = 120 ∧ i = 2) → ¬ ((L = 121 ∨ L = 122) ∧ ln ≤ i) → ¬ (L = 128 * s + 17 ∧ i = 4) → Wv c S V' L i = N L i) → (∀ i h, ¬ (i = 0 ∧ ((3 ≤ h ∧ h ≤ 6) ∨ h = 40 ∨ (42 ≤ h ∧ h ≤ 47) ∨ h = 51)) → ¬ (35 ≤ i ∧ i ≤ 39 ∧ M 0 40 ≤ h) → ¬ (48 ≤ i ∧ i ≤ 50 ∧ M 0 51 ≤ h) → ¬ (i = 34 ∧ h = s) → M' i h = M i h) → FTS (Wv c S V') M' → (∀ Qr : Int → Mem → Prop, Qr 0 M' → Xq Qr) → Q 0 S V' := fun V' M' hn hm ft rn => hbad V' M' (fun L i a1 a2 a3 a4 a5 => (hn L i a1 a2 (by omega) (by omega)).trans (fa L i a1 a2 a3 a4 a5)) (fun i h a1 a2 a3 a4 a5 => (hm i h a1 (by omega) (by omega) (by omega)).trans (fb i h a1 a2 a3 a4 a5)) ft rn
  refine CT.im (by omega) (fun d1 hd1 => ?_)
  by_cases k11 : K j = 11
  · refine ct_acc1 (e := ee) hc hW ts k11 (by decide) (by omega) (by omega) (fun V1 M2 hW1 ts1 lx1 rn1 => ⟨fun y => absurd y (by decide), fun _ => ⟨yf, CT.im (by omega) (fun d2 hd2 => ?_)⟩⟩)
    have r1 : ∀ Qr : Int → Mem → Prop, PM ee n_sign_0 [58] M2 (fun z27 M27 => PM ee n_readExpr_0 [0, 0, 0] M27 (fun z29 M29 => 0 ≤ s ∧ s < 360 ∧ PM ee n_sign_0 [59] (up M29 34 s z29) (fun z31 M31 => PM ee n_sign_0 [125] M31 (fun z33 M33 => Qr 0 M33)))) → Xq Qr := fun Qr hq => rch Qr (st_readSwitch_95 ⟨fun y => absurd w0 y, fun _ => ts.wd0 6 (by decide) (by omega) (by omega) _ ⟨fun _ => ⟨fun _ => ts.wd1 7 (by decide) k11 (by omega) _ ⟨fun _ => rn1 _ hq, fun y => absurd (by decide) y⟩, fun y => absurd (by omega) y⟩, fun y => absurd rfl y⟩⟩)
    have n1 : ∀ L i, ¬ (L = 50 ∧ 6 ≤ i ∧ i ≤ 8) → nPs N (j + 1) (K (j + 1)) (W (j + 1)) L i = N L i := fun L i q => nPs_ne q
    have w1 : M2 0 46 = 0 := (lx1 _ _ (by omega)).trans w0
    have j11 := ts1.j1
    by_cases k58 : K (j + 1) = 58
    · refine ct_acc1 (e := ee - 1) hc hW1 ts1 k58 (by decide) (by omega) (by omega) (fun V3 M3 hW3 ts3 lx3 rn3 => ⟨fun _ => ?_, fun y => absurd (by decide) y⟩)
      have n3 : ∀ L i, ¬ (L = 50 ∧ 6 ≤ i ∧ i ≤ 8) → nPs (nPs N (j + 1) (K (j + 1)) (W (j + 1))) (j + 1 + 1) (K (j + 1 + 1)) (W (j + 1 + 1)) L i = N L i := fun L i q => (nPs_ne q).trans (n1 L i q)
      have m3 : ∀ i h, ¬ (i = 0 ∧ 3 ≤ h ∧ h ≤ 6) → M3 i h = M i h := fun i h q => (lx3 i h q).trans (lx1 i h q)
      generalize hN3 : nPs (nPs N (j + 1) (K (j + 1)) (W (j + 1))) (j + 1 + 1) (K (j + 1 + 1)) (W (j + 1 + 1)) = N3 at *
      obtain ⟨v3, tg3, ln3⟩ := Wr hW3
      have zx3 := ts3.x hW3
      have zl : V3 (c 120) 2 = ln := (v3 _ _ (by decide)).trans ((n3 _ _ (by omega)).trans ls.lv)
      rw [zx3.2.2.2.1, zl]
      have hW4 : Wv c S (up V3 (c (128 * s + 17)) 4 ln) = up N3 (128 * s + 17) 4 ln := by rw [Wv_up hc (by decide), hW3]
      have n4 : ∀ L i, ¬ (L = 128 * s + 17 ∧ i = 4) → up N3 (128 * s + 17) 4 ln L i = N3 L i := fun L i q => up_ne' q
      have n44 : up N3 (128 * s + 17) 4 ln (128 * s + 17) 4 = ln := up_eq
      have ts4 : TS c (up N3 (128 * s + 17) 4 ln) M3 K P W E nt (j + 1 + 1) := ts3.fr (fun _ _ => rfl) (fun L i q => n4 L i (by unfold rdR at q; omega)) (fun _ _ => rfl) (fun _ => rfl)
      generalize hN4 : up N3 (128 * s + 17) 4 ln = N4 at *
      have x340 : M3 0 40 = M 0 40 := m3 _ _ (by omega)
      have x351 : M3 0 51 = M 0 51 := m3 _ _ (by omega)
      have nN : ∀ L i, ¬ (L = 50 ∧ 6 ≤ i ∧ i ≤ 8) → ¬ (L = 128 * s + 17 ∧ i = 4) → N4 L i = N L i := fun L i a1 a2 => (n4 L i a2).trans (n3 L i a1)
      have ls4 : MLS c N4 M3 K P W E nt b (12 * b + e) 0 B (j + 1 + 1) ln := ls.fr (st' := 0) ts4 ((nN _ _ (by omega) (by omega)).trans ls.sv) ((nN _ _ (by omega) (by omega)).trans ls.lv) (fun i _ _ => nN _ _ (by omega) (by omega)) (by omega) x351 x340 ((m3 _ _ (by omega)).trans w0) ((nN _ _ (by omega) (by omega)).trans ls.f) (m3 _ _ (by omega)) (m3 _ _ (by omega))
      have r2 : ∀ Qr : Int → Mem → Prop, PM ee n_readExpr_0 [0, 0, 0] M3 (fun z29 M29 => 0 ≤ s ∧ s < 360 ∧ PM ee n_sign_0 [59] (up M29 34 s z29) (fun z31 M31 => PM ee n_sign_0 [125] M31 (fun z33 M33 => Qr 0 M33))) → Xq Qr := fun Qr hq => r1 Qr (ts1.sn1 w1 (by decide) k58 (by omega) rn3 _ hq)
      have wd4 : WLD N4 M3 gm ow eo cs K P E nt b B (M3 0 40) ln e F (12 * s + k) := by
        rw [x340]
        exact wd.fr (R := M 0 51) ⟨fun i _ _ => ⟨nN _ _ (by omega) (by omega), nN _ _ (by omega) (by omega)⟩, fun _ _ _ => rfl, fun _ _ => rfl, fun i h _ _ _ => m3 _ _ (by omega), fun i h _ _ _ => m3 _ _ (by omega)⟩ ls.r
      refine ⟨yf, yg, g17, CT.im (by omega) (fun d3 hd3 => ?_)⟩
      refine rd_expr (e := ee) (gm := gm) hc cn (by omega) (by omega) hW4 ls4 (by omega) (fun V7 M7 gm7 x j7 l7 er run => ⟨fun y => absurd y (by decide), fun _ => ⟨yf, CT.im (by omega) (fun d7 hd7 => ?_)⟩⟩) (fun V7 M7 z yf' run => ⟨fun _ => ?_, fun y => absurd rfl y⟩)
      · have er' := er
        obtain ⟨ls7, fn7, fm7, gf7, T7, ⟨p1, p2, p3, p4, p5⟩, ⟨u1, u2, u3, u4, u5, u6⟩⟩ := er
        have m8 : ∀ i h, ¬ (i = 34 ∧ h = s) → up M7 34 s x i h = M7 i h := fun i h q => up_ne' q
        have m8k : up M7 34 s x 34 s = x := up_eq
        have ts8 : TS c (Wv c S V7) (up M7 34 s x) K P W E nt j7 := ls7.ts.fr (fun _ _ => rfl) (fun _ _ _ => rfl) (fun i hi => m8 _ _ (by omega)) (fun i => m8 _ _ (by omega))
        have r3 : ∀ Qr : Int → Mem → Prop, PM ee n_sign_0 [59] (up M7 34 s x) (fun z31 M31 => PM ee n_sign_0 [125] M31 (fun z33 M33 => Qr 0 M33)) → Xq Qr := fun Qr hq => r2 Qr (run _ ⟨s0, s1, hq⟩)
        generalize hM8 : up M7 34 s x = M8 at *
        have w8 : M8 0 46 = 0 := (m8 _ _ (by omega)).trans ls7.w
        have n7 : ∀ L i, ¬ (L = 50 ∧ 6 ≤ i ∧ i ≤ 11) → ¬ (L = 120 ∧ i = 2) → ¬ ((L = 121 ∨ L = 122) ∧ ln ≤ i) → Wv c S V7 L i = N4 L i := fun L i a1 a2 a3 => fn7 L i (by omega) a2 a3
        have m83 : ∀ i h, ¬ (i = 0 ∧ ((3 ≤ h ∧ h ≤ 6) ∨ h = 40 ∨ (42 ≤ h ∧ h ≤ 47) ∨ h = 51)) → ¬ (35 ≤ i ∧ i ≤ 39 ∧ M 0 40 ≤ h) → ¬ (48 ≤ i ∧ i ≤ 50 ∧ M 0 51 ≤ h) → ¬ (i = 34 ∧ h = s) → M8 i h = M i h := fun i h a1 a2 a3 a4 => (m8 i h a4).trans ((fm7 i h a1 (by omega) (by omega)).trans (m3 i h (by omega)))
        by_cases k59 : K j7 = 59
        · refine ct_acc1 (e := ee - 1) hc rfl ts8 k59 (by decide) (by omega) (by omega) (fun V9 M9 hW9 ts9 lx9 rn9 => ⟨fun y => absurd y (by decide), fun _ => ⟨yf, CT.im (by omega) (fun d8 hd8 => ?_)⟩⟩)
          have w9 : M9 0 46 = 0 := (lx9 _ _ (by omega)).trans w8
          by_cases k125 : K (j7 + 1) = 125
          · refine ct_acc1 (e := ee - 1) hc hW9 ts9 k125 (by decide) (by omega) (by omega) (fun VA MA hWA tsA lxA rnA => ⟨fun y => absurd y (by decide), fun _ => ?_⟩)
            have n9 : ∀ L i, ¬ (L = 50 ∧ 6 ≤ i ∧ i ≤ 8) → Wv c S VA L i = Wv c S V7 L i := fun L i q => by rw [hWA, nPs_ne q, nPs_ne q]
            have m9 : ∀ i h, ¬ (i = 0 ∧ 3 ≤ h ∧ h ≤ 6) → MA i h = M8 i h := fun i h q => (lxA i h q).trans (lx9 i h q)
            have xA40 : MA 0 40 = M7 0 40 := (m9 _ _ (by omega)).trans (m8 _ _ (by omega))
            have n9N : ∀ L i, ¬ (L = 50 ∧ 6 ≤ i ∧ i ≤ 11) → ¬ (L = 120 ∧ i = 2) → ¬ ((L = 121 ∨ L = 122) ∧ ln ≤ i) → ¬ (L = 128 * s + 17 ∧ i = 4) → Wv c S VA L i = N L i := fun L i a1 a2 a3 a4 => (n9 L i (by omega)).trans ((n7 L i a1 a2 a3).trans (nN L i (by omega) a4))
            have m9M : ∀ i h, ¬ (i = 0 ∧ ((3 ≤ h ∧ h ≤ 6) ∨ h = 40 ∨ (42 ≤ h ∧ h ≤ 47) ∨ h = 51)) → ¬ (35 ≤ i ∧ i ≤ 39 ∧ M 0 40 ≤ h) → ¬ (48 ≤ i ∧ i ≤ 50 ∧ M 0 51 ≤ h) → ¬ (i = 34 ∧ h = s) → MA i h = M i h := fun i h a1 a2 a3 a4 => (m9 i h (by omega)).trans (m83 i h a1 a2 a3 a4)
            have ow7 : ∀ p, p < ln → owU ow ln l7 (-1) p = ow p := fun p q => owU_lt (by omega)
            have GA : GRW (M 0 40) ln (M 0 51) N M gm ow (Wv c S VA) MA gm7 (owU ow ln l7 (-1)) := ⟨fun i i0 i1 => ⟨n9N _ _ (by omega) (by omega) (by omega) (by omega), n9N _ _ (by omega) (by omega) (by omega) (by omega)⟩, fun i y q => gf7 i y (by omega), ow7, fun i h a1 a2 a3 => m9M _ _ (by omega) (by omega) (by omega) (by omega), fun i h a1 a2 a3 => m9M _ _ (by omega) (by omega) (by omega) (by omega)⟩
            obtain ⟨wd7, rt7⟩ := wd4.exp (sl := -1) cn ls4.r er' (by decide)
            have rt7 := rt7 0 (Int.le_refl _)
            have G79 : GRW (M7 0 40) (l7 + 1) (M7 0 51) (Wv c S V7) M7 gm7 (owU ow ln l7 (-1)) (Wv c S VA) MA gm7 (owU ow ln l7 (-1)) := ⟨fun i _ _ => ⟨n9 _ _ (by omega), n9 _ _ (by omega)⟩, fun _ _ _ => rfl, fun _ _ => rfl, fun i h a1 a2 _ => (m9 _ _ (by omega)).trans (m8 _ _ (by omega)), fun i h a1 a2 _ => (m9 _ _ (by omega)).trans (m8 _ _ (by omega))⟩
            have wd9 := (wd7.fr G79 ls7.r).cbm (cb' := 12 * s + 12) (by omega)
            rw [← xA40] at wd9
            have lsA : MLS c (Wv c S VA) MA K P W E nt b (12 * b + e) 0 B (j7 + 1 + 1) (l7 + 1) := ls7.fr (st' := 0) (by rw [hWA]; exact tsA) ((n9 _ _ (by omega)).trans ls7.sv) ((n9 _ _ (by omega)).trans ls7.lv) (fun i _ _ => n9 _ _ (by omega)) (by omega) ((m9 _ _ (by omega)).trans (m8 _ _ (by omega))) xA40 ((m9 _ _ (by omega)).trans w8) ((n9 _ _ (by omega)).trans ls7.f) ((m9 _ _ (by omega)).trans (m8 _ _ (by omega))) ((m9 _ _ (by omega)).trans (m8 _ _ (by omega)))
            have a30 : MA 30 s = k := (m9M _ _ (by omega) (by omega) (by omega) (by omega)).trans q2
            refine hok VA MA gm7 (owU ow ln l7 (-1)) (owU eo ln (l7 + 1) e) (j7 + 1 + 1) (l7 + 1) lsA (fun L i a1 a2 a3 a4 a5 => (n9N L i a1 a2 (by omega) (by omega)).trans (fa L i a1 a2 a3 a4 a5)) (fun i h a1 a2 a3 a4 a5 => (m9M i h a1 (by omega) (by omega) (by omega)).trans (fb i h a1 a2 a3 a4 a5)) ⟨fun i y q => (gf7 i y (by omega)).trans (gg1 i y q), fun p q => (ow7 p (by omega)).trans (gg2 p q), fun p q => (owU_lt (by omega)).trans (gg3 p q)⟩ wd9 ⟨?_, by omega, by omega⟩ ?_ (fun i i0 i1 => ?_) ⟨by omega, by omega⟩ (by omega) (fun Qr hq => r3 Qr (ts8.sn1 w8 (by decide) k59 (by omega) rn9 _ (ts9.sn1 w9 (by decide) k125 (by omega) rnA _ hq)))
            · rw [a30]; exact (n9N _ _ (by omega) (by omega) (by omega) (by omega)).trans q1
            · rw [(n9 _ _ (by omega)).trans ((n7 _ _ (by omega) (by omega) (by omega)).trans n44), (m9 _ _ (by omega)).trans m8k]
              exact rt7.fr G79 (by omega) (Int.le_refl _)
            · exact (rts i i0 (by omega)).fr GA ls.r (by omega) (by omega) (fun h q => n9N _ _ (by omega) (by omega) (by omega) (by omega)) (n9N _ _ (by omega) (by omega) (by omega) (by omega)) (m9M _ _ (by omega) (by omega) (by omega) (by omega)) (m9M _ _ (by omega) (by omega) (by omega) (by omega)) (fun t => m9M _ _ (by omega) (by omega) (by omega) (by omega))
          · refine ct_acc0 hc hW9 ts9 k125 (by omega) (fun VA hWA => ⟨fun _ => ?_, fun y => absurd rfl y⟩)
            refine bad VA (mFt M9 (if K (j7 + 1) = 0 then 1 else 2) (P (j7 + 1))) (fun L i a1 a2 a3 a4 => ?_) (fun i h a1 a2 a3 a4 => ?_) (by rw [hWA]; exact FTS.ft (ftp (by decide))) (fun Qr hq => r3 Qr (ts8.sn1 w8 (by decide) k59 (by omega) rn9 _ (ts9.sn0 w9 (by decide) k125 (by omega) _ hq)))
            · rw [hWA, nFt_ne (by omega), nPs_ne (by omega), n7 L i a1 a2 a3]; exact nN L i (by omega) a4
            · rw [mFt_ne (by omega), lx9 i h (by omega)]; exact m83 i h a1 a2 a3 a4
        · refine ct_acc0 hc rfl ts8 k59 (by omega) (fun V9 hW9 => ⟨fun _ => ?_, fun y => absurd rfl y⟩)
          have wp : 0 < mFt M8 (if K j7 = 0 then 1 else 2) (P j7) 0 46 := by rw [mFt_46]; exact ftp (by decide)
          refine bad V9 (mFt M8 (if K j7 = 0 then 1 else 2) (P j7)) (fun L i a1 a2 a3 a4 => ?_) (fun i h a1 a2 a3 a4 => ?_) (by rw [hW9]; exact FTS.ft (ftp (by decide))) (fun Qr hq => r3 Qr (ts8.sn0 w8 (by decide) k59 (by omega) _ (sn_w wp (by omega) _ hq)))
          · rw [hW9, nFt_ne (by omega), n7 L i a1 a2 a3]; exact nN L i (by omega) a4
          · rw [mFt_ne (by omega)]; exact m83 i h a1 a2 a3 a4
      · obtain ⟨x1, x2, x3, x4, x5⟩ := yf'
        have u46 : up M7 34 s z 0 46 = M7 0 46 := up_ne' (by omega)
        have u47 : up M7 34 s z 0 47 = M7 0 47 := up_ne' (by omega)
        have wp : 0 < up M7 34 s z 0 46 := by rw [u46]; exact x3
        refine bad V7 (up M7 34 s z) (fun L i a1 a2 a3 a4 => ?_) (fun i h a1 a2 a3 a4 => ?_) ⟨wp, by rw [u46]; exact x4, by rw [u47]; exact x5⟩ (fun Qr hq => r2 Qr (run _ ⟨s0, s1, sn_w wp (by omega) _ (sn_w wp (by omega) _ hq)⟩))
        · rw [x1 L i (by omega) a2 a3]; exact nN L i (by omega) a4
        · rw [up_ne' a4, x2 i h a1 (by omega) (by omega)]; exact m3 i h (by omega)
    · refine ct_acc0 hc hW1 ts1 k58 (by omega) (fun V6 hW6 => ⟨fun y => absurd rfl y, fun _ => ?_⟩)
      have wp : 0 < mFt M2 (if K (j + 1) = 0 then 1 else 2) (P (j + 1)) 0 46 := by rw [mFt_46]; exact ftp (by decide)
      have u46 : up (mFt M2 (if K (j + 1) = 0 then 1 else 2) (P (j + 1))) 34 s (-1) 0 46 = mFt M2 (if K (j + 1) = 0 then 1 else 2) (P (j + 1)) 0 46 := up_ne' (by omega)
      have u47 : up (mFt M2 (if K (j + 1) = 0 then 1 else 2) (P (j + 1))) 34 s (-1) 0 47 = mFt M2 (if K (j + 1) = 0 then 1 else 2) (P (j + 1)) 0 47 := up_ne' (by omega)
      have wq : 0 < up (mFt M2 (if K (j + 1) = 0 then 1 else 2) (P (j + 1))) 34 s (-1) 0 46 := by rw [u46]; exact wp
      refine bad V6 (up (mFt M2 (if K (j + 1) = 0 then 1 else 2) (P (j + 1))) 34 s (-1)) (fun L i a1 a2 a3 a4 => ?_) (fun i h a1 a2 a3 a4 => ?_) ⟨wq, by rw [u46, hW6, nFt_10, mFt_46], by rw [u47, hW6, nFt_11, mFt_47]; exact ⟨rfl, ts1.pb⟩⟩ (fun Qr hq => r1 Qr (ts1.sn0 w1 (by decide) k58 (by omega) _ (rn_xw wp (by omega) _ ⟨s0, s1, sn_w wq (by omega) _ (sn_w wq (by omega) _ hq)⟩)))
      · rw [hW6, nFt_ne (by omega)]; exact n1 L i (by omega)
      · rw [up_ne' a4, mFt_ne (by omega)]; exact lx1 i h (by omega)
  · refine ct_acc0 hc hW ts k11 (by omega) (fun V6 hW6 => ⟨fun _ => ?_, fun y => absurd rfl y⟩)
    refine bad V6 (mFt M (if K j = 0 then 1 else 2) (P j)) (fun L i a1 a2 a3 a4 => by rw [hW6, nFt_ne (by omega)]) (fun i h a1 a2 a3 a4 => mFt_ne (by omega)) (by rw [hW6]; exact FTS.ft (ftp (by decide))) (fun Qr hq => rch Qr (st_readSwitch_95 ⟨fun y => absurd w0 y, fun _ => ts.wd0 6 (by decide) (by omega) (by omega) _ ⟨fun _ => ⟨fun _ => ts.wd0 7 (by decide) (by omega) (by omega) _ ⟨fun y => absurd rfl y, fun _ => ts.ft w0 (by omega) _ hq⟩, fun y => absurd (by omega) y⟩, fun y => absurd rfl y⟩⟩))
set_option maxHeartbeats 1000000 in
theorem cs_loop (hc : Cn c S) (cn : CN b B 0) (hd : 85 ≤ d) (he : 100 ≤ ee) (s0 : 0 ≤ s) (s1 : s < 360) (se : 36 * (12 * b + e) ≤ 12 * s) (se2 : 12 * s + 12 ≤ 36 * (12 * b + e) + 36) (t17 : N1 (128 * s + 17) (-1) = 8) (r1 : N1 (128 * s + 17) 1 = c (128 * s + 18)) (r2 : N1 (128 * s + 17) 2 = c (128 * s + 19)) (t18 : N1 (128 * s + 18) (-1) = 22) (l18 : N1 (128 * s + 18) (-2) = 12) (t19 : N1 (128 * s + 19) (-1) = 20) (l19 : N1 (128 * s + 19) (-2) = 12) (tx1 : ∀ i, 0 ≤ i → i < M1 0 2 → M1 7 (3000 * b + i) = M1 1 i)
    (hok : ∀ V' M' gm' ow' eo' cs' j' ln', MLS c (Wv c S V') M' K P W E nt b (12 * b + e) 0 B j' ln' → fSa s ln1 N1 (Wv c S V') → fSb s (M1 0 40) (M1 0 51) M1 M' → ((∀ k y, y < M1 0 40 → gm' k y = gm1 k y) ∧ (∀ p, p < ln1 → ow' p = ow1 p) ∧ (∀ p, p < ln1 → eo' p = eo1 p)) → WLD (Wv c S V') M' gm' ow' eo' cs' K P E nt b B (M' 0 40) ln' e F (12 * s + 12) → (Wv c S V' (128 * s + 17) 3 = M' 30 s ∧ 0 ≤ M' 30 s ∧ M' 30 s ≤ 12) → RTr (Wv c S V') gm' ow' B (M' 0 40) ln' (Wv c S V' (128 * s + 17) 4) (M' 34 s) 0 (-1) → (∀ i, 0 ≤ i → i < M' 30 s → CSE (Wv c S V') M' gm' ow' K P W E nt b B (M' 0 40) ln' s i) → (M1 0 40 ≤ M' 0 40 ∧ ln1 ≤ ln') → j0 < j' → (∀ Qr : Int → Mem → Prop, Qr 0 M' → Xq Qr) → Q 1 S V')
    (hbad : ∀ V' M', fSa s ln1 N1 (Wv c S V') → fSb s (M1 0 40) (M1 0 51) M1 M' → FTS (Wv c S V') M' → (∀ Qr : Int → Mem → Prop, Qr 0 M' → Xq Qr) → Q 0 S V') :
    ∀ (r : Nat) (k j ln : Int) (V N M gm : Mem) (ow eo cs : Int → Int), 12 - k = r → Wv c S V = N → j0 ≤ j → CSM c N1 M1 gm1 ow1 eo1 ln1 N M gm ow eo cs K P W E nt b B j ln e F s k → (∀ Qr : Int → Mem → Prop, PM (ee + 1) n_readSwitch_95 [nm, s] M Qr → Xq Qr) → XJ l G bX5_readSwitch Q d 75 [vr (c 50), vr (c (128 * s + 17)), vi 1, vi k] [] S V mc ms := by
  have step : ∀ (k j ln : Int) (V N M gm : Mem) (ow eo cs : Int → Int), Wv c S V = N → j0 ≤ j → CSM c N1 M1 gm1 ow1 eo1 ln1 N M gm ow eo cs K P W E nt b B j ln e F s k → (∀ Qr : Int → Mem → Prop, PM (ee + 1) n_readSwitch_95 [nm, s] M Qr → Xq Qr) → (∀ (j ln : Int) (V M gm : Mem) (ow eo cs : Int → Int), j0 ≤ j → CSM c N1 M1 gm1 ow1 eo1 ln1 (Wv c S V) M gm ow eo cs K P W E nt b B j ln e F s (k + 1) → (∀ Qr : Int → Mem → Prop, PM (ee + 1) n_readSwitch_95 [nm, s] M Qr → Xq Qr) → XJ l G bX5_readSwitch Q d 75 [vr (c 50), vr (c (128 * s + 17)), vi 1, vi (k + 1)] [] S V mc ms) → XJ l G bX5_readSwitch Q d 75 [vr (c 50), vr (c (128 * s + 17)), vi 1, vi k] [] S V mc ms := by
    intro k j ln V N M gm ow eo cs hW jj st rch ih
    have ls := st.1
    have k12 : 0 ≤ k ∧ k ≤ 12 := ⟨st.2.2.2.2.1.2.2.1, st.2.2.2.2.1.2.2.2⟩
    have ts := ls.ts
    have w0 := ls.w
    obtain ⟨ya, yb, yc, yd, ye, yf, yg⟩ := ts.x hW
    refine vX5_readSwitch_75 ⟨fun y => absurd y (by omega), fun _ => ⟨fun y => absurd y (by decide), fun _ => ⟨yf, fun k10 => ⟨fun y => absurd y (by decide), fun _ => ?_⟩, fun k10 => ?_⟩⟩⟩
    · rw [ya] at k10
      exact sw_else hc cn (by omega) he s0 s1 t17 hW st k10 rch (fun V' M' gm' ow' eo' j' ln' a1 a2 a3 a4 a5 a6 a7 a8 a9 a10 a11 => hok V' M' gm' ow' eo' cs j' ln' a1 a2 a3 a4 a5 a6 a7 a8 a9 (by omega) a11) hbad
    · rw [ya] at k10
      have k10' : K j = 10 := by omega
      refine CT.im (by omega) (fun d1 hd1 => rd_case (ee := ee) hc cn (by omega) he s0 s1 se se2 t17 r1 r2 t18 l18 t19 l19 tx1 hW st k10' (fun V' M' gm' ow' eo' cs' j' ln' st' jj' rn => ⟨by omega, by omega, ih j' ln' V' M' gm' ow' eo' cs' (by omega) st' (fun Qr hq => rch Qr (st_readSwitch_95 ⟨fun y => absurd w0 y, fun _ => ts.wd1 6 (by decide) k10' (by omega) _ ⟨fun y => absurd y (by decide), fun _ => rn _ hq⟩⟩))⟩) (fun V' M' f1 f2 ft rn => ⟨by omega, by omega, sw75_0 (hbad V' M' f1 f2 ft (fun Qr hq => rch Qr (st_readSwitch_95 ⟨fun y => absurd w0 y, fun _ => ts.wd1 6 (by decide) k10' (by omega) _ ⟨fun y => absurd y (by decide), fun _ => rn _ (st_readSwitch_95 ⟨fun _ => ⟨fun y => absurd ft.1 (by omega), fun _ => hq⟩, fun y => absurd ft.1 (by omega)⟩)⟩⟩)))⟩))
  intro r
  induction r with
  | zero =>
    intro k j ln V N M gm ow eo cs hr hW jj st rch
    exact step k j ln V N M gm ow eo cs hW jj st rch (fun j ln V M gm ow eo cs _ st' _ => absurd st'.2.2.2.2.1.2.2.2 (by omega))
  | succ r ih =>
    intro k j ln V N M gm ow eo cs hr hW jj st rch
    exact step k j ln V N M gm ow eo cs hW jj st rch (fun j ln V M gm ow eo cs jj' st' rch' => ih (k + 1) j ln V _ M gm ow eo cs (by omega) rfl jj' st' rch')
end SWL
