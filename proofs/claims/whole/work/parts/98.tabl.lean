/-! ===== book: a table's entries ===== -/
def fEa (t ln : Int) (N N' : Mem) : Prop := ∀ L k, ¬ (L = 50 ∧ 6 ≤ k ∧ k ≤ 11) → ¬ (L = 120 ∧ k = 2) → ¬ ((L = 121 ∨ L = 122) ∧ ln ≤ k) → ¬ (L = 128 * t + 9 ∧ k = 3) → ¬ (L = 128 * t + 10 ∧ 0 ≤ k) → N' L k = N L k
def fEb (t X R : Int) (M M' : Mem) : Prop := ∀ k i, ¬ (k = 0 ∧ ((3 ≤ i ∧ i ≤ 6) ∨ i = 40 ∨ (42 ≤ i ∧ i ≤ 47) ∨ i = 51)) → ¬ (35 ≤ k ∧ k ≤ 39 ∧ X ≤ i) → ¬ (48 ≤ k ∧ k ≤ 50 ∧ R ≤ i) → ¬ (k = 24 ∧ i = t) → ¬ (k = 25 ∧ 12 * t ≤ i ∧ i < 12 * t + 12) → M' k i = M k i
/-- k entries stand -/
def TBM (c : Int → Int) (N1 M1 gm1 : Mem) (ow1 eo1 : Int → Int) (ln1 : Int) (N M gm : Mem) (ow eo cs K P W E : Int → Int) (nt b B j ln e F cb t u k : Int) : Prop := MLS c N M K P W E nt b (12 * b + e) 0 B j ln ∧ (fEa t ln1 N1 N ∧ fEb t (M1 0 40) (M1 0 51) M1 M) ∧ ((∀ k y, y < M1 0 40 → gm k y = gm1 k y) ∧ (∀ p, p < ln1 → ow p = ow1 p) ∧ (∀ p, p < ln1 → eo p = eo1 p)) ∧ WLD N M gm ow eo cs K P E nt b B (M 0 40) ln e F cb ∧ (N (128 * t + 9) 3 = k ∧ M 24 t = k ∧ 0 ≤ k ∧ k ≤ 12) ∧ (∀ i, 0 ≤ i → i < k → RTr N gm ow B (M 0 40) ln (N (128 * t + 10) i) (M 25 (12 * t + i)) 0 (1000 * e + 100 + 12 * u + i)) ∧ (M1 0 40 ≤ M 0 40 ∧ ln1 ≤ ln ∧ M1 0 51 ≤ M 0 51)
section TBL
variable {l : Launch} {G : GT} {c : Int → Int} {S : Sh} {Q : Int → Sh → Mem → Prop} {d mc ms ee : Nat} {N1 M1 gm1 : Mem} {ow1 eo1 cs K P W E : Int → Int} {nt b B ln1 e F cb t u nm j0 : Int} {Xq : (Int → Mem → Prop) → Prop}
set_option maxHeartbeats 2000000 in
theorem tb_loop (hc : Cn c S) (cn : CN b B 0) (hd : 80 ≤ d) (he : 100 ≤ ee) (t0 : 0 ≤ t) (t1 : t < 480) (e0 : 0 ≤ e) (e1 : e < 12) (u0 : 0 ≤ u) (u1 : u < 4) (s1 : N1 (128 * t + 9) (-1) = 9) (s2 : N1 (128 * t + 9) 1 = c (128 * t + 10)) (s3 : N1 (128 * t + 10) (-1) = 20) (s4 : N1 (128 * t + 10) (-2) = 12)
    (hok : ∀ V' M' gm' ow' eo' j' ln' k', TBM c N1 M1 gm1 ow1 eo1 ln1 (Wv c S V') M' gm' ow' eo' cs K P W E nt b B j' ln' e F cb t u k' → 1 ≤ k' → j0 < j' → K j' ≠ 44 → (∀ Qr : Int → Mem → Prop, PM (ee + 1) n_readTable_106 [nm, t] M' Qr → Xq Qr) → Q 1 S V')
    (hbad : ∀ V' M', fEa t ln1 N1 (Wv c S V') → fEb t (M1 0 40) (M1 0 51) M1 M' → FTS (Wv c S V') M' → (∀ Qr : Int → Mem → Prop, PM (ee + 1) n_readTable_106 [nm, t] M' Qr → Xq Qr) → Q 0 S V') :
    ∀ (r : Nat) (k j ln : Int) (V N M gm : Mem) (ow eo : Int → Int), 12 - k = r → Wv c S V = N → j0 ≤ j → ln + 1 ≤ j → TBM c N1 M1 gm1 ow1 eo1 ln1 N M gm ow eo cs K P W E nt b B j ln e F cb t u k → (∀ Qr : Int → Mem → Prop, PM ee n_readEntry_0 [t] M (fun _ M15 => PM (ee + 1) n_readTable_106 [nm, t] M15 Qr) → Xq Qr) → XJ l G bX5_readEntries Q d 2 [vr (c 50), vr (c (128 * t + 9)), vi k] [] S V mc ms := by
  obtain ⟨e', rfl⟩ : ∃ e', ee = e' + 1 := ⟨ee - 1, by omega⟩
  intro r
  induction r with
  | zero =>
    intro k j ln V N M gm ow eo hr hW jj slk st rch
    obtain ⟨ls, ⟨fa, fb⟩, gg, wd, ⟨k1, k2, k3, k4⟩, rts, bnd⟩ := st
    have ts := ls.ts
    obtain ⟨ya, yb, yc, yd, ye, yf, yg⟩ := ts.x hW
    have m12 : M 24 t = 12 := by omega
    have w0 := ls.w
    have bad : ∀ f : Int, 0 < f → (∀ Qr : Int → Mem → Prop, PM e' n_fault_0 [f] M (fun _ M8 => Qr 0 M8) → PM (e' + 1) n_readEntry_0 [t] M Qr) → CT l G bX5_pass d mc ms [vr (c 50), vi 0, vi f] S V (fun z5 S5 V5 mc5 ms5 => (z5 = 0 ∨ z5 = 1) ∧ Q z5 S5 V5) := fun f fp href => CT.im (by omega) (fun d2 hd2 => ct_pass0 hc hW ts (fun V2 hW2 => ⟨Or.inl rfl, hbad V2 (mFt M (if K j = 0 then 1 else f) (P j)) (fun L i q1 q2 q3 q4 q5 => by rw [hW2, nFt_ne (by omega)]; exact fa L i q1 q2 q3 q4 q5) (fun k i q1 q2 q3 q4 q5 => (mFt_ne (by omega)).trans (fb k i q1 q2 q3 q4 q5)) (by rw [hW2]; exact FTS.ft (ftp fp)) (fun Qr hq => rch Qr (href _ (ts.ft w0 (by omega) _ hq)))⟩))
    refine vX5_readEntries_2 ⟨fun _ => ⟨yf, CT.pu (by omega) (fun d1 hd1 => qX5_beginsPlainExpr fun _ => vX5_beginsPlainExpr_0 ?_)⟩, fun y => absurd (by omega) y⟩
    have y1 : BGS K j → S = S ∧ V = V ∧ ((1 : Int) = 0 → S.1 (c 50) = 6 ∧ CT l G bX5_pass d mc ms [vr (c 50), vi 0, vi 2] S V (fun z5 S5 V5 mc5 ms5 => (z5 = 0 ∨ z5 = 1) ∧ Q z5 S5 V5)) ∧ (¬ ((1 : Int) = 0) → S.1 (c 50) = 6 ∧ CT l G bX5_pass d mc ms [vr (c 50), vi 0, vi 5] S V (fun z7 S7 V7 mc7 ms7 => (z7 = 0 ∨ z7 = 1) ∧ Q z7 S7 V7)) := fun q => ⟨rfl, rfl, fun y => absurd y (by decide), fun _ => ⟨yf, bad 5 (by decide) (fun Qr hq => st_readEntry_0 ⟨fun _ => ⟨t0, t1, fun y => absurd m12 y, fun _ => ts.bg1 q (by omega) _ ⟨fun y => absurd y (by decide), fun _ => hq⟩⟩, fun y => absurd (by omega) y⟩)⟩⟩
    rw [ya]
    refine ⟨yf, fun q => y1 (by unfold BGS; omega), fun a1 => ⟨fun q => y1 (by unfold BGS; omega), fun a2 => ⟨fun q => y1 (by unfold BGS; omega), fun a3 => ⟨fun q => y1 (by unfold BGS; omega), fun a4 => ⟨fun q => ⟨rfl, rfl, fun _ => ⟨yf, ?_⟩, fun y => absurd rfl y⟩, fun q => y1 (by unfold BGS; omega)⟩⟩⟩⟩⟩
    have nb : ¬ BGS K j := by unfold BGS; omega
    exact bad 2 (by decide) (fun Qr hq => st_readEntry_0 ⟨fun _ => ⟨t0, t1, fun y => absurd m12 y, fun _ => ts.bg0 nb (by omega) _ ⟨fun _ => ts.bg0 nb (by omega) _ ⟨fun y => absurd rfl y, fun _ => hq⟩, fun y => absurd rfl y⟩⟩, fun y => absurd (by omega) y⟩)
  | succ r ih =>
    intro k j ln V N M gm ow eo hr hW jj slk st rch
    obtain ⟨ls, ⟨fa, fb⟩, ⟨gg1, gg2, gg3⟩, wd, ⟨k1, k2, k3, k4⟩, rts, ⟨bn1, bn2, bn3⟩⟩ := st
    have ts := ls.ts
    obtain ⟨ya, yb, yc, yd, ye, yf, yg⟩ := ts.x hW
    obtain ⟨v', tg, lnn⟩ := Wr hW
    have w0 := ls.w
    have l0 := ls.l0
    have ntb := ts.ntb
    have j1 := ts.j1
    have z1 : V (c (128 * t + 9)) 1 = c (128 * t + 10) := by rw [v' _ _ (by decide), fa _ _ (by omega) (by omega) (by omega) (by omega) (by omega)]; exact s2
    have z3 : V (c (128 * t + 9)) 3 = k := (v' _ _ (by decide)).trans k1
    have zl : V (c 120) 2 = ln := (v' _ _ (by decide)).trans ls.lv
    have hW2 : Wv c S (up (up V (c (128 * t + 10)) k ln) (c (128 * t + 9)) 3 (k + 1)) = up (up N (128 * t + 10) k ln) (128 * t + 9) 3 (k + 1) := by rw [Wv_up hc (by decide), Wv_up hc k3, hW]
    have n2 : ∀ L i, ¬ (L = 128 * t + 10 ∧ i = k) → ¬ (L = 128 * t + 9 ∧ i = 3) → up (up N (128 * t + 10) k ln) (128 * t + 9) 3 (k + 1) L i = N L i := fun L i q1 q2 => by rw [up_ne' (by omega), up_ne' (by omega)]
    have n2a : up (up N (128 * t + 10) k ln) (128 * t + 9) 3 (k + 1) (128 * t + 10) k = ln := by rw [up_ne' (by omega), up_eq]
    have n2b : up (up N (128 * t + 10) k ln) (128 * t + 9) 3 (k + 1) (128 * t + 9) 3 = k + 1 := up_eq
    have ts2 : TS c (up (up N (128 * t + 10) k ln) (128 * t + 9) 3 (k + 1)) M K P W E nt j := ts.fr (fun _ _ => rfl) (fun L i q => n2 L i (by unfold rdR at q; omega) (by unfold rdR at q; omega)) (fun _ _ => rfl) (fun _ => rfl)
    generalize hN2 : up (up N (128 * t + 10) k ln) (128 * t + 9) 3 (k + 1) = N2 at *
    refine vX5_readEntries_2 ⟨fun y => absurd y (by omega), fun _ => ?_⟩
    rw [z1, z3, yd, zl]
    refine ⟨by rw [tg, fa _ _ (by omega) (by omega) (by omega) (by omega) (by omega)]; exact s1, yf, yg, by rw [tg, fa _ _ (by omega) (by omega) (by omega) (by omega) (by omega)]; exact s3, k3, by rw [lnn, fa _ _ (by omega) (by omega) (by omega) (by omega) (by omega), s4]; omega, by omega, by omega, CT.im (by omega) (fun d2 hd2 => ?_)⟩
    by_cases bg : BGS K j
    · have m3 : ∀ i h, ¬ (i = 24 ∧ h = t) → up M 24 t (k + 1) i h = M i h := fun i h q => up_ne' (by omega)
      have ts3 : TS c N2 (up M 24 t (k + 1)) K P W E nt j := ts2.fr (fun _ _ => rfl) (fun _ _ _ => rfl) (fun i hi => m3 _ _ (by omega)) (fun i => m3 _ _ (by omega))
      have hls3 := ls.fr (st' := 0) ts3 ((n2 _ _ (by omega) (by omega)).trans ls.sv) ((n2 _ _ (by omega) (by omega)).trans ls.lv) (fun i _ _ => n2 _ _ (by omega) (by omega)) (Int.le_refl _) (m3 _ _ (by omega)) (m3 _ _ (by omega)) ((m3 _ _ (by omega)).trans w0) ((n2 _ _ (by omega) (by omega)).trans ls.f) (m3 _ _ (by omega)) (m3 _ _ (by omega))
      have x40 : up M 24 t (k + 1) 0 40 = M 0 40 := m3 _ _ (by omega)
      have x51 : up M 24 t (k + 1) 0 51 = M 0 51 := m3 _ _ (by omega)
      have x24 : up M 24 t (k + 1) 24 t = k + 1 := up_eq
      have ref : ∀ Qr : Int → Mem → Prop, PM e' n_readExpr_0 [0, 0, 0] (up M 24 t (k + 1)) (fun z6 M6 => 0 ≤ 12 * t + k ∧ 12 * t + k < 5760 ∧ PM (e' + 1 + 1) n_readTable_106 [nm, t] (up M6 25 (12 * t + k) z6) Qr) → Xq Qr := fun Qr hq => rch Qr (st_readEntry_0 ⟨fun _ => ⟨t0, t1, fun _ => ts.bg1 bg (by omega) _ ⟨fun _ => by rw [k2]; exact ⟨by omega, by omega, t0, t1, by omega, by omega, by omega, by omega, hq⟩, fun y => absurd (by decide) y⟩, fun y => absurd (by omega) y⟩, fun y => absurd (by omega) y⟩)
      generalize hM3 : up M 24 t (k + 1) = M3 at *
      refine rd_expr (e := e') (gm := gm) hc cn (by omega) (by omega) hW2 hls3 (by omega) (fun V5 M5 gm5 x j5 l5 er run => ⟨fun _ => ?_, fun y => absurd (by decide) y⟩) (fun V5 M5 z yf' run => ⟨fun y => absurd rfl y, fun _ => ?_⟩)
      · have er' := er
        obtain ⟨ls5, fn5, fm5, gf5, T5, ⟨p1, p2, p3, p4, p5⟩, ⟨u1', u2', u3', u4', u5', u6'⟩⟩ := er
        rw [x40, x51] at fm5
        rw [x40] at gf5 u4' u5'
        rw [x51] at u6'
        have m6 : ∀ i h, ¬ (i = 25 ∧ h = 12 * t + k) → up M5 25 (12 * t + k) x i h = M5 i h := fun i h q => up_ne' (by omega)
        have m6k : up M5 25 (12 * t + k) x 25 (12 * t + k) = x := up_eq
        have run6 : ∀ Qr : Int → Mem → Prop, PM (e' + 1 + 1) n_readTable_106 [nm, t] (up M5 25 (12 * t + k) x) Qr → Xq Qr := fun Qr hq => ref Qr (run _ ⟨by omega, by omega, hq⟩)
        have ts6 : TS c (Wv c S V5) (up M5 25 (12 * t + k) x) K P W E nt j5 := ls5.ts.fr (fun _ _ => rfl) (fun _ _ _ => rfl) (fun i hi => m6 _ _ (by omega)) (fun i => m6 _ _ (by omega))
        generalize hM6 : up M5 25 (12 * t + k) x = M6 at *
        have ls6 := ls5.fr (st' := 0) ts6 ls5.sv ls5.lv (fun _ _ _ => rfl) (Int.le_refl _) (m6 _ _ (by omega)) (m6 _ _ (by omega)) ((m6 _ _ (by omega)).trans ls5.w) ls5.f (m6 _ _ (by omega)) (m6 _ _ (by omega))
        have x640 : M6 0 40 = M5 0 40 := m6 _ _ (by omega)
        have wd3 := wd.fr (R := M 0 51) (gm' := gm) (N' := N2) (M' := M3) ⟨fun i _ _ => ⟨n2 _ _ (by omega) (by omega), n2 _ _ (by omega) (by omega)⟩, fun _ _ _ => rfl, fun _ _ => rfl, fun i h _ _ _ => m3 _ _ (by omega), fun i h _ _ _ => m3 _ _ (by omega)⟩ ls.r
        rw [← x40] at wd3
        obtain ⟨wd5, rt5⟩ := wd3.exp (sl := 1000 * e + 100 + 12 * u + k) cn hls3.r er' (by omega)
        have rt5 := rt5 0 (Int.le_refl _)
        have G56 : GRW (M5 0 40) (l5 + 1) (M5 0 51) (Wv c S V5) M5 gm5 (owU ow ln l5 (1000 * e + 100 + 12 * u + k)) (Wv c S V5) M6 gm5 (owU ow ln l5 (1000 * e + 100 + 12 * u + k)) := ⟨fun _ _ _ => ⟨rfl, rfl⟩, fun _ _ _ => rfl, fun _ _ => rfl, fun i h _ _ _ => m6 _ _ (by omega), fun i h _ _ _ => m6 _ _ (by omega)⟩
        have wd6 := wd5.fr G56 ls5.r
        rw [← x640] at wd6
        have G06 : GRW (M 0 40) ln (M 0 51) N M gm ow (Wv c S V5) M6 gm5 (owU ow ln l5 (1000 * e + 100 + 12 * u + k)) := ⟨fun i i0 i1 => ⟨(fn5 _ _ (by omega) (by omega) (by omega)).trans (n2 _ _ (by omega) (by omega)), (fn5 _ _ (by omega) (by omega) (by omega)).trans (n2 _ _ (by omega) (by omega))⟩, gf5, fun p q => owU_lt q, fun i h q1 q2 q3 => (m6 _ _ (by omega)).trans ((fm5 _ _ (by omega) (by omega) (by omega)).trans (m3 _ _ (by omega))), fun i h q1 q2 q3 => (m6 _ _ (by omega)).trans ((fm5 _ _ (by omega) (by omega) (by omega)).trans (m3 _ _ (by omega)))⟩
        have st6 : TBM c N1 M1 gm1 ow1 eo1 ln1 (Wv c S V5) M6 gm5 (owU ow ln l5 (1000 * e + 100 + 12 * u + k)) (owU eo ln (l5 + 1) e) cs K P W E nt b B j5 (l5 + 1) e F cb t u (k + 1) := by
          refine ⟨ls6, ⟨fun L i q1 q2 q3 q4 q5 => ?_, fun i h q1 q2 q3 q4 q5 => ?_⟩, ⟨fun i y q => (gf5 i y (by omega)).trans (gg1 i y q), fun p q => (owU_lt (by omega)).trans (gg2 p q), fun p q => (owU_lt (by omega)).trans (gg3 p q)⟩, wd6, ⟨?_, ?_, by omega, by omega⟩, fun i i0 i1 => ?_, by omega, by omega, ?_⟩
          · rw [fn5 L i (by omega) q2 (by omega), n2 _ _ (by omega) (by omega)]; exact fa L i q1 q2 q3 q4 q5
          · rw [m6 _ _ (by omega), fm5 _ _ q1 (by omega) (by omega), m3 _ _ (by omega)]; exact fb i h q1 q2 q3 q4 q5
          · rw [fn5 _ _ (by omega) (by omega) (by omega)]; exact n2b
          · rw [m6 _ _ (by omega), fm5 _ _ (by omega) (by omega) (by omega)]; exact x24
          · by_cases y : i = k
            · subst y
              rw [fn5 _ _ (by omega) (by omega) (by omega), n2a, m6k]
              rw [x640]
              exact rt5.fr G56 (Int.le_refl _) (Int.le_refl _)
            · rw [fn5 (128 * t + 10) i (by omega) (by omega) (by omega), n2 (128 * t + 10) i (by omega) (by omega), m6 25 (12 * t + i) (by omega), fm5 25 (12 * t + i) (by omega) (by omega) (by omega), m3 25 (12 * t + i) (by omega)]
              exact (rts i i0 (by omega)).fr G06 (by omega) (by omega)
          · rw [m6 _ _ (by omega)]; omega
        have y5 := ls5.ts.x (V := V5) rfl
        rw [y5.1]
        refine ⟨yf, fun k44 => CT.im (by omega) (fun d4 hd4 => ct_acc1 (e := e' + 1) hc rfl ts6 k44 (by decide) (by omega) (by omega) (fun V7 M7 hW7 ts7 lx7 rn7 => ⟨by omega, by omega, ?_⟩)), fun k44 => hok V5 M6 gm5 _ _ j5 (l5 + 1) (k + 1) st6 (by omega) (by omega) k44 run6⟩
        obtain ⟨ls6', ⟨fa6, fb6⟩, ⟨hg1, hg2, hg3⟩, wd6', ⟨h1, h2, h3, h4⟩, rts6, ⟨hb1, hb2, hb3⟩⟩ := st6
        have m7 : ∀ i h, ¬ (i = 0 ∧ 3 ≤ h ∧ h ≤ 6) → M7 i h = M6 i h := lx7
        have n7 : ∀ L i, ¬ (L = 50 ∧ 6 ≤ i ∧ i ≤ 8) → nPs (Wv c S V5) (j5 + 1) (K (j5 + 1)) (W (j5 + 1)) L i = Wv c S V5 L i := fun L i q => nPs_ne q
        have x740 : M7 0 40 = M6 0 40 := m7 _ _ (by omega)
        have G67 : GRW (M6 0 40) (l5 + 1) (M6 0 51) (Wv c S V5) M6 gm5 (owU ow ln l5 (1000 * e + 100 + 12 * u + k)) (nPs (Wv c S V5) (j5 + 1) (K (j5 + 1)) (W (j5 + 1))) M7 gm5 (owU ow ln l5 (1000 * e + 100 + 12 * u + k)) := ⟨fun i _ _ => ⟨n7 _ _ (by omega), n7 _ _ (by omega)⟩, fun _ _ _ => rfl, fun _ _ => rfl, fun i h _ _ _ => m7 _ _ (by omega), fun i h _ _ _ => m7 _ _ (by omega)⟩
        refine ih (k + 1) (j5 + 1) (l5 + 1) V7 _ M7 gm5 (owU ow ln l5 (1000 * e + 100 + 12 * u + k)) (owU eo ln (l5 + 1) e) (by omega) hW7 (by omega) (by have := ls5.lj; omega) ⟨ls6'.fr (st' := 0) ts7 ((n7 _ _ (by omega)).trans ls6'.sv) ((n7 _ _ (by omega)).trans ls6'.lv) (fun i _ _ => n7 _ _ (by omega)) (by omega) (m7 _ _ (by omega)) x740 ((m7 _ _ (by omega)).trans ls6'.w) ((n7 _ _ (by omega)).trans ls6'.f) (m7 _ _ (by omega)) (m7 _ _ (by omega)), ⟨fun L i q1 q2 q3 q4 q5 => (n7 _ _ (by omega)).trans (fa6 L i q1 q2 q3 q4 q5), fun i h q1 q2 q3 q4 q5 => (m7 _ _ (by omega)).trans (fb6 i h q1 q2 q3 q4 q5)⟩, ⟨hg1, hg2, hg3⟩, ?_, ⟨(n7 _ _ (by omega)).trans h1, (m7 _ _ (by omega)).trans h2, h3, h4⟩, fun i i0 i1 => ?_, by omega, hb2, ?_⟩ (fun Qr hq => run6 Qr (st_readTable_106 ⟨fun y => absurd ls6'.w y, fun _ => ts6.sg1 (by decide) k44 (by omega) _ ⟨fun y => absurd y (by decide), fun _ => rn7 _ hq⟩⟩))
        · rw [x740]; exact wd6'.fr G67 ls6'.r
        · rw [n7 _ _ (by omega), m7 25 _ (by omega), x740]
          exact (rts6 i i0 i1).fr G67 (Int.le_refl _) (Int.le_refl _)
        · rw [m7 _ _ (by omega)]; exact hb3
      · obtain ⟨x1, x2, x3, x4, x5⟩ := yf'
        rw [x40, x51] at x2
        have u46 : up M5 25 (12 * t + k) z 0 46 = M5 0 46 := up_ne' (by omega)
        have u47 : up M5 25 (12 * t + k) z 0 47 = M5 0 47 := up_ne' (by omega)
        refine hbad V5 (up M5 25 (12 * t + k) z) (fun L i q1 q2 q3 q4 q5 => ?_) (fun i h q1 q2 q3 q4 q5 => ?_) ⟨by rw [u46]; exact x3, by rw [u46]; exact x4, by rw [u47]; exact x5⟩ (fun Qr hq => ref Qr (run _ ⟨by omega, by omega, hq⟩))
        · rw [x1 L i (by omega) q2 (by omega), n2 _ _ (by omega) (by omega)]; exact fa L i q1 q2 q3 q4 q5
        · rw [up_ne' (by omega), x2 _ _ q1 (by omega) (by omega), m3 _ _ (by omega)]; exact fb i h q1 q2 q3 q4 q5
    · refine ct_nob (ln := ln) hc hW2 ts2 ((n2 _ _ (by omega) (by omega)).trans ls.sv) ((n2 _ _ (by omega) (by omega)).trans ls.lv) l0 (by omega) bg (by omega) (fun V5 f5 h10 h11 => ⟨fun y => absurd rfl y, fun _ => ?_⟩)
      refine hbad V5 (mFt M (if K j = 0 then 1 else 2) (P j)) (fun L i q1 q2 q3 q4 q5 => ?_) (fun i h q1 q2 q3 q4 q5 => (mFt_ne (by omega)).trans (fb i h q1 q2 q3 q4 q5)) ⟨by rw [mFt_46]; exact ftp (by decide), by rw [h10, mFt_46], by rw [h11, mFt_47]; exact ⟨rfl, ts.pb⟩⟩ (fun Qr hq => rch Qr (st_readEntry_0 ⟨fun _ => ⟨t0, t1, fun _ => ts.bg0 bg (by omega) _ ⟨fun y => absurd rfl y, fun _ => ts.ft w0 (by omega) _ hq⟩, fun y => absurd (by omega) y⟩, fun y => absurd (by omega) y⟩))
      rw [f5 L i (by omega) q2 (by omega), n2 _ _ (by omega) (by omega)]
      exact fa L i q1 q2 q3 q4 q5
end TBL
