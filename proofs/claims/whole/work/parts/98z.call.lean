/-! ===== book: the call itself ===== -/
/-- the reference behind its reading -/
def KB (D : Nat) (x : Int) (Qr : Int → Mem → Prop) (M2 : Mem) : Prop := ((M2 0 46) ≤ 0 → PM D n_asleep_0 [M2 0 9] (up M2 0 2 0) (fun z5 M5 => -2147483648 ≤ (M5 0 8) + 1 ∧ (M5 0 8) + 1 ≤ 2147483647 ∧ Qr (M5 0 9) (up M5 0 8 ((M5 0 8) + 1)))) ∧ (¬ ((M2 0 46) ≤ 0) → -2147483648 ≤ (-10) - (M2 0 47) ∧ (-10) - (M2 0 47) ≤ 2147483647 ∧ Qr ((-10) - (M2 0 47)) (up (up M2 0 2 0) 0 40 x))
/-- the class behind its reading -/
def CBQ (Q : Int → Sh → Mem → Prop) (r z4 : Int) (S4 : Sh) (V4 : Mem) : Prop := S4.1 r = 12 ∧ S4.1 (V4 r 3) = 6 ∧ (z4 ≠ 0 → S4.1 (V4 r 5) = 30 ∧ S4.1 z4 = 1 ∧ 0 ≤ (V4 r 6) ∧ (V4 r 6) < S4.2.1 (V4 r 5) ∧ -2147483648 ≤ (V4 r 6) + 1 ∧ (V4 r 6) + 1 ≤ 2147483647 ∧ -2147483648 ≤ ((V4 r 6) + 1) - 1 ∧ ((V4 r 6) + 1) - 1 ≤ 2147483647 ∧ Q (((V4 r 6) + 1) - 1) S4 (up (up (up V4 r 7 (V4 (V4 r 3) 10)) (V4 r 5) (V4 r 6) z4) r 6 ((V4 r 6) + 1))) ∧ (¬ (z4 ≠ 0) → -2147483648 ≤ (-10) - (V4 (V4 r 3) 11) ∧ (-10) - (V4 (V4 r 3) 11) ≤ 2147483647 ∧ Q ((-10) - (V4 (V4 r 3) 11)) S4 (up V4 r 7 (V4 (V4 r 3) 10)))
section CB4
variable {c c' : Int → Int} {S S' : Sh} {V V' N M N2 M3 Mr M1 N1 gm : Mem} {ow eo cs K P W E : Int → Int} {nt b j ln ne : Int} {Q : Int → Sh → Mem → Prop} {D : Nat}
theorem gb_hi {L k : Int} (h : 30 ≤ L % 128) (h1 : L ≠ 50) (h2 : L ≠ 51) (h3 : ¬ (120 ≤ L ∧ L ≤ 122)) : ¬ gbN b L k := fun y => by
  rcases y with y | y | y | y | y
  · have := y.1; omega
  all_goals omega
set_option maxHeartbeats 2000000 in
theorem cb_h1 (hR : Rel c N M) (hb : M 0 8 = b) (b0 : 0 ≤ b) (b1 : b < 10) (hD : 1 ≤ D) (ntk : nTok N N2) (m3 : ∀ k i, ¬ (k = 0 ∧ i = 9) → ¬ (k = 7 ∧ 3000 * b ≤ i) → M3 k i = M k i) (ref : ∀ Qr : Int → Mem → Prop, PM D n_readBook_0 [] M3 (fun _ M2 => KB D (M 0 40) Qr M2) → PM (D + 1) n_book_0 [] M Qr) (hk : ∀ z c' S' V' M', RunM (D + 1) n_book_0 [] M z M' → Cn c' S' → c' 60 = c 60 → (∀ L, L = 80 ∨ L % 128 = 81 → c' L = c L ∧ ∀ j, Wv c' S' V' L j = N L j) → Rel c' (Wv c' S' V') M' → M' 0 2 = 0 → Q z S' V')
    (hc' : Cn c' S') (bki : BKI c' N1 M1 gm ow eo cs K P W E nt b (M 0 40) j ln ne) (ne1 : 1 ≤ ne) (bcd : BCD c' N1 b ln) (bar : BAR c' N1 b ln) (liv : LIV N1 M1 gm eo cs K W b (M 0 40) ln ln (Wv c' S' V') Mr) (gf : GFB b (M 0 40) c (up N2 60 1 0) M3 c' N1 M1) (run : RunM D n_readBook_0 [] M3 0 Mr) : CBQ Q (c 60) (c' (128 * b + 1)) S' V' := by
  have t2 := (hR.tok ntk).top
  have x60 : c' 60 = c 60 := gf.1 60 (cb_bk (by decide))
  obtain ⟨v5, tg5, ln5⟩ := Wr (rfl : Wv c' S' V' = Wv c' S' V')
  have n5 : ∀ L k, ¬ gbN b L k → ¬ (L = 60 ∧ k = 1) → Wv c' S' V' L k = N2 L k := fun L k q q2 => by
    rw [liv.1 L k (fun y => q (Or.inl (by unfold bkL; omega))), gf.2.1 L k q]
    exact up_ne' q2
  have n60 : ∀ k, k ≠ 1 → Wv c' S' V' 60 k = N2 60 k := fun k q => n5 _ _ (gb_hi (by decide) (by decide) (by decide) (by decide)) (by omega)
  have n62 : ∀ k, Wv c' S' V' 62 k = N2 62 k := fun k => n5 _ _ (gb_hi (by decide) (by decide) (by decide) (by decide)) (by omega)
  have u3 : V' (c' 60) 3 = c' 50 := by rw [v5 _ _ (by decide), n60 _ (by decide), gf.1 50 (cb_bk (by decide))]; exact t2.r3
  have u5 : V' (c' 60) 5 = c' 62 := by rw [v5 _ _ (by decide), n60 _ (by decide), gf.1 62 (cb_bk (by decide))]; exact t2.r5
  have u6 : V' (c' 60) 6 = b := by rw [v5 _ _ (by decide), n60 _ (by decide), t2.nb]; exact hb
  have u10 : V' (c' 50) 10 = 0 := by rw [v5 _ _ (by decide), liv.1 _ _ (by omega)]; exact bki.2.2.2.1.2.1
  have u50 : Wv c' S' V' 50 (-1) = 6 := by rw [liv.1 _ _ (by omega)]; exact bki.1.rd.g50
  have ub : Wv c' S' V' (128 * b + 1) (-1) = 1 := by rw [liv.1 _ _ (by omega)]; exact bcd.1
  have e15 : (b + 1) - 1 = b := by omega
  unfold CBQ
  rw [← x60, u3, u5, u6, u10, e15]
  refine ⟨by rw [tg5, n60 _ (by decide)]; exact t2.g60, (tg5 _).trans u50, fun _ => ⟨by rw [tg5, n62]; exact t2.g62, (tg5 _).trans ub, b0, by rw [ln5, n62, t2.n62]; omega, by omega, by omega, by omega, by omega, ?_⟩, fun y => absurd (hc'.2 _).1 y⟩
  obtain ⟨Ms, ra, s1, s2, s3, s4, s5, s6⟩ := rn_asleep (e := D) (M := up Mr 0 2 0) b0 b1 hD
  have hW6 : Wv c' S' (up (up (up V' (c' 60) 7 0) (c' 62) b (c' (128 * b + 1))) (c' 60) 6 (b + 1)) = up (up (up (Wv c' S' V') 60 7 0) 62 b (c' (128 * b + 1))) 60 6 (b + 1) := by rw [Wv_up hc' (by decide), Wv_up hc' b0, Wv_up hc' (by decide)]
  have mr : ∀ k i, k ≠ 35 → k ≠ 36 → k ≠ 32 → Mr k i = M1 k i := fun k i q1 q2 q3 => liv.2.2.2.1 k i (by omega) (by omega)
  have w9 : Mr 0 9 = b := (mr _ _ (by decide) (by decide) (by decide)).trans bki.2.2.2.1.2.2
  have w46 : Mr 0 46 = 0 := (mr _ _ (by decide) (by decide) (by decide)).trans bki.2.2.2.1.1
  have g08 : ¬ gfM b (M 0 40) 0 8 := fun y => by unfold gfM at y; omega
  have w8 : Mr 0 8 = b := by
    rw [mr _ _ (by decide) (by decide) (by decide), gf.2.2 _ _ g08, m3 _ _ (by omega) (by omega)]; exact hb
  have s8 : Ms 0 8 = b := by rw [s1 _ _ (by omega) (by omega) (by omega) (by omega), up_ne' (by omega)]; exact w8
  have s9 : Ms 0 9 = b := by rw [s1 _ _ (by omega) (by omega) (by omega) (by omega), up_ne' (by omega)]; exact w9
  have w2 : up Ms 0 8 (b + 1) 0 2 = 0 := by rw [up_ne' (by omega), s1 _ _ (by omega) (by omega) (by omega) (by omega), up_eq]
  have ok := cb_ok hR hb b0 b1 ntk m3 bki ne1 bcd bar liv gf rfl s1 s2 s3 s4 s5 s6
  rw [← hW6] at ok
  have kb : ∀ Qr : Int → Mem → Prop, Qr b (up Ms 0 8 (b + 1)) → KB D (M 0 40) Qr Mr := fun Qr hq => by
    refine ⟨fun _ => ?_, fun y => absurd (by omega) y⟩
    rw [w9]
    refine ra _ ?_
    rw [s8, s9]
    exact ⟨by omega, by omega, hq⟩
  refine hk b c' S' _ (up Ms 0 8 (b + 1)) (fun Qr hq => ref Qr (run _ (kb Qr hq))) hc' x60 (fun L q => ⟨gf.1 L (cb_bk (by omega)), fun k => ?_⟩) ok w2
  rw [hW6, up_ne' (by omega), up_ne' (by omega), up_ne' (by omega), n5 L k (gb_hi (by omega) (by omega) (by omega) (by omega)) (by omega)]
  exact ntk L k (by omega) (by omega)
set_option maxHeartbeats 2000000 in
theorem cb_h2 (hR : Rel c N M) (hb : M 0 8 = b) (b0 : 0 ≤ b) (b1 : b < 10) (ntk : nTok N N2) (m3 : ∀ k i, ¬ (k = 0 ∧ i = 9) → ¬ (k = 7 ∧ 3000 * b ≤ i) → M3 k i = M k i) (ref : ∀ Qr : Int → Mem → Prop, PM D n_readBook_0 [] M3 (fun _ M2 => KB D (M 0 40) Qr M2) → PM (D + 1) n_book_0 [] M Qr) (hk : ∀ z c' S' V' M', RunM (D + 1) n_book_0 [] M z M' → Cn c' S' → c' 60 = c 60 → (∀ L, L = 80 ∨ L % 128 = 81 → c' L = c L ∧ ∀ j, Wv c' S' V' L j = N L j) → Rel c' (Wv c' S' V') M' → M' 0 2 = 0 → Q z S' V')
    (hc' : Cn c' S') (gf : GFB b (M 0 40) c (up N2 60 1 0) M3 c' (Wv c' S' V') Mr) (fts : FTS (Wv c' S' V') Mr) (run : RunM D n_readBook_0 [] M3 0 Mr) : CBQ Q (c 60) 0 S' V' := by
  have R2 := hR.tok ntk
  have t2 := R2.top
  have x60 : c' 60 = c 60 := gf.1 60 (cb_bk (by decide))
  obtain ⟨v5, tg5, ln5⟩ := Wr (rfl : Wv c' S' V' = Wv c' S' V')
  have n5 : ∀ L k, ¬ gbN b L k → ¬ (L = 60 ∧ k = 1) → Wv c' S' V' L k = N2 L k := fun L k q q2 => by
    rw [gf.2.1 L k q]
    exact up_ne' q2
  have n60 : ∀ k, k ≠ 1 → Wv c' S' V' 60 k = N2 60 k := fun k q => n5 _ _ (gb_hi (by decide) (by decide) (by decide) (by decide)) (by omega)
  have g50 : ¬ gbN b 50 (-1) := fun y => by
    rcases y with y | y | y | y | y
    · have := y.1; omega
    all_goals omega
  have u3 : V' (c' 60) 3 = c' 50 := by rw [v5 _ _ (by decide), n60 _ (by decide), gf.1 50 (cb_bk (by decide))]; exact t2.r3
  obtain ⟨f1, f2, f3, f4, f5⟩ := id fts
  have u10 : V' (c' 50) 10 = Wv c' S' V' 50 10 := v5 _ _ (by decide)
  have u11 : V' (c' 50) 11 = Mr 0 47 := (v5 _ _ (by decide)).trans f3
  have hW6 : Wv c' S' (up V' (c' 60) 7 (Wv c' S' V' 50 10)) = up (Wv c' S' V') 60 7 (Wv c' S' V' 50 10) := Wv_up hc' (by decide)
  have ok := cb_bad hR hb b0 b1 ntk m3 gf fts
  rw [← hW6] at ok
  have w2 : up (up Mr 0 2 0) 0 40 (M 0 40) 0 2 = 0 := by rw [up_ne' (by omega), up_eq]
  unfold CBQ
  rw [← x60, u3, u10, u11]
  refine ⟨by rw [tg5, n60 _ (by decide)]; exact t2.g60, by rw [tg5, n5 _ _ g50 (by omega)]; exact R2.rd.g50, fun y => absurd rfl y, fun _ => ⟨by omega, by omega, ?_⟩⟩
  refine hk _ c' S' _ (up (up Mr 0 2 0) 0 40 (M 0 40)) (fun Qr hq => ref Qr (run _ ⟨fun y => absurd f1 (by omega), fun _ => ⟨by omega, by omega, hq⟩⟩)) hc' x60 (fun L q => ⟨gf.1 L (cb_bk (by omega)), fun k => ?_⟩) ok w2
  rw [hW6, up_ne' (by omega), n5 L k (gb_hi (by omega) (by omega) (by omega) (by omega)) (by omega)]
  exact ntk L k (by omega) (by omega)
variable {l : Launch} {G : GT} {E2 : Nat}
set_option maxHeartbeats 2000000 in
theorem cb_main (he : 140 ≤ E2) (hc : Cn c S) (hR : Rel c (Wv c S V) M) (hf : M 0 8 ≠ 10) (hk : ∀ z c' S' V' M', RunM (E2 + 4 + 1) n_book_0 [] M z M' → Cn c' S' → c' 60 = c 60 → (∀ L, L = 80 ∨ L % 128 = 81 → c' L = c L ∧ ∀ j, Wv c' S' V' L j = Wv c S V L j) → Rel c' (Wv c' S' V') M' → M' 0 2 = 0 → Q z S' V') : Ct l G bX11_book Q (E2 + 5) 1000 (6210 + 4 * (M 0 2).toNat) [vr (c 60)] S V := by
  have t := hR.top
  have nb0 := t.nb0
  have nb1 := t.nb1
  have l0 := t.tl0
  have l1 := t.tl1
  obtain ⟨v', tg, lnn⟩ := Wr (rfl : Wv c S V = Wv c S V)
  have a6 : V (c 60) 6 = M 0 8 := (v' _ _ (by decide)).trans t.nb
  have g60 : S.1 (c 60) = 12 := (tg _).trans t.g60
  obtain ⟨b, hb⟩ : ∃ b, M 0 8 = b := ⟨_, rfl⟩
  have b0 : 0 ≤ b := by omega
  have b1 : b < 10 := by omega
  refine qX11_book fun c60 => vX11_book_0 ?_
  have h0 : 0 ≤ S.2.2 := by have := (hc.2 60).2; omega
  have a2 : V (c 60) 2 = c 40 := (v' _ _ (by decide)).trans t.r2
  have a0 : V (c 60) 0 = c 61 := (v' _ _ (by decide)).trans t.r0
  have a1 : V (c 60) 1 = M 0 2 := (v' _ _ (by decide)).trans t.tl
  rw [a6, a2, a0, a1]
  refine ⟨g60, fun _ => ⟨(tg _).trans hR.rd.g40, CT.im (by omega) (fun d1 hd1 => ct_cutUp hc rfl hR (by omega) (fun V2 N2 E hW2 ntk tk => ?_))⟩, fun y => absurd y (by omega)⟩
  have R2 : Rel c N2 M := hR.tok ntk
  have t2 := R2.top
  obtain ⟨v2, tg2, ln2⟩ := Wr hW2
  have z3 : V2 (c 60) 3 = c 50 := (v2 _ _ (by decide)).trans t2.r3
  rw [z3]
  refine ⟨(tg2 _).trans t2.g60, (tg2 _).trans R2.rd.g50, ?_⟩
  have hW3 : Wv c S (up V2 (c 60) 1 0) = up N2 60 1 0 := by rw [Wv_up hc (by decide), hW2]
  have n3 : ∀ L k, ¬ (L = 60 ∧ k = 1) → up N2 60 1 0 L k = N2 L k := fun L k q => up_ne' q
  obtain ⟨M3, r22, f22, x22⟩ := bk22 (e := E2 + 4) (b := b) (len := M 0 2) b0 b1 l1 (M 0 2).toNat 0 (up M 0 9 b) (by omega) (by decide) (up_ne' (by omega)) up_eq (fun i i0 i1 => by rw [up_ne' (by omega)]; exact t.tr i i0 i1)
  have m3 : ∀ k i, ¬ (k = 0 ∧ i = 9) → ¬ (k = 7 ∧ 3000 * b ≤ i) → M3 k i = M k i := fun k i q1 q2 => (f22 k i (by omega)).trans (up_ne' q1)
  have m39 : M3 0 9 = b := (f22 _ _ (by omega)).trans up_eq
  have m32 : M3 0 2 = M 0 2 := m3 _ _ (by omega) (by omega)
  have m340 : M3 0 40 = M 0 40 := m3 _ _ (by omega) (by omega)
  have m31 : M3 1 = M 1 := funext fun i => m3 _ _ (by omega) (by omega)
  have ref : ∀ Qr : Int → Mem → Prop, PM (E2 + 4) n_readBook_0 [] M3 (fun _ M2 => KB (E2 + 4) (M 0 40) Qr M2) → PM (E2 + 4 + 1) n_book_0 [] M Qr := fun Qr hq => st_book_0 ⟨fun _ => by
    rw [hb]
    refine r22 Qr (st_book_22 ?_)
    unfold B_book_22
    rw [m340]
    exact ⟨fun _ => hq, fun y => absurd (by omega) y⟩, fun y => absurd hf y⟩
  have xe := t.xe
  have xe0 := xe.1
  have xe1 := xe.2.1
  have ntl : N2 40 3 ≤ M 0 2 + 1 := by
    have a := tk.1.2.2.1
    have a' := tk.1.2.2.2.2.2
    have a'' := tk.2.2.2.2.2.2
    omega
  have nt0 := tk.2.1
  have rd3 : Rrd c (up N2 60 1 0) M3 := R2.rd.rg (fun _ _ => rfl) (fun L k q => n3 L k (by unfold rdS at q; omega))
  have tk3 : TK (M3 1) (M3 0 2) (N2 41) (N2 42) (N2 43) E (N2 40 3) := by rw [m31, m32]; exact tk
  have hw3 : ∀ i, 0 ≤ i → i < M3 0 2 → wb (M3 1 i) = M3 1 i := fun i i0 i1 => by rw [m32] at i1; rw [m31]; exact t.tr i i0 i1
  have tx3 : ∀ i, 0 ≤ i → i < M3 0 2 → M3 7 (3000 * b + i) = M3 1 i := fun i i0 i1 => by
    rw [m32] at i1
    rw [m31, x22 i i0 i1]
    exact up_ne' (by omega)
  refine CT.of (E2 + 4) 1000 (6210 + 4 * (M 0 2).toNat) (rd_book (E2 := E2) (b := b) (nt := N2 40 3) (K := N2 41) (P := N2 42) (W := N2 43) (E := E) (Q := fun z4 S4 V4 => CBQ Q (c 60) z4 S4 V4) hc h0 hW3 rd3 (fun i i0 => n3 41 i (by omega)) (fun i i0 => n3 42 i (by omega)) (fun i i0 => n3 43 i (by omega)) (n3 40 3 (by omega)) tk3 hw3 m39 b0 b1 (by omega) (by omega) tx3 (by omega) (by omega) (by omega) (Nat.le_refl _) (by omega) (fun c' S' V' N1 M1 Mr gm ow eo cs j ln ne q1 q2 q3 q4 q5 q6 q7 q8 q9 run => ?_) (fun c' S' V' Mr q1 q2 q3 fts run => ?_)) (by omega) (Nat.le_refl _) (Nat.le_refl _) (fun z4 S4 V4 hq => hq)
  · rw [m340] at q4 q8 q9
    exact cb_h1 hR hb b0 b1 (by omega) ntk m3 ref hk q1 q4 q5 q6 q7 q8 q9 run
  · rw [m340] at q3
    exact cb_h2 hR hb b0 b1 ntk m3 ref hk q1 q3 fts run
end CB4
theorem call_book : CallOK CI bX11_book n_book_0 [] [] := call_gen fun l G c S V M hc hR => by
  have t := hR.top
  have l0 := t.tl0
  have l1 := t.tl1
  by_cases hf : M 0 8 = 10
  · have a6 : V (c 60) 6 = M 0 8 := ((Wr (rfl : Wv c S V = Wv c S V)).1 _ _ (by decide)).trans t.nb
    have g60 : S.1 (c 60) = 12 := ((Wr (rfl : Wv c S V = Wv c S V)).2.1 _).trans t.g60
    refine ⟨0, 0, by decide, by omega, fun Q hk => qX11_book fun c60 => vX11_book_0 ?_⟩
    rw [a6]
    exact ⟨g60, fun y => absurd y (by omega), fun _ => hk (-2) c S V M (fun Qr hq => st_book_0 ⟨fun y => absurd hf y, fun _ => hq⟩) hc rfl (fun _ _ => ⟨rfl, fun _ => rfl⟩) hR (by omega)⟩
  · exact ⟨1000, 6210 + 4 * (M 0 2).toNat, by decide, by omega, fun Q hk => cb_main (E2 := 2042) (by decide) hc hR hf (fun z c' S' V' M' run a1 a2 a3 a4 a5 => hk z c' S' V' M' run a1 a2 a3 a4 (by omega))⟩
