/-! ===== book: the call ===== -/
section CBK
variable {c c1 : Int → Int} {N M N1 M1 gm : Mem} {ow eo cs K P W E : Int → Int} {nt b j ln ne : Int}
/-- the expressions and names of all books, the new one too -/
theorem Xe.new {M' : Mem} (xe : Xe M) (hb : M 0 8 = b) (b0 : 0 ≤ b) (b1 : b < 10) (h : BKI c1 N1 M1 gm ow eo cs K P W E nt b (M 0 40) j ln ne) (ne1 : 1 ≤ ne) (m8 : M' 0 8 = b + 1) (x40 : M' 0 40 = M1 0 40) (mo : ∀ i, i < M 0 40 → M' 39 i = M 39 i) (m39 : ∀ i, M' 39 i = M1 39 i) (mb : ∀ k i, k = 10 ∧ i < b ∨ (k = 13 ∨ k = 14) ∧ i < 12 * b ∨ k = 20 ∧ i < 288 * b → M' k i = M k i) (mn : ∀ k i, k = 10 ∨ k = 13 ∨ k = 14 ∨ k = 20 → M' k i = M1 k i) (ne12 : ∀ b', 0 ≤ b' → b' < b → M 10 b' ≤ 12) (nc24 : ∀ b' e, 0 ≤ b' → b' < b → 0 ≤ e → e < M 10 b' → M 14 (12 * b' + e) ≤ 24) : Xe M' := by
  have cov := fun (p : Int) => h.cov (P := P) (p := p) ne1
  obtain ⟨ts, ⟨lv, hr⟩, ⟨l0, lj, a0, a1⟩, ⟨w0, f0, b9⟩, tx, ⟨hB, h10⟩, pe, wd, ss, ⟨ne0, nel, b0', b1', B0, B1⟩⟩ := h
  have ntb := ts.ntb
  have j1 := ts.j1
  obtain ⟨q1, q2, q3, q4⟩ := xe
  refine ⟨by omega, by omega, fun x x0 x1 => ?_, fun b' e b0 bl e0 el => ?_⟩
  · by_cases y : x < M 0 40
    · rw [mo x y, m8]
      have := q3 x x0 y
      omega
    · rw [m39, m8]
      obtain ⟨n1, n2, n3, n4⟩ := wd.1 x (by omega) (by omega)
      have u := n3 (gm 1 x) (Int.le_refl _) n1.1.2.1
      have cv := cov (gm 1 x) n1.1.1 (by have := n1.1; omega)
      omega
  · rw [m8]
    by_cases y : b' = b
    · subst y
      rw [mn 10 _ (by decide), h10] at el
      obtain ⟨hE, n14, n13, ⟨E1, -⟩, -⟩ := pe e e0 el
      rw [mn 13 _ (by decide), mn 14 _ (by decide)]
      refine ⟨n13, fun i i0 i1 => ?_⟩
      rw [mn 20 _ (by decide)]
      exact (E1 i i0 i1).2.1.2
    · have lt : b' < b := by omega
      rw [mb 10 _ (by omega)] at el
      have e12 := ne12 b' b0 lt
      have n24 := nc24 b' e b0 lt e0 el
      have r := q4 b' e b0 (by omega) e0 el
      rw [hb] at r
      rw [mb 13 _ (by omega), mb 14 _ (by omega)]
      refine ⟨by have := r.1; omega, fun i i0 i1 => ?_⟩
      have r2 := r.2 i i0 i1
      rw [mb 20 _ (by omega)]
      omega
end CBK
section CB2
variable {c c' : Int → Int} {S' : Sh} {V' N M N2 M3 Mr Ms M1 N1 gm : Mem} {ow eo cs K P W E : Int → Int} {nt b j ln ne : Int}
set_option maxHeartbeats 4000000 in
/-- behind a text read well -/
theorem cb_ok (hR : Rel c N M) (hb : M 0 8 = b) (b0 : 0 ≤ b) (b1 : b < 10) (ntk : nTok N N2) (m3 : ∀ k i, ¬ (k = 0 ∧ i = 9) → ¬ (k = 7 ∧ 3000 * b ≤ i) → M3 k i = M k i)
    (bki : BKI c' N1 M1 gm ow eo cs K P W E nt b (M 0 40) j ln ne) (ne1 : 1 ≤ ne) (bcd : BCD c' N1 b ln) (bar : BAR c' N1 b ln) {N5 N6 : Mem} (liv : LIV N1 M1 gm eo cs K W b (M 0 40) ln ln N5 Mr) (gf : GFB b (M 0 40) c (up N2 60 1 0) M3 c' N1 M1)
    (hN6 : N6 = up (up (up N5 60 7 0) 62 b (c' (128 * b + 1))) 60 6 (b + 1)) (s1 : ∀ k j, ¬ (k = 52 ∧ 160 * b ≤ j ∧ j < 160 * b + 160) → ¬ (k = 53 ∧ 12 * b ≤ j ∧ j < 12 * b + 12) → ¬ (k = 55 ∧ 48 * b ≤ j ∧ j < 48 * b + 48) → ¬ ((k = 59 ∨ k = 62) ∧ j = b) → Ms k j = up Mr 0 2 0 k j) (s2 : ∀ j, 160 * b ≤ j → j < 160 * b + 160 → Ms 52 j = 0) (s3 : ∀ j, 12 * b ≤ j → j < 12 * b + 12 → Ms 53 j = 0) (s4 : ∀ j, 48 * b ≤ j → j < 48 * b + 48 → Ms 55 j = 0) (s5 : Ms 59 b = 0) (s6 : Ms 62 b = 0) : Rel c' N6 (up Ms 0 8 (b + 1)) := by
  have ne12 : ∀ b', 0 ≤ b' → b' < b → M 10 b' ≤ 12 := fun b' q1 q2 => (hR.bk q1 (by omega)).bk.ne1
  have nc24 : ∀ b' e, 0 ≤ b' → b' < b → 0 ≤ e → e < M 10 b' → M 14 (12 * b' + e) ≤ 24 := fun b' e q1 q2 q3 q4 => ((hR.bk q1 (by omega)).be q3 q4).1.nc1
  have n6 : ∀ L k, ¬ (L = 60 ∧ (k = 6 ∨ k = 7)) → ¬ (L = 62 ∧ k = b) → N6 L k = N5 L k := fun L k q1 q2 => by rw [hN6, up_ne' (by omega), up_ne' (by omega), up_ne' (by omega)]
  have n66 : N6 60 6 = b + 1 := by rw [hN6, up_eq]
  have n67 : N6 60 7 = 0 := by rw [hN6, up_ne' (by omega), up_ne' (by omega), up_eq]
  have n62 : N6 62 b = c' (128 * b + 1) := by rw [hN6, up_ne' (by omega), up_eq]
  clear hN6
  obtain ⟨v1, v2, v3, v4, v5, v6⟩ := liv
  have mf1 : ∀ k i, ¬ (k = 0 ∧ (i = 2 ∨ i = 8)) → k ≠ 35 → k ≠ 36 → k ≠ 32 → k ≠ 52 → k ≠ 53 → k ≠ 55 → k ≠ 59 → k ≠ 62 → up Ms 0 8 (b + 1) k i = M1 k i := fun k i q0 q1 q2 q3 q4 q5 q6 q7 q8 => by
    rw [up_ne' (by omega), s1 _ _ (by omega) (by omega) (by omega) (by omega), up_ne' (by omega)]
    exact v4 k i (by omega) (by omega)
  have w40 : up Ms 0 8 (b + 1) 0 40 = M1 0 40 := mf1 _ _ (by omega) (by decide) (by decide) (by decide) (by decide) (by decide) (by decide) (by decide) (by decide)
  have w46 : up Ms 0 8 (b + 1) 0 46 = M1 0 46 := mf1 _ _ (by omega) (by decide) (by decide) (by decide) (by decide) (by decide) (by decide) (by decide) (by decide)
  have w2 : up Ms 0 8 (b + 1) 0 2 = 0 := by rw [up_ne' (by omega), s1 _ _ (by omega) (by omega) (by omega) (by omega), up_eq]
  have w8 : up Ms 0 8 (b + 1) 0 8 = b + 1 := up_eq
  have fm : ∀ k i, ¬ cbM b (M 0 40) k i → up Ms 0 8 (b + 1) k i = M k i := fun k i q => by
    rw [up_ne' (fun y => q (Or.inl ⟨y.1, by omega⟩)), s1 _ _ (fun y => q (Or.inr (Or.inr (Or.inr (Or.inl ⟨y.1, by omega⟩))))) (fun y => q (Or.inr (Or.inr (Or.inr (Or.inr (Or.inl ⟨y.1, by omega⟩)))))) (fun y => q (Or.inr (Or.inr (Or.inr (Or.inr (Or.inr (Or.inl ⟨y.1, by omega⟩))))))) (fun y => q (Or.inr (Or.inr (Or.inr (Or.inr (Or.inr (Or.inr y))))))), up_ne' (fun y => q (Or.inl ⟨y.1, by omega⟩)), v4 k i (fun y => q (Or.inr (Or.inr (Or.inl (by unfold gfM; omega))))) (fun y => q (Or.inr (Or.inr (Or.inl (by unfold gfM; omega))))), gf.2.2 k i (fun y => q (Or.inr (Or.inr (Or.inl y))))]
    exact m3 k i (fun y => q (Or.inl ⟨y.1, by omega⟩)) (fun y => q (Or.inr (Or.inl y)))
  have fn : ∀ L k, ¬ cbN b L k → N6 L k = N L k := fun L k q => by
    have g : ¬ gbN b L k := fun y => q (by
      rcases y with y | y | y | y | y
      · exact Or.inl y
      · exact Or.inr (Or.inr (Or.inr (Or.inl y)))
      · exact Or.inr (Or.inr (Or.inr (Or.inr (Or.inl y))))
      · exact Or.inr (Or.inr (Or.inr (Or.inr (Or.inr (Or.inl y)))))
      · exact Or.inr (Or.inr (Or.inr (Or.inr (Or.inr (Or.inr (Or.inl y)))))))
    rw [n6 L k (fun y => q (Or.inr (Or.inr (Or.inr (Or.inr (Or.inr (Or.inr (Or.inr (Or.inl ⟨y.1, by omega⟩))))))))) (fun y => q (Or.inr (Or.inr (Or.inr (Or.inr (Or.inr (Or.inr (Or.inr (Or.inr y))))))))), v1 L k (fun y => q (Or.inl (by unfold bkL; omega))), gf.2.1 L k g, up_ne' (fun y => q (Or.inr (Or.inr (Or.inr (Or.inr (Or.inr (Or.inr (Or.inr (Or.inl ⟨y.1, by omega⟩)))))))))]
    exact ntk L k (fun y => q (Or.inr (Or.inl y))) (fun y => q (Or.inr (Or.inr (Or.inl y))))
  have xx : M 0 40 ≤ M1 0 40 := bki.2.2.2.2.2.2.2.1.2.2.2.2.2.2.1
  have ts := bki.1
  have x1 : M1 0 40 ≤ M 0 40 + j := bki.2.2.1.2.2.2
  have B1 : M 0 40 ≤ 27000 := bki.2.2.2.2.2.2.2.2.2.2.2.2.2.2
  have ntb := ts.ntb
  have j1 := ts.j1
  have wM1 : M1 0 46 = 0 := bki.2.2.2.1.1
  have nbk : NBK c' N6 (up Ms 0 8 (b + 1)) N1 M1 gm ow eo cs K P W E nt b (M 0 40) j ln ne := by
    refine ⟨⟨bki, ne1, bcd, bar⟩, fun L k q q2 => ?_, fun q q0 q1 => ?_, mf1, ⟨fun x x0 x1 => ?_, fun q q0 q1 o => ?_⟩, ⟨fun i i0 i1 => (up_ne' (by omega)).trans (s2 i i0 i1), fun i i0 i1 => (up_ne' (by omega)).trans (s3 i i0 i1), fun i i0 i1 => (up_ne' (by omega)).trans (s4 i i0 i1), (up_ne' (by omega)).trans s5, (up_ne' (by omega)).trans s6⟩, n62⟩
    · have l1 := q.1
      rw [n6 L k (by omega) (by omega)]
      exact v1 L k q2
    · rw [n6 _ _ (by omega) (by omega), n6 _ _ (by omega) (by omega)]
      exact v2 q q0 q1
    · have e35 : up Ms 0 8 (b + 1) 35 x = Mr 35 x := by rw [up_ne' (by omega), s1 _ _ (by omega) (by omega) (by omega) (by omega), up_ne' (by omega)]
      have e36 : up Ms 0 8 (b + 1) 36 x = Mr 36 x := by rw [up_ne' (by omega), s1 _ _ (by omega) (by omega) (by omega) (by omega), up_ne' (by omega)]
      unfold NLK
      rw [e35, e36]
      exact v5 x x0 x1
    · rw [up_ne' (by omega), s1 _ _ (by omega) (by omega) (by omega) (by omega), up_ne' (by omega)]
      exact v6 q q0 q1 o
  refine hR.nbk hb b0 b1 gf.1 fn fm (ts.rd.rg (fun _ _ => rfl) (fun L k q => ?_)) ?_ w2 (by rw [n66, w8]) (by omega) (by omega) (by rw [n67, w46, wM1]) (hR.top.xe.new hb b0 b1 bki ne1 w8 w40 (fun i q => fm _ _ (fun y => by unfold cbM gfM at y; omega)) (fun i => mf1 _ _ (by omega) (by decide) (by decide) (by decide) (by decide) (by decide) (by decide) (by decide) (by decide)) (fun k i q => fm _ _ (fun y => by unfold cbM gfM at y; omega)) (fun k i q => mf1 _ _ (by omega) (by omega) (by omega) (by omega) (by omega) (by omega) (by omega) (by omega) (by omega)) ne12 nc24) (by omega) (by omega) (fun b' q1 q2 => ?_)
  · rw [n6 L k (by unfold rdS at q; omega) (by unfold rdS at q; omega)]
    exact v1 L k (by unfold rdS at q; omega)
  · rw [n6 _ _ (by omega) (by omega), v1 _ _ (by omega), gf.2.1 _ _ (by unfold gbN bkL; omega), up_eq, w2]
  · rw [w8] at q2
    have : b' = b := by omega
    rw [this]
    exact nbk.bk (P := P)
set_option maxHeartbeats 4000000 in
/-- behind a fault -/
theorem cb_bad (hR : Rel c N M) (hb : M 0 8 = b) (b0 : 0 ≤ b) (b1 : b < 10) (ntk : nTok N N2) (m3 : ∀ k i, ¬ (k = 0 ∧ i = 9) → ¬ (k = 7 ∧ 3000 * b ≤ i) → M3 k i = M k i) {N5 : Mem} (gf : GFB b (M 0 40) c (up N2 60 1 0) M3 c' N5 Mr) (ft : FTS N5 Mr) : Rel c' (up N5 60 7 (N5 50 10)) (up (up Mr 0 2 0) 0 40 (M 0 40)) := by
  have ne12 : ∀ b', 0 ≤ b' → b' < b → M 10 b' ≤ 12 := fun b' q1 q2 => (hR.bk q1 (by omega)).bk.ne1
  have nc24 : ∀ b' e, 0 ≤ b' → b' < b → 0 ≤ e → e < M 10 b' → M 14 (12 * b' + e) ≤ 24 := fun b' e q1 q2 q3 q4 => ((hR.bk q1 (by omega)).be q3 q4).1.nc1
  have n6 : ∀ L k, ¬ (L = 60 ∧ k = 7) → up N5 60 7 (N5 50 10) L k = N5 L k := fun L k q => up_ne' q
  have n67 : up N5 60 7 (N5 50 10) 60 7 = N5 50 10 := up_eq
  have mf : ∀ k i, ¬ (k = 0 ∧ (i = 2 ∨ i = 40)) → up (up Mr 0 2 0) 0 40 (M 0 40) k i = Mr k i := fun k i q => by rw [up_ne' (by omega), up_ne' (by omega)]
  have w2 : up (up Mr 0 2 0) 0 40 (M 0 40) 0 2 = 0 := by rw [up_ne' (by omega), up_eq]
  have w40 : up (up Mr 0 2 0) 0 40 (M 0 40) 0 40 = M 0 40 := up_eq
  generalize up (up Mr 0 2 0) 0 40 (M 0 40) = Mf at *
  generalize up N5 60 7 (N5 50 10) = N6 at *
  have fm : ∀ k i, ¬ cbM b (M 0 40) k i → Mf k i = M k i := fun k i q => by
    by_cases y : k = 0 ∧ i = 40
    · rw [y.1, y.2]; exact w40
    · rw [mf k i (fun z => by
        by_cases y2 : i = 2
        · exact q (Or.inl ⟨z.1, Or.inl y2⟩)
        · omega), gf.2.2 k i (fun y => q (Or.inr (Or.inr (Or.inl y))))]
      exact m3 k i (fun y => q (Or.inl ⟨y.1, by omega⟩)) (fun y => q (Or.inr (Or.inl y)))
  have fn : ∀ L k, ¬ cbN b L k → N6 L k = N L k := fun L k q => by
    have g : ¬ gbN b L k := fun y => q (by
      rcases y with y | y | y | y | y
      · exact Or.inl y
      · exact Or.inr (Or.inr (Or.inr (Or.inl y)))
      · exact Or.inr (Or.inr (Or.inr (Or.inr (Or.inl y))))
      · exact Or.inr (Or.inr (Or.inr (Or.inr (Or.inr (Or.inl y)))))
      · exact Or.inr (Or.inr (Or.inr (Or.inr (Or.inr (Or.inr (Or.inl y)))))))
    rw [n6 L k (fun y => q (Or.inr (Or.inr (Or.inr (Or.inr (Or.inr (Or.inr (Or.inr (Or.inl ⟨y.1, by omega⟩))))))))), gf.2.1 L k g, up_ne' (fun y => q (Or.inr (Or.inr (Or.inr (Or.inr (Or.inr (Or.inr (Or.inr (Or.inl ⟨y.1, by omega⟩)))))))))]
    exact ntk L k (fun y => q (Or.inr (Or.inl y))) (fun y => q (Or.inr (Or.inr (Or.inl y))))
  have nr : ∀ L k, rdS L k → ¬ (L = 40 ∧ k = 3) → ¬ ((L = 41 ∨ L = 42 ∨ L = 43) ∧ 0 ≤ k) → N6 L k = N L k := fun L k q q1 q2 => fn L k (fun y => by
    unfold rdS at q
    rcases y with y | y
    · have := y.1; omega
    · omega)
  have rd6 : Rrd c' N6 Mf := by
    have r2 : Rrd c N2 M := (hR.tok ntk).rd
    refine r2.rg (fun L q => gf.1 L (cb_bk (by unfold rdL at q; omega))) (fun L k q => ?_)
    rw [n6 L k (by unfold rdS at q; omega), gf.2.1 L k (fun y => by
      unfold rdS at q
      rcases y with y | y
      · have := y.1; omega
      · omega), up_ne' (by unfold rdS at q; omega)]
  have m8 : Mf 0 8 = b := by
    rw [mf _ _ (by omega), gf.2.2 _ _ (by unfold gfM; omega), m3 _ _ (by omega) (by omega)]; exact hb
  have xe := hR.top.xe
  have x2 := xe.2.1
  refine hR.nbk hb b0 b1 gf.1 fn fm rd6 ?_ w2 ?_ (by omega) (by omega) ?_ ?_ (by omega) (by omega) (fun b' q1 q2 => by omega)
  · rw [n6 _ _ (by omega), gf.2.1 _ _ (by unfold gbN bkL; omega), up_eq, w2]
  · rw [n6 _ _ (by omega), gf.2.1 _ _ (by unfold gbN bkL; omega), up_ne' (by omega), ntk _ _ (by omega) (by omega), m8, hR.top.nb, hb]
  · rw [n67, ft.2.1, mf _ _ (by omega)]
  · obtain ⟨q1, q2, q3, q4⟩ := xe
    refine ⟨by omega, by omega, fun x x0 x1 => ?_, fun b' e b0' bl e0 el => ?_⟩
    · rw [w40] at x1
      rw [fm 39 x (fun y => by unfold cbM gfM at y; omega), m8, ← hb]
      exact q3 x x0 x1
    · rw [m8] at bl ⊢
      rw [fm 10 b' (fun y => by unfold cbM gfM at y; omega)] at el
      have e12 := ne12 b' b0' bl
      have n24 := nc24 b' e b0' bl e0 el
      have r := q4 b' e b0' (by omega) e0 el
      rw [hb] at r
      rw [fm 13 _ (fun y => by unfold cbM gfM at y; omega), fm 14 _ (fun y => by unfold cbM gfM at y; omega)]
      refine ⟨r.1, fun i i0 i1 => ?_⟩
      rw [fm 20 _ (fun y => by unfold cbM gfM at y; omega)]
      exact r.2 i i0 i1
end CB2
set_option maxHeartbeats 4000000 in
theorem call_book : CallOK CI bX11_book n_book_0 [] [] := call_gen fun l G c S V M hc hR => by
  have t := hR.top
  have nb0 := t.nb0
  have nb1 := t.nb1
  have l0 := t.tl0
  have l1 := t.tl1
  obtain ⟨v', tg, lnn⟩ := Wr (rfl : Wv c S V = Wv c S V)
  have a6 : V (c 60) 6 = M 0 8 := (v' _ _ (by decide)).trans t.nb
  have g60 : S.1 (c 60) = 12 := (tg _).trans t.g60
  by_cases hf : M 0 8 = 10
  · refine ⟨0, 0, by decide, by omega, fun Q hk => qX11_book fun c60 => vX11_book_0 ?_⟩
    rw [a6]
    exact ⟨g60, fun y => absurd y (by omega), fun _ => hk (-2) c S V M (fun Qr hq => st_book_0 ⟨fun y => absurd hf y, fun _ => hq⟩) hc rfl (fun _ _ => ⟨rfl, fun _ => rfl⟩) hR (by omega)⟩
  obtain ⟨b, hb⟩ : ∃ b, M 0 8 = b := ⟨_, rfl⟩
  have b0 : 0 ≤ b := by omega
  have b1 : b < 10 := by omega
  refine ⟨1000, 6210 + 4 * (M 0 2).toNat, by decide, by omega, fun Q hk => qX11_book fun c60 => vX11_book_0 ?_⟩
  have h0 : 0 ≤ S.2.2 := by have := (hc.2 60).2; omega
  have a2 : V (c 60) 2 = c 40 := (v' _ _ (by decide)).trans t.r2
  have a0 : V (c 60) 0 = c 61 := (v' _ _ (by decide)).trans t.r0
  have a1 : V (c 60) 1 = M 0 2 := (v' _ _ (by decide)).trans t.tl
  rw [a6, a2, a0, a1]
  refine ⟨g60, fun _ => ⟨(tg _).trans hR.rd.g40, CT.im (by decide) (fun d1 hd1 => ct_cutUp hc rfl hR (by omega) (fun V2 N2 E hW2 ntk tk => ?_))⟩, fun y => absurd y (by omega)⟩
  have R2 : Rel c N2 M := hR.tok ntk
  have t2 := R2.top
  obtain ⟨v2, tg2, ln2⟩ := Wr hW2
  have z3 : V2 (c 60) 3 = c 50 := (v2 _ _ (by decide)).trans t2.r3
  rw [z3]
  refine ⟨(tg2 _).trans t2.g60, (tg2 _).trans R2.rd.g50, ?_⟩
  have hW3 : Wv c S (up V2 (c 60) 1 0) = up N2 60 1 0 := by rw [Wv_up hc (by decide), hW2]
  have n3 : ∀ L k, ¬ (L = 60 ∧ k = 1) → up N2 60 1 0 L k = N2 L k := fun L k q => up_ne' q
  -- the reference's text
  obtain ⟨M3, r22, f22, x22⟩ := bk22 (e := 2046) (b := b) (len := M 0 2) b0 b1 l1 (M 0 2).toNat 0 (up M 0 9 b) (by omega) (by decide) (up_ne' (by omega)) up_eq (fun i i0 i1 => by rw [up_ne' (by omega)]; exact t.tr i i0 i1)
  have m3 : ∀ k i, ¬ (k = 0 ∧ i = 9) → ¬ (k = 7 ∧ 3000 * b ≤ i) → M3 k i = M k i := fun k i q1 q2 => (f22 k i (by omega)).trans (up_ne' q1)
  have m39 : M3 0 9 = b := (f22 _ _ (by omega)).trans up_eq
  have m32 : M3 0 2 = M 0 2 := m3 _ _ (by omega) (by omega)
  have m340 : M3 0 40 = M 0 40 := m3 _ _ (by omega) (by omega)
  have m31 : M3 1 = M 1 := funext fun i => m3 _ _ (by omega) (by omega)
  have ref : ∀ Qr : Int → Mem → Prop, PM 2046 n_readBook_0 [] M3 (fun z2 M2 => ((M2 0 46) ≤ 0 → PM 2046 n_asleep_0 [M2 0 9] (up M2 0 2 0) (fun z5 M5 => -2147483648 ≤ (M5 0 8) + 1 ∧ (M5 0 8) + 1 ≤ 2147483647 ∧ Qr (M5 0 9) (up M5 0 8 ((M5 0 8) + 1)))) ∧ (¬ ((M2 0 46) ≤ 0) → -2147483648 ≤ (-10) - (M2 0 47) ∧ (-10) - (M2 0 47) ≤ 2147483647 ∧ Qr ((-10) - (M2 0 47)) (up (up M2 0 2 0) 0 40 (M3 0 40)))) → PM 2047 n_book_0 [] M Qr := fun Qr hq => st_book_0 ⟨fun _ => by
    rw [hb]
    exact r22 Qr (st_book_22 ⟨fun _ => hq, fun y => absurd (by omega) y⟩), fun y => absurd hf y⟩
  have xe := t.xe
  have xe0 := xe.1
  have xe1 := xe.2.1
  have ntl : N2 40 3 ≤ M 0 2 + 1 := by
    have a := tk.1.2.2.1
    have a' := tk.1.2.2.2.2.2
    have a'' := tk.2.2.2.2.2.2
    omega
  have nt0 := tk.2.1
  have rd3 : Rrd c (up N2 60 1 0) M3 := R2.rd.rg (fun _ _ => rfl) (fun L k q => n3 L k (by unfold rdS at q; omega))
  refine CT.of (2047 - 1) 1000 (6210 + 4 * (M 0 2).toNat) (rd_book (E2 := 2042) (b := b) (nt := N2 40 3) (K := N2 41) (P := N2 42) (W := N2 43) (E := E) (Q := fun z4 S4 V4 => S4.1 (c 60) = 12 ∧ S4.1 (V4 (c 60) 3) = 6 ∧ (z4 ≠ 0 → S4.1 (V4 (c 60) 5) = 30 ∧ S4.1 z4 = 1 ∧ 0 ≤ (V4 (c 60) 6) ∧ (V4 (c 60) 6) < S4.2.1 (V4 (c 60) 5) ∧ -2147483648 ≤ (V4 (c 60) 6) + 1 ∧ (V4 (c 60) 6) + 1 ≤ 2147483647 ∧ -2147483648 ≤ ((V4 (c 60) 6) + 1) - 1 ∧ ((V4 (c 60) 6) + 1) - 1 ≤ 2147483647 ∧ Q (((V4 (c 60) 6) + 1) - 1) S4 (up (up (up V4 (c 60) 7 (V4 (V4 (c 60) 3) 10)) (V4 (c 60) 5) (V4 (c 60) 6) z4) (c 60) 6 ((V4 (c 60) 6) + 1))) ∧ (¬ (z4 ≠ 0) → -2147483648 ≤ (-10) - (V4 (V4 (c 60) 3) 11) ∧ (-10) - (V4 (V4 (c 60) 3) 11) ≤ 2147483647 ∧ Q ((-10) - (V4 (V4 (c 60) 3) 11)) S4 (up V4 (c 60) 7 (V4 (V4 (c 60) 3) 10)))) hc h0 hW3 rd3 (fun i i0 => n3 41 i (by omega)) (fun i i0 => n3 42 i (by omega)) (fun i i0 => n3 43 i (by omega)) (n3 40 3 (by omega)) (by rw [m31, m32]; exact tk) (fun i i0 i1 => by rw [m32] at i1; rw [m31]; exact t.tr i i0 i1) m39 b0 b1 (by omega) (by omega) (fun i i0 i1 => by rw [m32] at i1; rw [m31]; rw [x22 i i0 i1]; exact up_ne' (by omega)) (by omega) (by omega) (by omega) (by omega) (by omega) (fun c' S' V' N1 M1 Mr gm ow eo cs j ln ne b1' b2 b3 b4 b5 b6 b7 b8 b9 run => ?_) (fun c' S' V' Mr b1' b2 b3 fts run => ?_)) (by omega) (by omega) (by omega) (fun z4 S4 V4 hq => hq)
  · rw [m340] at b4 b8 b9
    have x60 : c' 60 = c 60 := b9.1 60 (cb_bk (by decide))
    obtain ⟨v5, tg5, ln5⟩ := Wr (rfl : Wv c' S' V' = Wv c' S' V')
    have n5 : ∀ L k, ¬ gbN b L k → ¬ (L = 60 ∧ k = 1) → Wv c' S' V' L k = N2 L k := fun L k q q2 => by
      rw [b8.1 L k (fun y => q (Or.inl (by unfold bkL; omega))), b9.2.1 L k q]
      exact n3 L k q2
    have gh : ∀ L k, 52 ≤ L → L ≤ 80 → ¬ gbN b L k := fun L k q1 q2 y => by
      rcases y with y | y
      · have := y.1; omega
      · omega
    have u3 : V' (c' 60) 3 = c' 50 := by rw [v5 _ _ (by decide), n5 _ _ (gh _ _ (by decide) (by decide)) (by omega), b9.1 50 (cb_bk (by decide))]; exact t2.r3
    have u5 : V' (c' 60) 5 = c' 62 := by rw [v5 _ _ (by decide), n5 _ _ (gh _ _ (by decide) (by decide)) (by omega), b9.1 62 (cb_bk (by decide))]; exact t2.r5
    have u6 : V' (c' 60) 6 = b := by rw [v5 _ _ (by decide), n5 _ _ (gh _ _ (by decide) (by decide)) (by omega), t2.nb]; exact hb
    have u10 : V' (c' 50) 10 = 0 := by rw [v5 _ _ (by decide), b8.1 _ _ (by omega)]; exact b4.2.2.2.1.2.1
    have u50 : Wv c' S' V' 50 (-1) = 6 := by rw [b8.1 _ _ (by omega)]; exact b4.1.rd.g50
    have e15 : (b + 1) - 1 = b := by omega
    rw [← x60, u3, u5, u6, u10, e15]
    refine ⟨by rw [tg5, n5 _ _ (gh _ _ (by decide) (by decide)) (by omega)]; exact t2.g60, (tg5 _).trans u50, fun _ => ⟨by rw [tg5, n5 _ _ (gh _ _ (by decide) (by decide)) (by omega)]; exact t2.g62, by rw [tg5, b8.1 _ _ (by omega)]; exact b6.1, b0, by rw [ln5, n5 _ _ (gh _ _ (by decide) (by decide)) (by omega), t2.n62]; omega, by omega, by omega, by omega, by omega, ?_⟩, fun y => absurd (b1'.2 _).1 y⟩
    obtain ⟨Ms, ra, s1, s2, s3, s4, s5, s6⟩ := rn_asleep (e := 2046) (M := up Mr 0 2 0) b0 b1 (by decide)
    have hW6 : Wv c' S' (up (up (up V' (c' 60) 7 0) (c' 62) b (c' (128 * b + 1))) (c' 60) 6 (b + 1)) = up (up (up (Wv c' S' V') 60 7 0) 62 b (c' (128 * b + 1))) 60 6 (b + 1) := by rw [Wv_up b1' (by decide), Wv_up b1' b0, Wv_up b1' (by decide)]
    have mr : ∀ k i, k ≠ 35 → k ≠ 36 → k ≠ 32 → Mr k i = M1 k i := fun k i q1 q2 q3 => b8.2.2.2.1 k i (by omega) (by omega)
    have w9 : Mr 0 9 = b := (mr _ _ (by decide) (by decide) (by decide)).trans b4.2.2.2.1.2.2
    have w46 : Mr 0 46 = 0 := (mr _ _ (by decide) (by decide) (by decide)).trans b4.2.2.2.1.1
    have w8 : Mr 0 8 = b := by
      rw [mr _ _ (by decide) (by decide) (by decide), b9.2.2 _ _ (by unfold gfM; omega), m3 _ _ (by omega) (by omega)]; exact hb
    have s8 : Ms 0 8 = b := by rw [s1 _ _ (by omega) (by omega) (by omega) (by omega), up_ne' (by omega)]; exact w8
    have s9 : Ms 0 9 = b := by rw [s1 _ _ (by omega) (by omega) (by omega) (by omega), up_ne' (by omega)]; exact w9
    refine hk b c' S' _ (up Ms 0 8 (b + 1)) (fun Qr hq => ref Qr (run _ ⟨fun _ => ?_, fun y => absurd (by omega) y⟩)) b1' x60 (fun L q => ⟨b9.1 L (cb_bk (by omega)), fun k => ?_⟩) (by rw [hW6]; exact cb_ok hR hb b0 b1 ntk m3 b4 b5 b6 b7 b8 b9 rfl s1 s2 s3 s4 s5 s6) ?_
    · rw [w9]
      refine ra _ ?_
      rw [s8, s9]
      exact ⟨by omega, by omega, hq⟩
    · have gq : ¬ gbN b L k := fun y => by
        rcases y with y | y
        · have := y.1; omega
        · omega
      rw [hW6, up_ne' (by omega), up_ne' (by omega), up_ne' (by omega), n5 L k gq (by omega)]
      exact ntk L k (by omega) (by omega)
    · rw [up_ne' (by omega), s1 _ _ (by omega) (by omega) (by omega) (by omega), up_eq]
      omega
  · rw [m340] at b3
    have x60 : c' 60 = c 60 := b3.1 60 (cb_bk (by decide))
    obtain ⟨v5, tg5, ln5⟩ := Wr (rfl : Wv c' S' V' = Wv c' S' V')
    have n5 : ∀ L k, ¬ gbN b L k → ¬ (L = 60 ∧ k = 1) → Wv c' S' V' L k = N2 L k := fun L k q q2 => by
      rw [b3.2.1 L k q]
      exact n3 L k q2
    have gh : ∀ L k, 52 ≤ L → L ≤ 80 → ¬ gbN b L k := fun L k q1 q2 y => by
      rcases y with y | y
      · have := y.1; omega
      · omega
    have g50 : ¬ gbN b 50 (-1) := fun y => by
      rcases y with y | y
      · have := y.1; omega
      · omega
    have u3 : V' (c' 60) 3 = c' 50 := by rw [v5 _ _ (by decide), n5 _ _ (gh _ _ (by decide) (by decide)) (by omega), b3.1 50 (cb_bk (by decide))]; exact t2.r3
    obtain ⟨f1, f2, f3, f4, f5⟩ := id fts
    have u10 : V' (c' 50) 10 = Wv c' S' V' 50 10 := v5 _ _ (by decide)
    have u11 : V' (c' 50) 11 = Mr 0 47 := (v5 _ _ (by decide)).trans f3
    rw [← x60, u3, u10, u11]
    refine ⟨by rw [tg5, n5 _ _ (gh _ _ (by decide) (by decide)) (by omega)]; exact t2.g60, by rw [tg5, n5 _ _ g50 (by omega)]; exact R2.rd.g50, fun y => absurd rfl y, fun _ => ⟨by omega, by omega, ?_⟩⟩
    have hW6 : Wv c' S' (up V' (c' 60) 7 (Wv c' S' V' 50 10)) = up (Wv c' S' V') 60 7 (Wv c' S' V' 50 10) := Wv_up b1' (by decide)
    refine hk _ c' S' _ (up (up Mr 0 2 0) 0 40 (M 0 40)) (fun Qr hq => ref Qr (run _ ⟨fun y => absurd f1 (by omega), fun _ => ⟨by omega, by omega, ?_⟩⟩)) b1' x60 (fun L q => ⟨b3.1 L (cb_bk (by omega)), fun k => ?_⟩) (by rw [hW6]; exact cb_bad hR hb b0 b1 ntk m3 b3 fts) ?_
    · rw [m340]; exact hq
    · have gq : ¬ gbN b L k := fun y => by
        rcases y with y | y
        · have := y.1; omega
        · omega
      rw [hW6, up_ne' (by omega), n5 L k gq (by omega)]
      exact ntk L k (by omega) (by omega)
    · rw [up_ne' (by omega), up_eq]
      omega
