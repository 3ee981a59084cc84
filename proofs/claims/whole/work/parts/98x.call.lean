/-! ===== book: the call ===== -/
section CBK
variable {c c1 : Int → Int} {N M N1 M1 gm : Mem} {ow eo cs K P W E : Int → Int} {nt b j ln ne : Int}
/-- the expressions and names of all books, the new one too -/
theorem Xe.new {M' : Mem} (xe : Xe M) (hb : M 0 8 = b) (b0 : 0 ≤ b) (b1 : b < 10) (h : BKI c1 N1 M1 gm ow eo cs K P W E nt b (M 0 40) j ln ne) (ne1 : 1 ≤ ne) (m8 : M' 0 8 = b + 1) (x40 : M' 0 40 = M1 0 40) (mo : ∀ i, i < M 0 40 → M' 39 i = M 39 i) (m39 : ∀ i, M' 39 i = M1 39 i) (mb : ∀ k i, k = 10 ∧ i < b ∨ (k = 13 ∨ k = 14) ∧ i < 12 * b ∨ k = 20 ∧ i < 288 * b → M' k i = M k i) (mn : ∀ k i, k = 10 ∨ k = 13 ∨ k = 14 ∨ k = 20 → M' k i = M1 k i) (ne12 : ∀ b', 0 ≤ b' → b' < b → M 10 b' ≤ 12) (nc24 : ∀ b' e, 0 ≤ b' → b' < b → 0 ≤ e → e < M 10 b' → M 14 (12 * b' + e) ≤ 24) : Xe M' := by
  have cov := fun (p : Int) => h.cov (P := P) (p := p) ne1
  obtain ⟨ts, ⟨lv, hr⟩, ⟨l0, lj, a0, a1⟩, ⟨w0, f0, b9⟩, tx, ⟨hB, h10⟩, pe, wd, ss, ⟨ne0, nel, b0', b1', B0, B1⟩⟩ := h
  have ntb := ts.ntb
  have j1 := ts.j1
  obtain ⟨q1, q2, q3, q4⟩ := xe
  refine ⟨by omega, by omega, fun x x0 x1 => ?_, fun b' e b0 bl e0 el => ?_⟩
  · by_cases y : x < M 0 40
    · rw [mo x y, m8]
      have := q3 x x0 y
      omega
    · rw [m39, m8]
      obtain ⟨n1, n2, n3, n4⟩ := wd.1 x (by omega) (by omega)
      have u := n3 (gm 1 x) (Int.le_refl _) n1.1.2.1
      have cv := cov (gm 1 x) n1.1.1 (by have := n1.1; omega)
      omega
  · rw [m8]
    by_cases y : b' = b
    · subst y
      rw [mn 10 _ (by decide), h10] at el
      obtain ⟨hE, n14, n13, ⟨E1, -⟩, -⟩ := pe e e0 el
      rw [mn 13 _ (by decide), mn 14 _ (by decide)]
      refine ⟨n13, fun i i0 i1 => ?_⟩
      rw [mn 20 _ (by decide)]
      exact (E1 i i0 i1).2.1.2
    · have lt : b' < b := by omega
      rw [mb 10 _ (by omega)] at el
      have e12 := ne12 b' b0 lt
      have n24 := nc24 b' e b0 lt e0 el
      have r := q4 b' e b0 (by omega) e0 el
      rw [hb] at r
      rw [mb 13 _ (by omega), mb 14 _ (by omega)]
      refine ⟨by have := r.1; omega, fun i i0 i1 => ?_⟩
      have r2 := r.2 i i0 i1
      rw [mb 20 _ (by omega)]
      omega
end CBK
section CB2
variable {c c' : Int → Int} {S' : Sh} {V' N M N2 M3 Mr Ms M1 N1 gm : Mem} {ow eo cs K P W E : Int → Int} {nt b j ln ne : Int}
set_option maxHeartbeats 4000000 in
/-- behind a text read well -/
theorem cb_ok (hR : Rel c N M) (hb : M 0 8 = b) (b0 : 0 ≤ b) (b1 : b < 10) (ntk : nTok N N2) (m3 : ∀ k i, ¬ (k = 0 ∧ i = 9) → ¬ (k = 7 ∧ 3000 * b ≤ i) → M3 k i = M k i)
    (bki : BKI c' N1 M1 gm ow eo cs K P W E nt b (M 0 40) j ln ne) (ne1 : 1 ≤ ne) (bcd : BCD c' N1 b ln) (bar : BAR c' N1 b ln) {N5 N6 : Mem} (liv : LIV N1 M1 gm eo cs K W b (M 0 40) ln ln N5 Mr) (gf : GFB b (M 0 40) c (up N2 60 1 0) M3 c' N1 M1)
    (hN6 : N6 = up (up (up N5 60 7 0) 62 b (c' (128 * b + 1))) 60 6 (b + 1)) (s1 : ∀ k j, ¬ (k = 52 ∧ 160 * b ≤ j ∧ j < 160 * b + 160) → ¬ (k = 53 ∧ 12 * b ≤ j ∧ j < 12 * b + 12) → ¬ (k = 55 ∧ 48 * b ≤ j ∧ j < 48 * b + 48) → ¬ ((k = 59 ∨ k = 62) ∧ j = b) → Ms k j = up Mr 0 2 0 k j) (s2 : ∀ j, 160 * b ≤ j → j < 160 * b + 160 → Ms 52 j = 0) (s3 : ∀ j, 12 * b ≤ j → j < 12 * b + 12 → Ms 53 j = 0) (s4 : ∀ j, 48 * b ≤ j → j < 48 * b + 48 → Ms 55 j = 0) (s5 : Ms 59 b = 0) (s6 : Ms 62 b = 0) : Rel c' N6 (up Ms 0 8 (b + 1)) := by
  have ne12 : ∀ b', 0 ≤ b' → b' < b → M 10 b' ≤ 12 := fun b' q1 q2 => (hR.bk q1 (by omega)).bk.ne1
  have nc24 : ∀ b' e, 0 ≤ b' → b' < b → 0 ≤ e → e < M 10 b' → M 14 (12 * b' + e) ≤ 24 := fun b' e q1 q2 q3 q4 => ((hR.bk q1 (by omega)).be q3 q4).1.nc1
  have n6 : ∀ L k, ¬ (L = 60 ∧ (k = 6 ∨ k = 7)) → ¬ (L = 62 ∧ k = b) → N6 L k = N5 L k := fun L k q1 q2 => by rw [hN6, up_ne' (by omega), up_ne' (by omega), up_ne' (by omega)]
  have n66 : N6 60 6 = b + 1 := by rw [hN6, up_eq]
  have n67 : N6 60 7 = 0 := by rw [hN6, up_ne' (by omega), up_ne' (by omega), up_eq]
  have n62 : N6 62 b = c' (128 * b + 1) := by rw [hN6, up_ne' (by omega), up_eq]
  clear hN6
  obtain ⟨v1, v2, v3, v4, v5, v6⟩ := liv
  have mf1 : ∀ k i, ¬ (k = 0 ∧ (i = 2 ∨ i = 8)) → k ≠ 35 → k ≠ 36 → k ≠ 32 → k ≠ 52 → k ≠ 53 → k ≠ 55 → k ≠ 59 → k ≠ 62 → up Ms 0 8 (b + 1) k i = M1 k i := fun k i q0 q1 q2 q3 q4 q5 q6 q7 q8 => by
    rw [up_ne' (by omega), s1 _ _ (by omega) (by omega) (by omega) (by omega), up_ne' (by omega)]
    exact v4 k i (by omega) (by omega)
  have w40 : up Ms 0 8 (b + 1) 0 40 = M1 0 40 := mf1 _ _ (by omega) (by decide) (by decide) (by decide) (by decide) (by decide) (by decide) (by decide) (by decide)
  have w46 : up Ms 0 8 (b + 1) 0 46 = M1 0 46 := mf1 _ _ (by omega) (by decide) (by decide) (by decide) (by decide) (by decide) (by decide) (by decide) (by decide)
  have w2 : up Ms 0 8 (b + 1) 0 2 = 0 := by rw [up_ne' (by omega), s1 _ _ (by omega) (by omega) (by omega) (by omega), up_eq]
  have w8 : up Ms 0 8 (b + 1) 0 8 = b + 1 := up_eq
  have fm : ∀ k i, ¬ cbM b (M 0 40) k i → up Ms 0 8 (b + 1) k i = M k i := fun k i q => by
    rw [up_ne' (fun y => q (Or.inl ⟨y.1, by omega⟩)), s1 _ _ (fun y => q (Or.inr (Or.inr (Or.inr (Or.inl ⟨y.1, by omega⟩))))) (fun y => q (Or.inr (Or.inr (Or.inr (Or.inr (Or.inl ⟨y.1, by omega⟩)))))) (fun y => q (Or.inr (Or.inr (Or.inr (Or.inr (Or.inr (Or.inl ⟨y.1, by omega⟩))))))) (fun y => q (Or.inr (Or.inr (Or.inr (Or.inr (Or.inr (Or.inr y))))))), up_ne' (fun y => q (Or.inl ⟨y.1, by omega⟩)), v4 k i (fun y => q (Or.inr (Or.inr (Or.inl (Or.inr (Or.inr (Or.inr (Or.inr (Or.inr (Or.inr (Or.inr (Or.inr (Or.inr (Or.inr (Or.inl ⟨by omega, by omega, by omega⟩))))))))))))))) (fun y => q (Or.inr (Or.inr (Or.inl (Or.inr (Or.inr (Or.inr (Or.inr (Or.inr (Or.inr (Or.inr (Or.inr (Or.inr (Or.inl ⟨by omega, by omega, by omega⟩)))))))))))))), gf.2.2 k i (fun y => q (Or.inr (Or.inr (Or.inl y))))]
    exact m3 k i (fun y => q (Or.inl ⟨y.1, by omega⟩)) (fun y => q (Or.inr (Or.inl y)))
  have fn : ∀ L k, ¬ cbN b L k → N6 L k = N L k := fun L k q => by
    have g : ¬ gbN b L k := fun y => q (by
      rcases y with y | y | y | y | y
      · exact Or.inl y
      · exact Or.inr (Or.inr (Or.inr (Or.inl y)))
      · exact Or.inr (Or.inr (Or.inr (Or.inr (Or.inl y))))
      · exact Or.inr (Or.inr (Or.inr (Or.inr (Or.inr (Or.inl y)))))
      · exact Or.inr (Or.inr (Or.inr (Or.inr (Or.inr (Or.inr (Or.inl y)))))))
    rw [n6 L k (fun y => q (Or.inr (Or.inr (Or.inr (Or.inr (Or.inr (Or.inr (Or.inr (Or.inl ⟨y.1, by omega⟩))))))))) (fun y => q (Or.inr (Or.inr (Or.inr (Or.inr (Or.inr (Or.inr (Or.inr (Or.inr y))))))))), v1 L k (fun y => q (Or.inl (by unfold bkL; omega))), gf.2.1 L k g, up_ne' (fun y => q (Or.inr (Or.inr (Or.inr (Or.inr (Or.inr (Or.inr (Or.inr (Or.inl ⟨y.1, by omega⟩)))))))))]
    exact ntk L k (fun y => q (Or.inr (Or.inl y))) (fun y => q (Or.inr (Or.inr (Or.inl y))))
  have xx : M 0 40 ≤ M1 0 40 := bki.2.2.2.2.2.2.2.1.2.2.2.2.2.2.1
  have ts := bki.1
  have x1 : M1 0 40 ≤ M 0 40 + j := bki.2.2.1.2.2.2
  have B1 : M 0 40 ≤ 27000 := bki.2.2.2.2.2.2.2.2.2.2.2.2.2.2
  have ntb := ts.ntb
  have j1 := ts.j1
  have wM1 : M1 0 46 = 0 := bki.2.2.2.1.1
  have nbk : NBK c' N6 (up Ms 0 8 (b + 1)) N1 M1 gm ow eo cs K P W E nt b (M 0 40) j ln ne := by
    refine ⟨⟨bki, ne1, bcd, bar⟩, fun L k q q2 => ?_, fun q q0 q1 => ?_, mf1, ⟨fun x x0 x1 => ?_, fun q q0 q1 o => ?_⟩, ⟨fun i i0 i1 => (up_ne' (by omega)).trans (s2 i i0 i1), fun i i0 i1 => (up_ne' (by omega)).trans (s3 i i0 i1), fun i i0 i1 => (up_ne' (by omega)).trans (s4 i i0 i1), (up_ne' (by omega)).trans s5, (up_ne' (by omega)).trans s6⟩, n62⟩
    · have l1 := q.1
      rw [n6 L k (by omega) (by omega)]
      exact v1 L k q2
    · rw [n6 _ _ (by omega) (by omega), n6 _ _ (by omega) (by omega)]
      exact v2 q q0 q1
    · have e35 : up Ms 0 8 (b + 1) 35 x = Mr 35 x := by rw [up_ne' (by omega), s1 _ _ (by omega) (by omega) (by omega) (by omega), up_ne' (by omega)]
      have e36 : up Ms 0 8 (b + 1) 36 x = Mr 36 x := by rw [up_ne' (by omega), s1 _ _ (by omega) (by omega) (by omega) (by omega), up_ne' (by omega)]
      unfold NLK
      rw [e35, e36]
      exact v5 x x0 x1
    · rw [up_ne' (by omega), s1 _ _ (by omega) (by omega) (by omega) (by omega), up_ne' (by omega)]
      exact v6 q q0 q1 o
  refine hR.nbk hb b0 b1 gf.1 fn fm (ts.rd.rg (fun _ _ => rfl) (fun L k q => ?_)) ?_ w2 (by rw [n66, w8]) (by omega) (by omega) (by rw [n67, w46, wM1]) (hR.top.xe.new hb b0 b1 bki ne1 w8 w40 (fun i q => fm _ _ (fun y => by unfold cbM gfM at y; omega)) (fun i => mf1 _ _ (by omega) (by decide) (by decide) (by decide) (by decide) (by decide) (by decide) (by decide) (by decide)) (fun k i q => fm _ _ (fun y => by unfold cbM gfM at y; omega)) (fun k i q => mf1 _ _ (by omega) (by omega) (by omega) (by omega) (by omega) (by omega) (by omega) (by omega) (by omega)) ne12 nc24) (by omega) (by omega) (fun b' q1 q2 => ?_)
  · rw [n6 L k (by unfold rdS at q; omega) (by unfold rdS at q; omega)]
    exact v1 L k (by unfold rdS at q; omega)
  · rw [n6 _ _ (by omega) (by omega), v1 _ _ (by omega), gf.2.1 _ _ (by unfold gbN bkL; omega), up_eq, w2]
  · rw [w8] at q2
    have : b' = b := by omega
    rw [this]
    exact nbk.bk (P := P)
end CB2
