/-! ===== book: behind a fault ===== -/
section CB3
variable {c c' : Int → Int} {S' : Sh} {V' N M N2 M3 Mr Ms M1 N1 gm : Mem} {ow eo cs K P W E : Int → Int} {nt b j ln ne : Int}
set_option maxHeartbeats 4000000 in
/-- behind a fault -/
theorem cb_bad (hR : Rel c N M) (hb : M 0 8 = b) (b0 : 0 ≤ b) (b1 : b < 10) (ntk : nTok N N2) (m3 : ∀ k i, ¬ (k = 0 ∧ i = 9) → ¬ (k = 7 ∧ 3000 * b ≤ i) → M3 k i = M k i) {N5 : Mem} (gf : GFB b (M 0 40) c (up N2 60 1 0) M3 c' N5 Mr) (ft : FTS N5 Mr) : Rel c' (up N5 60 7 (N5 50 10)) (up (up Mr 0 2 0) 0 40 (M 0 40)) := by
  have ne12 : ∀ b', 0 ≤ b' → b' < b → M 10 b' ≤ 12 := fun b' q1 q2 => (hR.bk q1 (by omega)).bk.ne1
  have nc24 : ∀ b' e, 0 ≤ b' → b' < b → 0 ≤ e → e < M 10 b' → M 14 (12 * b' + e) ≤ 24 := fun b' e q1 q2 q3 q4 => ((hR.bk q1 (by omega)).be q3 q4).1.nc1
  have n6 : ∀ L k, ¬ (L = 60 ∧ k = 7) → up N5 60 7 (N5 50 10) L k = N5 L k := fun L k q => up_ne' q
  have n67 : up N5 60 7 (N5 50 10) 60 7 = N5 50 10 := up_eq
  have mf : ∀ k i, ¬ (k = 0 ∧ (i = 2 ∨ i = 40)) → up (up Mr 0 2 0) 0 40 (M 0 40) k i = Mr k i := fun k i q => by rw [up_ne' (by omega), up_ne' (by omega)]
  have w2 : up (up Mr 0 2 0) 0 40 (M 0 40) 0 2 = 0 := by rw [up_ne' (by omega), up_eq]
  have w40 : up (up Mr 0 2 0) 0 40 (M 0 40) 0 40 = M 0 40 := up_eq
  generalize up (up Mr 0 2 0) 0 40 (M 0 40) = Mf at *
  generalize up N5 60 7 (N5 50 10) = N6 at *
  have fm : ∀ k i, ¬ cbM b (M 0 40) k i → Mf k i = M k i := fun k i q => by
    by_cases y : k = 0 ∧ i = 40
    · rw [y.1, y.2]; exact w40
    · rw [mf k i (fun z => by
        by_cases y2 : i = 2
        · exact q (Or.inl ⟨z.1, Or.inl y2⟩)
        · omega), gf.2.2 k i (fun y => q (Or.inr (Or.inr (Or.inl y))))]
      exact m3 k i (fun y => q (Or.inl ⟨y.1, by omega⟩)) (fun y => q (Or.inr (Or.inl y)))
  have fn : ∀ L k, ¬ cbN b L k → N6 L k = N L k := fun L k q => by
    have g : ¬ gbN b L k := fun y => q (by
      rcases y with y | y | y | y | y
      · exact Or.inl y
      · exact Or.inr (Or.inr (Or.inr (Or.inl y)))
      · exact Or.inr (Or.inr (Or.inr (Or.inr (Or.inl y))))
      · exact Or.inr (Or.inr (Or.inr (Or.inr (Or.inr (Or.inl y)))))
      · exact Or.inr (Or.inr (Or.inr (Or.inr (Or.inr (Or.inr (Or.inl y)))))))
    rw [n6 L k (fun y => q (Or.inr (Or.inr (Or.inr (Or.inr (Or.inr (Or.inr (Or.inr (Or.inl ⟨y.1, by omega⟩))))))))), gf.2.1 L k g, up_ne' (fun y => q (Or.inr (Or.inr (Or.inr (Or.inr (Or.inr (Or.inr (Or.inr (Or.inl ⟨y.1, by omega⟩)))))))))]
    exact ntk L k (fun y => q (Or.inr (Or.inl y))) (fun y => q (Or.inr (Or.inr (Or.inl y))))
  have rd6 : Rrd c' N6 Mf := by
    have r2 : Rrd c N2 M := (hR.tok ntk).rd
    refine r2.rg (fun L q => gf.1 L (cb_bk (by unfold rdL at q; omega))) (fun L k q => ?_)
    rw [n6 L k (by unfold rdS at q; omega), gf.2.1 L k (fun y => by
      unfold rdS at q
      rcases y with y | y
      · have := y.1; omega
      · omega), up_ne' (by unfold rdS at q; omega)]
  have m8 : Mf 0 8 = b := by
    rw [mf _ _ (by omega), gf.2.2 _ _ (by unfold gfM; omega), m3 _ _ (by omega) (by omega)]; exact hb
  have xe := hR.top.xe
  have x2 := xe.2.1
  refine hR.nbk hb b0 b1 gf.1 fn fm rd6 ?_ w2 ?_ (by omega) (by omega) ?_ ?_ (by omega) (by omega) (fun b' q1 q2 => by omega)
  · rw [n6 _ _ (by omega), gf.2.1 _ _ (by unfold gbN bkL; omega), up_eq, w2]
  · rw [n6 _ _ (by omega), gf.2.1 _ _ (by unfold gbN bkL; omega), up_ne' (by omega), ntk _ _ (by omega) (by omega), m8, hR.top.nb, hb]
  · rw [n67, ft.2.1, mf _ _ (by omega)]
  · obtain ⟨q1, q2, q3, q4⟩ := xe
    refine ⟨by omega, by omega, fun x x0 x1 => ?_, fun b' e b0' bl e0 el => ?_⟩
    · rw [w40] at x1
      rw [fm 39 x (fun y => by unfold cbM gfM at y; omega), m8, ← hb]
      exact q3 x x0 x1
    · rw [m8] at bl ⊢
      rw [fm 10 b' (fun y => by unfold cbM gfM at y; omega)] at el
      have e12 := ne12 b' b0' bl
      have n24 := nc24 b' e b0' bl e0 el
      have r := q4 b' e b0' (by omega) e0 el
      rw [hb] at r
      rw [fm 13 _ (fun y => by unfold cbM gfM at y; omega), fm 14 _ (fun y => by unfold cbM gfM at y; omega)]
      refine ⟨r.1, fun i i0 i1 => ?_⟩
      rw [fm 20 _ (fun y => by unfold cbM gfM at y; omega)]
      exact r.2 i i0 i1
end CB3
