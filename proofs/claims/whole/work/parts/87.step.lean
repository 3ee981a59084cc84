/-! ===== book: a member read: what may change ===== -/
theorem up_ne' {V : Mem} {r j x a b : Int} (h : ¬ (a = r ∧ b = j)) : up V r j x a b = V a b := up_ne (by omega)
def cuN (b e L : Int) : Prop := ((L % 128 = 3 ∨ L % 128 = 4 ∨ L % 128 = 7 ∨ L % 128 = 8 ∨ (12 ≤ L % 128 ∧ L % 128 ≤ 16)) ∧ L / 128 = 12 * b + e) ∨ ((L % 128 = 5 ∨ L % 128 = 6) ∧ 24 * (12 * b + e) ≤ L / 128 ∧ L / 128 < 24 * (12 * b + e) + 24) ∨ ((9 ≤ L % 128 ∧ L % 128 ≤ 11) ∧ 4 * (12 * b + e) ≤ L / 128 ∧ L / 128 < 4 * (12 * b + e) + 4) ∨ ((17 ≤ L % 128 ∧ L % 128 ≤ 19) ∧ 3 * (12 * b + e) ≤ L / 128 ∧ L / 128 < 3 * (12 * b + e) + 3)
def cuM (b e X R k i : Int) : Prop := (k = 0 ∧ ((3 ≤ i ∧ i ≤ 6) ∨ i = 40 ∨ (42 ≤ i ∧ i ≤ 47) ∨ i = 51)) ∨ (k = 11 ∧ i = b) ∨ (k = 12 ∧ 4 * b ≤ i ∧ i < 4 * b + 4) ∨ (14 ≤ k ∧ k ≤ 18 ∧ i = 12 * b + e) ∨ ((k = 19 ∨ k = 23 ∨ k = 24 ∨ k = 27 ∨ k = 28) ∧ 4 * (12 * b + e) ≤ i ∧ i < 4 * (12 * b + e) + 4) ∨ ((k = 20 ∨ k = 21) ∧ 24 * (12 * b + e) ≤ i ∧ i < 24 * (12 * b + e) + 24) ∨ (k = 22 ∧ 96 * (12 * b + e) ≤ i ∧ i < 96 * (12 * b + e) + 96) ∨ (k = 25 ∧ 48 * (12 * b + e) ≤ i ∧ i < 48 * (12 * b + e) + 48) ∨ ((k = 26 ∨ k = 29 ∨ k = 30 ∨ k = 34) ∧ 3 * (12 * b + e) ≤ i ∧ i < 3 * (12 * b + e) + 3) ∨ ((k = 31 ∨ k = 32 ∨ k = 33) ∧ 36 * (12 * b + e) ≤ i ∧ i < 36 * (12 * b + e) + 36) ∨ (35 ≤ k ∧ k ≤ 39 ∧ X ≤ i) ∨ (48 ≤ k ∧ k ≤ 50 ∧ R ≤ i)
def fCn (b e ln : Int) (c : Int → Int) (N : Mem) (c' : Int → Int) (N' : Mem) : Prop := (∀ L, ¬ cuN b e L → c' L = c L) ∧ (∀ L k, ¬ cuN b e L → ¬ (L = 50 ∧ 5 ≤ k ∧ k ≤ 11) → ¬ (L = 51 ∧ 0 ≤ k) → ¬ (L = 128 * b + 1 ∧ k = 2) → ¬ (L = 120 ∧ k = 2) → ¬ ((L = 121 ∨ L = 122) ∧ ln ≤ k) → N' L k = N L k) ∧ c' (128 * (12 * b + e) + 3) = c (128 * (12 * b + e) + 3) ∧ N' (128 * (12 * b + e) + 3) 1 = N (128 * (12 * b + e) + 3) 1 ∧ N' (128 * (12 * b + e) + 3) (-1) = N (128 * (12 * b + e) + 3) (-1)
def fCm (b e X R : Int) (M M' : Mem) : Prop := ∀ k i, ¬ cuM b e X R k i → M' k i = M k i
section CUS
variable {c c' c'' : Int → Int} {N N' N'' M M' M'' gm gm' : Mem} {ow ow' eo eo' cs cs' K P W E : Int → Int} {nt b B X R st j ln e nc nu nk nh ns cb pc j' st' ln' nc' nu' nk' nh' ns' cb' pc' : Int}
theorem fCn.rf : fCn b e ln c N c N := ⟨fun _ _ => rfl, fun _ _ _ _ _ _ _ _ => rfl, rfl, rfl, rfl⟩
theorem fCm.rf : fCm b e X R M M := fun _ _ _ => rfl
theorem fCn.tr (h : fCn b e ln c N c' N') (h2 : fCn b e ln' c' N' c'' N'') (a : ln ≤ ln') : fCn b e ln c N c'' N'' := ⟨fun L q => (h2.1 L q).trans (h.1 L q), fun L k q1 q2 q3 q4 q5 q6 => (h2.2.1 L k q1 q2 q3 q4 q5 (by omega)).trans (h.2.1 L k q1 q2 q3 q4 q5 q6), h2.2.2.1.trans h.2.2.1, h2.2.2.2.1.trans h.2.2.2.1, h2.2.2.2.2.trans h.2.2.2.2⟩
theorem fCm.tr {X' R' : Int} (h : fCm b e X R M M') (h2 : fCm b e X' R' M' M'') (a : X ≤ X') (a2 : R ≤ R') : fCm b e X R M M'' := fun k i q => (h2 k i (fun y => q (by
  rcases y with y | y | y | y | y | y | y | y | y | y | y | y
  · exact Or.inl y
  · exact Or.inr (Or.inl y)
  · exact Or.inr (Or.inr (Or.inl y))
  · exact Or.inr (Or.inr (Or.inr (Or.inl y)))
  · exact Or.inr (Or.inr (Or.inr (Or.inr (Or.inl y))))
  · exact Or.inr (Or.inr (Or.inr (Or.inr (Or.inr (Or.inl y)))))
  · exact Or.inr (Or.inr (Or.inr (Or.inr (Or.inr (Or.inr (Or.inl y))))))
  · exact Or.inr (Or.inr (Or.inr (Or.inr (Or.inr (Or.inr (Or.inr (Or.inl y)))))))
  · exact Or.inr (Or.inr (Or.inr (Or.inr (Or.inr (Or.inr (Or.inr (Or.inr (Or.inl y))))))))
  · exact Or.inr (Or.inr (Or.inr (Or.inr (Or.inr (Or.inr (Or.inr (Or.inr (Or.inr (Or.inl y)))))))))
  · exact Or.inr (Or.inr (Or.inr (Or.inr (Or.inr (Or.inr (Or.inr (Or.inr (Or.inr (Or.inr (Or.inl ⟨y.1, y.2.1, by omega⟩))))))))))
  · exact Or.inr (Or.inr (Or.inr (Or.inr (Or.inr (Or.inr (Or.inr (Or.inr (Or.inr (Or.inr (Or.inr ⟨y.1, y.2.1, by omega⟩))))))))))))).trans (h k i q)
theorem cu3 {k : Int} (h : k = 3 ∨ k = 4 ∨ k = 7 ∨ k = 8 ∨ (12 ≤ k ∧ k ≤ 16)) : cuN b e (128 * (12 * b + e) + k) := Or.inl ⟨by omega, by omega⟩
/-- outside of books no label of the enum -/
theorem cu_out {L : Int} (h : 30 ≤ L % 128 ∨ L % 128 ≤ 2 ∨ 20 ≤ L % 128) : ¬ cuN b e L := fun y => by
  rcases y with y | y | y | y <;> omega
theorem fCn.lo {L k : Int} (h : fCn b e ln c N c' N') (q : 20 ≤ L % 128) (q1 : ¬ (L = 50 ∧ 5 ≤ k ∧ k ≤ 11)) (q2 : ¬ (L = 51 ∧ 0 ≤ k)) (q3 : ¬ (L = 120 ∧ k = 2)) (q4 : ¬ ((L = 121 ∨ L = 122) ∧ ln ≤ k)) : N' L k = N L k := h.2.1 L k (cu_out (Or.inr (Or.inr q))) q1 q2 (by omega) q3 q4
theorem fCn.x (f : fXn ln N N') : fCn b e ln c N c N' := ⟨fun _ _ => rfl, fun L k q1 q2 q3 q4 q5 q6 => f L k (by omega) (by omega) (by omega), rfl, f _ _ (by omega) (by omega) (by omega), f _ _ (by omega) (by omega) (by omega)⟩
theorem fCm.y (f : fYm X R M M') : fCm b e X R M M' := fun k i q => f k i (fun y => q (Or.inl ⟨y.1, by omega⟩)) (fun y => q (Or.inr (Or.inr (Or.inr (Or.inr (Or.inr (Or.inr (Or.inr (Or.inr (Or.inr (Or.inr (Or.inl y)))))))))))) (fun y => q (Or.inr (Or.inr (Or.inr (Or.inr (Or.inr (Or.inr (Or.inr (Or.inr (Or.inr (Or.inr (Or.inr y))))))))))))
theorem fCm.lx (f : Lxs M M') : fCm b e X R M M' := fun k i q => f k i (fun y => q (Or.inl ⟨y.1, by omega⟩))
/-- one slot of the reference's -/
theorem fCm.ua {u v w : Int} (h : cuM b e X R u v) : fCm b e X R M (up M u v w) := fun k i q => up_ne' (fun y => q (by rw [y.1, y.2]; exact h))
/-- one slot of the class's, of the enum's own -/
theorem fCn.ua {L k v : Int} (h : cuN b e L) (h2 : ¬ (L = 128 * (12 * b + e) + 3 ∧ (k = 1 ∨ k = -1))) : fCn b e ln c N c (up N L k v) := ⟨fun _ _ => rfl, fun L' k' q _ _ _ _ _ => up_ne' (fun y => q (by rw [y.1]; exact h)), rfl, up_ne' (fun y => h2 ⟨y.1.symm, by omega⟩), up_ne' (fun y => h2 ⟨y.1.symm, by omega⟩)⟩
theorem fCn.s5 {v : Int} : fCn b e ln c N c (up N 50 5 v) := ⟨fun _ _ => rfl, fun L k q q1 _ _ _ _ => up_ne' (fun y => q1 ⟨y.1, by omega, by omega⟩), rfl, up_ne' (by omega), up_ne' (by omega)⟩
theorem GF.cu {c0 : Int → Int} {N0 M0 : Mem} (h : GF b B c0 N0 M0 c N M) (e0 : 0 ≤ e) (e1 : e < 12) (l0 : 0 ≤ ln) (hB : B ≤ X) (fn : fCn b e ln c N c' N') (fm : fCm b e X R M M') : GF b B c0 N0 M0 c' N' M' := by
  have cb : ∀ L, cuN b e L → bkL b L := fun L y => by
    unfold bkL
    rcases y with y | y | y | y
    · exact ⟨by omega, Or.inr (Or.inl ⟨by omega, by omega⟩)⟩
    · exact ⟨by omega, Or.inr (Or.inr (Or.inl ⟨by omega, by omega⟩))⟩
    · exact ⟨by omega, Or.inr (Or.inr (Or.inr (Or.inl ⟨by omega, by omega⟩)))⟩
    · exact ⟨by omega, Or.inr (Or.inr (Or.inr (Or.inr ⟨by omega, by omega⟩)))⟩
  have c3 : ∀ L, cuN b e L → L % 128 = 3 → L = 128 * (12 * b + e) + 3 := fun L y q => by
    rcases y with y | y | y | y <;> omega
  refine h.tr (fun L q => ?_) (fun L k q => ?_) (fun k i q => fm k i (fun y => q ?_))
  · by_cases y : cuN b e L
    · have y3 : L % 128 = 3 := by
        by_cases y3 : L % 128 = 3
        · exact y3
        · exact absurd ⟨cb L y, y3⟩ q
      rw [c3 L y y3]; exact fn.2.2.1
    · exact fn.1 L y
  · by_cases y : cuN b e L
    · have y3 : L % 128 = 3 ∧ k = -1 := by
        by_cases y3 : L % 128 = 3 ∧ k = -1
        · exact y3
        · exact absurd (Or.inl ⟨cb L y, y3⟩) q
      rw [c3 L y y3.1, y3.2]; exact fn.2.2.2.2
    · refine fn.2.1 L k y (fun y => q (Or.inr (Or.inl ⟨y.1, by omega, by omega⟩))) (fun y => q (Or.inr (Or.inr (Or.inl y)))) (fun y => q (Or.inl ⟨?_, by omega⟩)) (fun y => q (Or.inr (Or.inr (Or.inr (Or.inl y))))) (fun y => q (Or.inr (Or.inr (Or.inr (Or.inr ⟨y.1, by omega⟩)))))
      unfold bkL
      exact ⟨by omega, Or.inl ⟨by omega, by omega⟩⟩
  · unfold gfM
    rcases y with y | y | y | y | y | y | y | y | y | y | y | y
    · exact Or.inl ⟨y.1, by omega⟩
    · exact Or.inr (Or.inl ⟨by omega, y.2⟩)
    · exact Or.inr (Or.inr (Or.inl y))
    · exact Or.inr (Or.inr (Or.inr (Or.inl ⟨by omega, by omega, by omega, by omega⟩)))
    · exact Or.inr (Or.inr (Or.inr (Or.inr (Or.inl ⟨y.1, by omega, by omega⟩))))
    · exact Or.inr (Or.inr (Or.inr (Or.inr (Or.inr (Or.inl ⟨y.1, by omega, by omega⟩)))))
    · exact Or.inr (Or.inr (Or.inr (Or.inr (Or.inr (Or.inr (Or.inl ⟨y.1, by omega, by omega⟩))))))
    · exact Or.inr (Or.inr (Or.inr (Or.inr (Or.inr (Or.inr (Or.inr (Or.inl ⟨y.1, by omega, by omega⟩)))))))
    · exact Or.inr (Or.inr (Or.inr (Or.inr (Or.inr (Or.inr (Or.inr (Or.inr (Or.inl ⟨y.1, by omega, by omega⟩))))))))
    · exact Or.inr (Or.inr (Or.inr (Or.inr (Or.inr (Or.inr (Or.inr (Or.inr (Or.inr (Or.inl ⟨y.1, by omega, by omega⟩)))))))))
    · exact Or.inr (Or.inr (Or.inr (Or.inr (Or.inr (Or.inr (Or.inr (Or.inr (Or.inr (Or.inr (Or.inl ⟨y.1, y.2.1, by omega⟩))))))))))
    · exact Or.inr (Or.inr (Or.inr (Or.inr (Or.inr (Or.inr (Or.inr (Or.inr (Or.inr (Or.inr (Or.inr ⟨y.1, y.2.1⟩))))))))))
theorem pr_cu {L : Int} (h : prN b e L) : ¬ cuN b e L := fun y => by
  rcases h with h | h | h | h <;> rcases y with y | y | y | y <;> omega
theorem pr_cm {k i : Int} (h : prM b e k i) : ¬ cuM b e X R k i := fun y => by
  rcases h with h | h | h | h | h | h | h | h <;> rcases y with y | y | y | y | y | y | y | y | y | y | y | y <;> omega
/-- the state behind a member -/
theorem RDI.nx (h : RDI c N M gm ow eo cs K P W E nt b B st j ln e nc nu nk nh ns cb pc) (fn : fCn b e ln c N c' N') (fm : fCm b e (M 0 40) (M 0 51) M M') (G : GRW (M 0 40) ln (M 0 51) N M gm ow N' M' gm' ow') (a1 : M 0 40 ≤ M' 0 40) (a2 : ln ≤ ln') (eq : ∀ p, p < ln → eo' p = eo p) (ls : MLS c' N' M' K P W E nt b (12 * b + e) st' B j' ln') (hb : HB c' N' M' b) (he : HE c' N' M' (12 * b + e)) (ct : M' 14 (12 * b + e) = nc' + pc' ∧ M' 15 (12 * b + e) = nu' ∧ M' 16 (12 * b + e) = nk' ∧ M' 17 (12 * b + e) = nh' ∧ M' 18 (12 * b + e) = ns') (ei : EI c' N' M' gm' ow' K P W E nt b B (M' 0 40) ln' e nc' nu' nk' nh' ns') (wd : WLD N' M' gm' ow' eo' cs' K P E nt b B (M' 0 40) ln' e (N (128 * (12 * b + e) + 3) 1) cb') : RDI c' N' M' gm' ow' eo' cs' K P W E nt b B st' j' ln' e nc' nu' nk' nh' ns' cb' pc' := by
  have bd := h.bd
  have hr := h.ls.r
  have l0 := h.ls.l0
  have mz : ∀ k i, ¬ cuM b e (M 0 40) (M 0 51) k i → M' k i = M k i := fm
  have m7 : ∀ i, M' 7 i = M 7 i := fun i => fm 7 i (by unfold cuM; omega)
  have m1 : ∀ i, M' 1 i = M 1 i := fun i => fm 1 i (by unfold cuM; omega)
  have m2 : M' 0 2 = M 0 2 := fm 0 2 (by unfold cuM; omega)
  have m10 : M' 10 b = M 10 b := fm 10 b (by unfold cuM; omega)
  have m13 : M' 13 (12 * b + e) = M 13 (12 * b + e) := fm 13 _ (by unfold cuM; omega)
  have n3 := fn.2.2.2.1
  refine ⟨ls, ?_, ⟨hb, m10.trans h.m10, ?_⟩, he, ct, ei, fun e' e0 e1 => ?_, by rw [n3]; exact wd, ?_, bd⟩
  · rw [m2]
    intro i i0 i1
    rw [m7, m1]
    exact h.tx i i0 i1
  · rw [fn.2.1 50 4 (cu_out (by omega)) (by omega) (by omega) (by omega) (by omega) (by omega), fn.2.2.1]
    exact h.cu
  · exact (h.pe e' e0 e1).fr (e := e) e0 e1 G hr a1 a2 eq (fun L k q => ⟨fn.1 L (pr_cu q), fn.2.1 L k (pr_cu q) (by unfold prN at q; omega) (by unfold prN at q; omega) (by unfold prN at q; omega) (by unfold prN at q; omega) (by unfold prN at q; omega)⟩) (fun k i q => fm k i (pr_cm q))
  · rw [m13, n3]
    refine ⟨h.sg.1, h.sg.2.1, fun q => ?_⟩
    rw [h.sg.2.2 q]
    have p : prN b e (128 * (12 * b + (e - 1)) + 3) := Or.inl ⟨by omega, by omega, by omega⟩
    exact (fn.2.1 _ 2 (pr_cu p) (by omega) (by omega) (by omega) (by omega) (by omega)).symm
theorem HB.cu (h : HB c N M b) (e0 : 0 ≤ e) (b0 : 0 ≤ b) (fn : fCn b e ln c N c' N') (fm : fCm b e X R M M') (n51 : ∀ k, 0 ≤ k → N' 51 k = N 51 k) (n2 : N' (128 * b + 1) 2 = N (128 * b + 1) 2) (m11 : M' 11 b = M 11 b) (m12 : ∀ i, 0 ≤ i → i < 4 → M' 12 (4 * b + i) = M 12 (4 * b + i)) : HB c' N' M' b := by
  refine h.fr (fun L q => fn.1 L (cu_out (by omega))) (fun k => ?_) (fun k => fn.2.1 _ _ (cu_out (by omega)) (by omega) (by omega) (by omega) (by omega) (by omega)) (fn.2.1 _ _ (cu_out (by omega)) (by omega) (by omega) (by omega) (by omega) (by omega)) n51 (fun i i0 i1 => ?_) (fm 10 b (by unfold cuM; omega)) m11 m12 (fun i => fm 7 i (by unfold cuM; omega))
  · by_cases y : k = 2
    · rw [y]; exact n2
    · exact fn.2.1 _ _ (cu_out (by omega)) (by omega) (by omega) (by omega) (by omega) (by omega)
  · by_cases y : i = e
    · rw [y]; exact ⟨fn.2.2.1, fn.2.2.2.2⟩
    · have : ¬ cuN b e (128 * (12 * b + i) + 3) := fun q => by rcases q with q | q | q | q <;> omega
      exact ⟨fn.1 _ this, fn.2.1 _ _ this (by omega) (by omega) (by omega) (by omega) (by omega)⟩
theorem fC_grw (gf : ∀ k y, y < X → gm' k y = gm k y) (oq : ∀ p, p < ln → ow' p = ow p) (fn : fCn b e ln c N c' N') (fm : fCm b e X R M M') : GRW X ln R N M gm ow N' M' gm' ow' := ⟨fun i i0 i1 => ⟨fn.lo (by omega) (by omega) (by omega) (by omega) (by omega), fn.lo (by omega) (by omega) (by omega) (by omega) (by omega)⟩, gf, oq, fun k i k1 k2 i1 => fm k i (by unfold cuM; omega), fun k i k1 k2 i1 => fm k i (by unfold cuM; omega)⟩
end CUS
