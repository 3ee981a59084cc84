/-! ===== evaluation: the other changes in a book ===== -/
def nFin (N : Mem) (b it D v : Int) : Mem := (up (up N (30) (5) (D - 1)) (128 * b + 23) (it) (v))
theorem nFin_ne {N : Mem} {b it D v L j : Int} (h : ¬ (L = 30 ∧ j = 5) ∧ ¬ (L = 128 * b + 23 ∧ j = it)) : nFin N b it D v L j = N L j := (up_ne (by omega)).trans (up_ne (by omega))
theorem nFin_0 {N : Mem} {b it D v : Int} (hb : 0 ≤ b) : nFin N b it D v (30) (5) = D - 1 := by unfold nFin; rw [up_ne (by omega), up_eq]
theorem nFin_1 {N : Mem} {b it D v : Int} (hb : 0 ≤ b) : nFin N b it D v (128 * b + 23) (it) = v := by unfold nFin; rw [up_eq]
def mFin (M : Mem) (b it D v : Int) : Mem := (up (up M (0) (64) (D - 1)) (52) (160 * b + it) (v))
theorem mFin_ne {M : Mem} {b it D v L j : Int} (h : ¬ (L = 0 ∧ j = 64) ∧ ¬ (L = 52 ∧ j = 160 * b + it)) : mFin M b it D v L j = M L j := (up_ne (by omega)).trans (up_ne (by omega))
theorem mFin_0 {M : Mem} {b it D v : Int} (hb : 0 ≤ b) : mFin M b it D v (0) (64) = D - 1 := by unfold mFin; rw [up_ne (by omega), up_eq]
theorem mFin_1 {M : Mem} {b it D v : Int} (hb : 0 ≤ b) : mFin M b it D v (52) (160 * b + it) = v := by unfold mFin; rw [up_eq]
def nAro (N : Mem) (s it : Int) : Mem := (up (up (up N (33) (s) (1)) (34) (s) (it)) (30) (8) (s + 1))
theorem nAro_ne {N : Mem} {s it L j : Int} (h : ¬ (L = 33 ∧ j = s) ∧ ¬ (L = 34 ∧ j = s) ∧ ¬ (L = 30 ∧ j = 8)) : nAro N s it L j = N L j := (up_ne (by omega)).trans ((up_ne (by omega)).trans (up_ne (by omega)))
theorem nAro_0 {N : Mem} {s it : Int} : nAro N s it (33) (s) = 1 := by unfold nAro; rw [up_ne (by omega), up_ne (by omega), up_eq]
theorem nAro_1 {N : Mem} {s it : Int} : nAro N s it (34) (s) = it := by unfold nAro; rw [up_ne (by omega), up_eq]
theorem nAro_2 {N : Mem} {s it : Int} : nAro N s it (30) (8) = s + 1 := by unfold nAro; rw [up_eq]
def mAro (M : Mem) (s it : Int) : Mem := (up (up (up M (66) (s) (1)) (67) (s) (it)) (0) (68) (s + 1))
theorem mAro_ne {M : Mem} {s it L j : Int} (h : ¬ (L = 66 ∧ j = s) ∧ ¬ (L = 67 ∧ j = s) ∧ ¬ (L = 0 ∧ j = 68)) : mAro M s it L j = M L j := (up_ne (by omega)).trans ((up_ne (by omega)).trans (up_ne (by omega)))
theorem mAro_0 {M : Mem} {s it : Int} : mAro M s it (66) (s) = 1 := by unfold mAro; rw [up_ne (by omega), up_ne (by omega), up_eq]
theorem mAro_1 {M : Mem} {s it : Int} : mAro M s it (67) (s) = it := by unfold mAro; rw [up_ne (by omega), up_eq]
theorem mAro_2 {M : Mem} {s it : Int} : mAro M s it (0) (68) = s + 1 := by unfold mAro; rw [up_eq]
def nSee (N : Mem) (b z y x : Int) : Mem := (up (up (up N (128 * b + 25) (z) (y)) (128 * b + 26) (z) (x)) (128 * b + 1) (9) (z + 1))
theorem nSee_ne {N : Mem} {b z y x L j : Int} (h : ¬ (L = 128 * b + 25 ∧ j = z) ∧ ¬ (L = 128 * b + 26 ∧ j = z) ∧ ¬ (L = 128 * b + 1 ∧ j = 9)) : nSee N b z y x L j = N L j := (up_ne (by omega)).trans ((up_ne (by omega)).trans (up_ne (by omega)))
theorem nSee_0 {N : Mem} {b z y x : Int} : nSee N b z y x (128 * b + 25) (z) = y := by unfold nSee; rw [up_ne (by omega), up_ne (by omega), up_eq]
theorem nSee_1 {N : Mem} {b z y x : Int} : nSee N b z y x (128 * b + 26) (z) = x := by unfold nSee; rw [up_ne (by omega), up_eq]
theorem nSee_2 {N : Mem} {b z y x : Int} : nSee N b z y x (128 * b + 1) (9) = z + 1 := by unfold nSee; rw [up_eq]
def mSee (M : Mem) (b z y x : Int) : Mem := (up (up (up M (60) (3100 * b + z) (y)) (61) (3100 * b + z) (x)) (62) (b) (z + 1))
theorem mSee_ne {M : Mem} {b z y x L j : Int} (h : ¬ (L = 60 ∧ j = 3100 * b + z) ∧ ¬ (L = 61 ∧ j = 3100 * b + z) ∧ ¬ (L = 62 ∧ j = b)) : mSee M b z y x L j = M L j := (up_ne (by omega)).trans ((up_ne (by omega)).trans (up_ne (by omega)))
theorem mSee_0 {M : Mem} {b z y x : Int} : mSee M b z y x (60) (3100 * b + z) = y := by unfold mSee; rw [up_ne (by omega), up_ne (by omega), up_eq]
theorem mSee_1 {M : Mem} {b z y x : Int} : mSee M b z y x (61) (3100 * b + z) = x := by unfold mSee; rw [up_ne (by omega), up_eq]
theorem mSee_2 {M : Mem} {b z y x : Int} : mSee M b z y x (62) (b) = z + 1 := by unfold mSee; rw [up_eq]
def nCon (N : Mem) (g i v : Int) : Mem := (up (up N (128 * (24 * g + i) + 5) (2) (v)) (128 * g + 3) (5) (i + 1))
theorem nCon_ne {N : Mem} {g i v L j : Int} (h : ¬ (L = 128 * (24 * g + i) + 5 ∧ j = 2) ∧ ¬ (L = 128 * g + 3 ∧ j = 5)) : nCon N g i v L j = N L j := (up_ne (by omega)).trans (up_ne (by omega))
theorem nCon_0 {N : Mem} {g i v : Int} : nCon N g i v (128 * (24 * g + i) + 5) (2) = v := by unfold nCon; rw [up_ne (by omega), up_eq]
theorem nCon_1 {N : Mem} {g i v : Int} : nCon N g i v (128 * g + 3) (5) = i + 1 := by unfold nCon; rw [up_eq]
def nCo0 (N : Mem) (g i : Int) : Mem := (up N (128 * g + 3) (5) (i + 1))
theorem nCo0_ne {N : Mem} {g i L j : Int} (h : ¬ (L = 128 * g + 3 ∧ j = 5)) : nCo0 N g i L j = N L j := up_ne (by omega)
theorem nCo0_0 {N : Mem} {g i : Int} : nCo0 N g i (128 * g + 3) (5) = i + 1 := by unfold nCo0; rw [up_eq]
def nCoF (N : Mem) (g i v : Int) : Mem := (up N (128 * (24 * g + i) + 5) (2) (v))
theorem nCoF_ne {N : Mem} {g i v L j : Int} (h : ¬ (L = 128 * (24 * g + i) + 5 ∧ j = 2)) : nCoF N g i v L j = N L j := up_ne (by omega)
theorem nCoF_0 {N : Mem} {g i v : Int} : nCoF N g i v (128 * (24 * g + i) + 5) (2) = v := by unfold nCoF; rw [up_eq]
def mCon (M : Mem) (g i v : Int) : Mem := (up (up M (54) (24 * g + i) (v)) (53) (g) (i + 1))
theorem mCon_ne {M : Mem} {g i v L j : Int} (h : ¬ (L = 54 ∧ j = 24 * g + i) ∧ ¬ (L = 53 ∧ j = g)) : mCon M g i v L j = M L j := (up_ne (by omega)).trans (up_ne (by omega))
theorem mCon_0 {M : Mem} {g i v : Int} : mCon M g i v (54) (24 * g + i) = v := by unfold mCon; rw [up_ne (by omega), up_eq]
theorem mCon_1 {M : Mem} {g i v : Int} : mCon M g i v (53) (g) = i + 1 := by unfold mCon; rw [up_eq]
def nEnt (N : Mem) (t k v : Int) : Mem := (up (up N (128 * t + 11) (k) (v)) (128 * t + 9) (4) (k + 1))
theorem nEnt_ne {N : Mem} {t k v L j : Int} (h : ¬ (L = 128 * t + 11 ∧ j = k) ∧ ¬ (L = 128 * t + 9 ∧ j = 4)) : nEnt N t k v L j = N L j := (up_ne (by omega)).trans (up_ne (by omega))
theorem nEnt_0 {N : Mem} {t k v : Int} : nEnt N t k v (128 * t + 11) (k) = v := by unfold nEnt; rw [up_ne (by omega), up_eq]
theorem nEnt_1 {N : Mem} {t k v : Int} : nEnt N t k v (128 * t + 9) (4) = k + 1 := by unfold nEnt; rw [up_eq]
def nEnF (N : Mem) (t k v : Int) : Mem := (up N (128 * t + 11) (k) (v))
theorem nEnF_ne {N : Mem} {t k v L j : Int} (h : ¬ (L = 128 * t + 11 ∧ j = k)) : nEnF N t k v L j = N L j := up_ne (by omega)
theorem nEnF_0 {N : Mem} {t k v : Int} : nEnF N t k v (128 * t + 11) (k) = v := by unfold nEnF; rw [up_eq]
def mEnt (M : Mem) (t k v : Int) : Mem := (up (up M (56) (12 * t + k) (v)) (55) (t) (k + 1))
theorem mEnt_ne {M : Mem} {t k v L j : Int} (h : ¬ (L = 56 ∧ j = 12 * t + k) ∧ ¬ (L = 55 ∧ j = t)) : mEnt M t k v L j = M L j := (up_ne (by omega)).trans (up_ne (by omega))
theorem mEnt_0 {M : Mem} {t k v : Int} : mEnt M t k v (56) (12 * t + k) = v := by unfold mEnt; rw [up_ne (by omega), up_eq]
theorem mEnt_1 {M : Mem} {t k v : Int} : mEnt M t k v (55) (t) = k + 1 := by unfold mEnt; rw [up_eq]
def nHol (N : Mem) (g i v : Int) : Mem := (up N (128 * g + 15) (i) (v))
theorem nHol_ne {N : Mem} {g i v L j : Int} (h : ¬ (L = 128 * g + 15 ∧ j = i)) : nHol N g i v L j = N L j := up_ne (by omega)
theorem nHol_0 {N : Mem} {g i v : Int} : nHol N g i v (128 * g + 15) (i) = v := by unfold nHol; rw [up_eq]
def mHol (M : Mem) (g i v : Int) : Mem := (up M (57) (4 * g + i) (v))
theorem mHol_ne {M : Mem} {g i v L j : Int} (h : ¬ (L = 57 ∧ j = 4 * g + i)) : mHol M g i v L j = M L j := up_ne (by omega)
theorem mHol_0 {M : Mem} {g i v : Int} : mHol M g i v (57) (4 * g + i) = v := by unfold mHol; rw [up_eq]
theorem EvI.fin {c : Int → Int} {b : Int} {N M gm : Mem} {U : Int → Int} {it v : Int} (h : EvI c N M gm U b) (hi : 0 ≤ it ∧ it < 12 ∨ 100 ≤ it ∧ it < 148) (z : M 52 (160 * b + it) = 3) (hd : 1 ≤ M 0 64) (hv : v = 1 ∨ v = 2) (w1 : v = 1 → it < M 10 b → M 53 (12 * b + it) = M 14 (12 * b + it)) (w2 : v = 1 → it < M 10 b → ∀ t, 0 ≤ t → t < M 15 (12 * b + it) → M 55 (4 * (12 * b + it) + t) = M 24 (4 * (12 * b + it) + t)) (w3 : v = 1 → ∀ e i, 0 ≤ e → e < M 10 b → 0 ≤ i → i < M 17 (12 * b + e) → it = 100 + 4 * e + i → N (128 * (12 * b + e) + 15) i = M 57 (4 * (12 * b + e) + i)) (ff : M 0 65 = 1 → M 0 68 + M 0 64 ≤ 13) : EvI c (nFin N b it (M 0 64) v) (mFin M b it (M 0 64) v) gm U b := by
  have k := h.wk
  have D := h.bd
  have b0 := h.b0
  have d1 := h.dp1
  refine h.gch ?_ ?_ (fun L j hL => nFin_ne (by unfold stT at hL; omega)) (fun k j hk => mFin_ne (by omega)) (mFin_ne (by omega)) (k.ch (fun L j _ _ _ => nFin_ne (by omega)) (nFin_ne (by omega)) (nFin_ne (by omega)) (nFin_ne (by omega)) (nFin_ne (by omega)) ?_ ?_ ?_ (fun j j0 j1 => ?_) (fun j j0 j1 => ?_)) (nFin_ne (by omega)) (mFin_ne (by omega)) ?_ ?_ ?_ ?_ ?_ (fun j j0 j1 => ?_) ?_ ?_ ?_
  ·
    have q := h.bh.bk
    refine ⟨?_, fun e' e0 e1 => ?_⟩
    ·
      refine ⟨?_, ?_, ?_, ?_, ?_, ?_, ?_, ?_, ?_, ?_, ?_, ?_, ?_, ?_, ?_, ?_, ?_, ?_, ?_, ?_, ?_, ?_, ?_, ?_, ?_, ?_, ?_, ?_, ?_, ?_, ?_, ?_, ?_, ?_, ?_, ?_, ?_, ?_, ?_, ?_, ?_, ?_, ?_, ?_, ?_⟩
      · have w := q.i0
        try simp (disch := omega) only [nFin_ne, mFin_ne]
        exact w
      · have w := q.r
        try simp (disch := omega) only [nFin_ne, mFin_ne]
        exact w
      · have w := q.g1
        try simp (disch := omega) only [nFin_ne, mFin_ne]
        exact w
      · have w := q.r0
        try simp (disch := omega) only [nFin_ne, mFin_ne]
        exact w
      · have w := q.g2
        try simp (disch := omega) only [nFin_ne, mFin_ne]
        exact w
      · have w := q.n2
        try simp (disch := omega) only [nFin_ne, mFin_ne]
        exact w
      · have w := q.ne
        try simp (disch := omega) only [nFin_ne, mFin_ne]
        exact w
      · have w := q.ne0
        try simp (disch := omega) only [nFin_ne, mFin_ne]
        exact w
      · have w := q.ne1
        try simp (disch := omega) only [nFin_ne, mFin_ne]
        exact w
      · have w := q.na
        try simp (disch := omega) only [nFin_ne, mFin_ne]
        exact w
      · have w := q.na0
        try simp (disch := omega) only [nFin_ne, mFin_ne]
        exact w
      · have w := q.na1
        try simp (disch := omega) only [nFin_ne, mFin_ne]
        exact w
      · have w := q.r3
        try simp (disch := omega) only [nFin_ne, mFin_ne]
        exact w
      · have w := q.g20
        try simp (disch := omega) only [nFin_ne, mFin_ne]
        exact w
      · have w := q.r20
        try simp (disch := omega) only [nFin_ne, mFin_ne]
        exact w
      · have w := q.r21
        try simp (disch := omega) only [nFin_ne, mFin_ne]
        exact w
      · have w := q.g21
        try simp (disch := omega) only [nFin_ne, mFin_ne]
        exact w
      · have w := q.n21
        try simp (disch := omega) only [nFin_ne, mFin_ne]
        exact w
      · have w := q.g22
        try simp (disch := omega) only [nFin_ne, mFin_ne]
        exact w
      · have w := q.n22
        try simp (disch := omega) only [nFin_ne, mFin_ne]
        exact w
      · have w := q.cl0
        try simp (disch := omega) only [nFin_ne, mFin_ne]
        exact w
      · have w := q.cl1
        try simp (disch := omega) only [nFin_ne, mFin_ne]
        exact w
      · have w := q.r4
        try simp (disch := omega) only [nFin_ne, mFin_ne]
        exact w
      · have w := q.g23
        try simp (disch := omega) only [nFin_ne, mFin_ne]
        exact w
      · have w := q.n23
        try simp (disch := omega) only [nFin_ne, mFin_ne]
        exact w
      · have w := q.r5
        try simp (disch := omega) only [nFin_ne, mFin_ne]
        exact w
      · have w := q.g24
        try simp (disch := omega) only [nFin_ne, mFin_ne]
        exact w
      · have w := q.n24
        try simp (disch := omega) only [nFin_ne, mFin_ne]
        exact w
      · have w := q.r7
        try simp (disch := omega) only [nFin_ne, mFin_ne]
        exact w
      · have w := q.g25
        try simp (disch := omega) only [nFin_ne, mFin_ne]
        exact w
      · have w := q.n25
        try simp (disch := omega) only [nFin_ne, mFin_ne]
        exact w
      · have w := q.r8
        try simp (disch := omega) only [nFin_ne, mFin_ne]
        exact w
      · have w := q.g26
        try simp (disch := omega) only [nFin_ne, mFin_ne]
        exact w
      · have w := q.n26
        try simp (disch := omega) only [nFin_ne, mFin_ne]
        exact w
      · intro i i0 i1
        by_cases e : i = it
        · subst e
          rw [nFin_1 b0, mFin_1 b0]
        · rw [nFin_ne (by omega), mFin_ne (by omega)]
          exact q.st i i0 i1
      · have w := q.nt
        try simp (disch := omega) only [nFin_ne, mFin_ne]
        exact w
      · have w := q.nt0
        try simp (disch := omega) only [nFin_ne, mFin_ne]
        exact w
      · have w := q.nt1
        try simp (disch := omega) only [nFin_ne, mFin_ne]
        exact w
      · have w := q.ts
        try simp (disch := omega) only [nFin_ne, mFin_ne]
        exact w
      · have w := q.nz
        try simp (disch := omega) only [nFin_ne, mFin_ne]
        exact w
      · have w := q.nz0
        try simp (disch := omega) only [nFin_ne, mFin_ne]
        exact w
      · have w := q.nz1
        try simp (disch := omega) only [nFin_ne, mFin_ne]
        exact w
      · have w := q.zb
        try simp (disch := omega) only [nFin_ne, mFin_ne]
        exact w
      · have w := q.zo
        try simp (disch := omega) only [nFin_ne, mFin_ne]
        exact w
      · have w := q.re
        try simp (disch := omega) only [nFin_ne, mFin_ne]
        exact w
    · rw [mFin_ne (by omega)] at e1
      have k := h.bh.be e0 e1
      refine ⟨?_, fun i' i0 i1 => ?_, fun i' i0 i1 => ?_, fun i' i0 i1 => ?_⟩
      · apply Ren.fr (k.en) <;> intros <;> first | rfl | exact nFin_ne (by omega) | exact mFin_ne (by omega) | exact funext fun _ => mFin_ne (by omega)
      · rw [mFin_ne (by omega)] at i1
        apply Rcn.fr (k.cn i0 i1) <;> intros <;> first | rfl | exact nFin_ne (by omega) | exact mFin_ne (by omega) | exact funext fun _ => mFin_ne (by omega)
      · rw [mFin_ne (by omega)] at i1
        apply Rtb.fr (k.tb i0 i1) <;> intros <;> first | rfl | exact nFin_ne (by omega) | exact mFin_ne (by omega) | exact funext fun _ => mFin_ne (by omega)
      · rw [mFin_ne (by omega)] at i1
        apply Rsw.fr (k.sw i0 i1) <;> intros <;> first | rfl | exact nFin_ne (by omega) | exact mFin_ne (by omega) | exact funext fun _ => mFin_ne (by omega)
  ·
    refine ⟨?_, ?_, ?_, ?_, ?_, ?_, ?_, ?_, ?_, ?_, ?_, ?_, ?_, ?_, ?_⟩
    · intro i i0 i1
      by_cases y : i = it
      · subst y
        rw [mFin_1 b0]
        omega
      · rw [mFin_ne (by omega)]
        exact D.s0 i i0 i1
    · intro i i0 i1
      by_cases y : i = it
      · subst y
        rw [mFin_1 b0]
        omega
      · rw [mFin_ne (by omega)]
        exact D.s3 i i0 i1
    · intro i i0 i1
      rw [mFin_ne (by omega)]
      exact D.sz i i0 i1
    · rw [mFin_ne (by omega)]
      refine D.sc.trans (cnt_congr 148 (fun i i0 i1 => ?_))
      by_cases y : i = it
      · subst y
        rw [mFin_1 b0]
        omega
      · rw [mFin_ne (by omega)]
    · intro e e0 e1 hs
      rw [mFin_ne (by omega)] at e1
      rw [mFin_ne (by omega), mFin_ne (by omega)]
      by_cases y : e = it
      · subst y
        rw [mFin_1 b0] at hs
        exact w1 hs e1
      · rw [mFin_ne (by omega)] at hs
        exact D.wc e e0 e1 hs
    · intro e t e0 e1 hs t0 t1
      rw [mFin_ne (by omega)] at e1 t1
      rw [mFin_ne (by omega), mFin_ne (by omega)]
      by_cases y : e = it
      · subst y
        rw [mFin_1 b0] at hs
        exact w2 hs e1 t t0 t1
      · rw [mFin_ne (by omega)] at hs
        exact D.wt e t e0 e1 hs t0 t1
    · intro e e0 e1 hs
      rw [mFin_ne (by omega)] at e1
      rw [mFin_ne (by omega)]
      by_cases y : e = it
      · subst y
        rw [mFin_1 b0] at hs
        omega
      · rw [mFin_ne (by omega)] at hs
        exact D.zc e e0 e1 hs
    · intro e t e0 e1 hs t0 t1
      rw [mFin_ne (by omega)] at e1 t1
      rw [mFin_ne (by omega)]
      by_cases y : e = it
      · subst y
        rw [mFin_1 b0] at hs
        omega
      · rw [mFin_ne (by omega)] at hs
        exact D.zt e t e0 e1 hs t0 t1
    · intro e i e0 e1 i0 i1
      rw [mFin_ne (by omega)] at e1 i1
      rw [nFin_ne (by omega)]
      rw [mFin_ne (by omega)]
      exact D.ar e i e0 e1 i0 i1
    · intro e i e0 e1 i0 i1 hs
      rw [mFin_ne (by omega)] at e1 i1 hs
      rw [nFin_ne (by omega)]
      exact D.an e i e0 e1 i0 i1 hs
    · intro e i e0 e1 i0 i1 hs
      rw [mFin_ne (by omega)] at e1 i1
      rw [nFin_ne (by omega), mFin_ne (by omega)]
      by_cases y : 100 + 4 * e + i = it
      · rw [y, mFin_1 b0] at hs
        exact w3 hs e i e0 e1 i0 i1 y.symm
      · rw [mFin_ne (by omega)] at hs
        exact D.ho e i e0 e1 i0 i1 hs
    · exact D.ur
    · exact D.u
    · rw [nFin_ne (by omega)]
      rw [mFin_ne (by omega)]
      exact D.uc
    · intro p p0 hs
      by_cases y : gm 5 p / 1000 = it
      · rw [y, mFin_1 b0] at hs
        omega
      · rw [mFin_ne (by omega)] at hs
        exact D.uz p p0 hs
  · rw [nFin_ne (by omega), mFin_ne (by omega)]; exact k.cc
  · rw [mFin_ne (by omega)]; exact k.cc0
  · rw [mFin_ne (by omega)]; exact k.cc1
  · rw [mFin_ne (by omega)] at j1
    rw [nFin_ne (by omega), mFin_ne (by omega)]; exact k.ck j j0 j1
  · rw [mFin_ne (by omega)] at j1
    rw [nFin_ne (by omega), mFin_ne (by omega)]; exact k.ci j j0 j1
  · rw [nFin_ne (by omega), mFin_ne (by omega)]; exact h.fl
  · rw [mFin_ne (by omega)]; exact h.f01
  · rw [nFin_0 b0, mFin_0 b0]
  · rw [mFin_0 b0]; omega
  · rw [mFin_0 b0]; omega
  · rw [mFin_0 b0] at j1
    rw [nFin_ne (by omega), mFin_ne (by omega)]; exact h.uw j j0 (by omega)
  · rw [nFin_ne (by omega)]; exact h.tp0
  · rw [nFin_ne (by omega)]; exact h.tp1
  · rw [mFin_ne (by omega), mFin_ne (by omega), mFin_0 b0]
    intro e
    have := h.fc e
    omega
theorem EvI.aro {c : Int → Int} {b : Int} {N M gm : Mem} {U : Int → Int} {it : Int} (h : EvI c N M gm U b) (hf : M 0 65 = 1) (ff : M 0 68 + M 0 64 ≤ 12) : EvI c (nAro N (M 0 68) it) (mAro M (M 0 68) it) gm U b := by
  have k := h.wk
  have c0 := k.cc0
  have d0 := h.dp0
  refine h.wch (fun L j hL => nAro_ne (by omega)) (fun k j hk => by unfold bkk at hk; exact mAro_ne (by omega)) (mAro_ne (by omega)) (k.ch (fun L j _ _ _ => nAro_ne (by omega)) (nAro_ne (by omega)) (nAro_ne (by omega)) (nAro_ne (by omega)) (nAro_ne (by omega)) ?_ ?_ ?_ (fun j j0 j1 => ?_) (fun j j0 j1 => ?_)) (nAro_ne (by omega)) (mAro_ne (by omega)) ?_ ?_ ?_ ?_ ?_ (fun j j0 j1 => ?_) ?_ ?_ ?_
  · rw [nAro_2, mAro_2]
  · rw [mAro_2]; omega
  · rw [mAro_2]; omega
  · rw [mAro_2] at j1
    by_cases e : j = M 0 68
    · rw [e, nAro_0, mAro_0]
    · rw [nAro_ne (by omega), mAro_ne (by omega)]; exact k.ck j j0 (by omega)
  · rw [mAro_2] at j1
    by_cases e : j = M 0 68
    · rw [e, nAro_1, mAro_1]
    · rw [nAro_ne (by omega), mAro_ne (by omega)]; exact k.ci j j0 (by omega)
  · rw [nAro_ne (by omega), mAro_ne (by omega)]; exact h.fl
  · rw [mAro_ne (by omega)]; exact h.f01
  · rw [nAro_ne (by omega), mAro_ne (by omega)]; exact h.dp
  · rw [mAro_ne (by omega)]; exact h.dp0
  · rw [mAro_ne (by omega)]; exact h.dp1
  · rw [mAro_ne (by omega)] at j1
    rw [nAro_ne (by omega), mAro_ne (by omega)]; exact h.uw j j0 j1
  · rw [nAro_ne (by omega)]; exact h.tp0
  · rw [nAro_ne (by omega)]; exact h.tp1
  · rw [mAro_2, mAro_ne (by omega), mAro_ne (by omega)]
    intro _
    omega
theorem EvI.see {c : Int → Int} {b : Int} {N M gm : Mem} {U : Int → Int} {p y x : Int} (h : EvI c N M gm U b) (p0 : 0 ≤ p) (p1 : p < N (128 * b + 20) 2) (u : U p = 0) (hs : M 52 (160 * b + gm 5 p / 1000) ≠ 0) : M 62 b < N (128 * b + 20) 2 ∧ EvI c (nSee N b (M 62 b) y x) (mSee M b (M 62 b) y x) gm (fun q => if q = p then 1 else U q) b := by
  have D := h.bd
  have b0 := h.b0
  have s0 := h.bh.bk.nz0
  have uc := D.uc
  have s1 : M 62 b < N (128 * b + 20) 2 := by
    have := cnt_lt (f := U) (p := p) (n := (N (128 * b + 20) 2).toNat) p0 u (by omega)
    omega
  refine ⟨s1, ?_⟩
  refine h.sch ?_ ?_ (fun L j hL => nSee_ne (by unfold stT at hL; omega)) (fun k j hk => mSee_ne (by omega)) (fun L j hL => nSee_ne (by omega)) (fun j => mSee_ne (by omega)) (fun k j hk => mSee_ne (by omega))
  ·
    have q := h.bh.bk
    refine ⟨?_, fun e' e0 e1 => ?_⟩
    ·
      refine ⟨?_, ?_, ?_, ?_, ?_, ?_, ?_, ?_, ?_, ?_, ?_, ?_, ?_, ?_, ?_, ?_, ?_, ?_, ?_, ?_, ?_, ?_, ?_, ?_, ?_, ?_, ?_, ?_, ?_, ?_, ?_, ?_, ?_, ?_, ?_, ?_, ?_, ?_, ?_, ?_, ?_, ?_, ?_, ?_, ?_⟩
      · have w := q.i0
        try simp (disch := omega) only [nSee_ne, mSee_ne]
        exact w
      · have w := q.r
        try simp (disch := omega) only [nSee_ne, mSee_ne]
        exact w
      · have w := q.g1
        try simp (disch := omega) only [nSee_ne, mSee_ne]
        exact w
      · have w := q.r0
        try simp (disch := omega) only [nSee_ne, mSee_ne]
        exact w
      · have w := q.g2
        try simp (disch := omega) only [nSee_ne, mSee_ne]
        exact w
      · have w := q.n2
        try simp (disch := omega) only [nSee_ne, mSee_ne]
        exact w
      · have w := q.ne
        try simp (disch := omega) only [nSee_ne, mSee_ne]
        exact w
      · have w := q.ne0
        try simp (disch := omega) only [nSee_ne, mSee_ne]
        exact w
      · have w := q.ne1
        try simp (disch := omega) only [nSee_ne, mSee_ne]
        exact w
      · have w := q.na
        try simp (disch := omega) only [nSee_ne, mSee_ne]
        exact w
      · have w := q.na0
        try simp (disch := omega) only [nSee_ne, mSee_ne]
        exact w
      · have w := q.na1
        try simp (disch := omega) only [nSee_ne, mSee_ne]
        exact w
      · have w := q.r3
        try simp (disch := omega) only [nSee_ne, mSee_ne]
        exact w
      · have w := q.g20
        try simp (disch := omega) only [nSee_ne, mSee_ne]
        exact w
      · have w := q.r20
        try simp (disch := omega) only [nSee_ne, mSee_ne]
        exact w
      · have w := q.r21
        try simp (disch := omega) only [nSee_ne, mSee_ne]
        exact w
      · have w := q.g21
        try simp (disch := omega) only [nSee_ne, mSee_ne]
        exact w
      · have w := q.n21
        try simp (disch := omega) only [nSee_ne, mSee_ne]
        exact w
      · have w := q.g22
        try simp (disch := omega) only [nSee_ne, mSee_ne]
        exact w
      · have w := q.n22
        try simp (disch := omega) only [nSee_ne, mSee_ne]
        exact w
      · have w := q.cl0
        try simp (disch := omega) only [nSee_ne, mSee_ne]
        exact w
      · have w := q.cl1
        try simp (disch := omega) only [nSee_ne, mSee_ne]
        exact w
      · have w := q.r4
        try simp (disch := omega) only [nSee_ne, mSee_ne]
        exact w
      · have w := q.g23
        try simp (disch := omega) only [nSee_ne, mSee_ne]
        exact w
      · have w := q.n23
        try simp (disch := omega) only [nSee_ne, mSee_ne]
        exact w
      · have w := q.r5
        try simp (disch := omega) only [nSee_ne, mSee_ne]
        exact w
      · have w := q.g24
        try simp (disch := omega) only [nSee_ne, mSee_ne]
        exact w
      · have w := q.n24
        try simp (disch := omega) only [nSee_ne, mSee_ne]
        exact w
      · have w := q.r7
        try simp (disch := omega) only [nSee_ne, mSee_ne]
        exact w
      · have w := q.g25
        try simp (disch := omega) only [nSee_ne, mSee_ne]
        exact w
      · have w := q.n25
        try simp (disch := omega) only [nSee_ne, mSee_ne]
        exact w
      · have w := q.r8
        try simp (disch := omega) only [nSee_ne, mSee_ne]
        exact w
      · have w := q.g26
        try simp (disch := omega) only [nSee_ne, mSee_ne]
        exact w
      · have w := q.n26
        try simp (disch := omega) only [nSee_ne, mSee_ne]
        exact w
      · have w := q.st
        try simp (disch := omega) only [nSee_ne, mSee_ne]
        exact w
      · have w := q.nt
        try simp (disch := omega) only [nSee_ne, mSee_ne]
        exact w
      · have w := q.nt0
        try simp (disch := omega) only [nSee_ne, mSee_ne]
        exact w
      · have w := q.nt1
        try simp (disch := omega) only [nSee_ne, mSee_ne]
        exact w
      · have w := q.ts
        try simp (disch := omega) only [nSee_ne, mSee_ne]
        exact w
      · rw [nSee_2, mSee_2]
      · rw [mSee_2]; omega
      · rw [mSee_2, nSee_ne (by omega)]; omega
      · intro i i0 i1
        rw [mSee_2] at i1
        by_cases e : i = M 62 b
        · rw [e, nSee_0, mSee_0]
        · rw [nSee_ne (by omega), mSee_ne (by omega)]
          exact q.zb i i0 (by omega)
      · intro i i0 i1
        rw [mSee_2] at i1
        by_cases e : i = M 62 b
        · rw [e, nSee_1, mSee_1]
        · rw [nSee_ne (by omega), mSee_ne (by omega)]
          exact q.zo i i0 (by omega)
      · have w := q.re
        try simp (disch := omega) only [nSee_ne, mSee_ne]
        exact w
    · rw [mSee_ne (by omega)] at e1
      have k := h.bh.be e0 e1
      refine ⟨?_, fun i' i0 i1 => ?_, fun i' i0 i1 => ?_, fun i' i0 i1 => ?_⟩
      · apply Ren.fr (k.en) <;> intros <;> first | rfl | exact nSee_ne (by omega) | exact mSee_ne (by omega) | exact funext fun _ => mSee_ne (by omega)
      · rw [mSee_ne (by omega)] at i1
        apply Rcn.fr (k.cn i0 i1) <;> intros <;> first | rfl | exact nSee_ne (by omega) | exact mSee_ne (by omega) | exact funext fun _ => mSee_ne (by omega)
      · rw [mSee_ne (by omega)] at i1
        apply Rtb.fr (k.tb i0 i1) <;> intros <;> first | rfl | exact nSee_ne (by omega) | exact mSee_ne (by omega) | exact funext fun _ => mSee_ne (by omega)
      · rw [mSee_ne (by omega)] at i1
        apply Rsw.fr (k.sw i0 i1) <;> intros <;> first | rfl | exact nSee_ne (by omega) | exact mSee_ne (by omega) | exact funext fun _ => mSee_ne (by omega)
  ·
    refine ⟨?_, ?_, ?_, ?_, ?_, ?_, ?_, ?_, ?_, ?_, ?_, ?_, ?_, ?_, ?_⟩
    · intro i i0 i1
      rw [mSee_ne (by omega)]
      exact D.s0 i i0 i1
    · intro i i0 i1
      rw [mSee_ne (by omega)]
      exact D.s3 i i0 i1
    · intro i i0 i1
      rw [mSee_ne (by omega)]
      exact D.sz i i0 i1
    · rw [mSee_ne (by omega)]
      refine D.sc.trans (cnt_congr 148 (fun i i0 i1 => ?_))
      rw [mSee_ne (by omega)]
    · intro e e0 e1 hs
      rw [mSee_ne (by omega)] at e1 hs
      rw [mSee_ne (by omega), mSee_ne (by omega)]
      exact D.wc e e0 e1 hs
    · intro e t e0 e1 hs t0 t1
      rw [mSee_ne (by omega)] at e1 hs t1
      rw [mSee_ne (by omega), mSee_ne (by omega)]
      exact D.wt e t e0 e1 hs t0 t1
    · intro e e0 e1 hs
      rw [mSee_ne (by omega)] at e1 hs
      rw [mSee_ne (by omega)]
      exact D.zc e e0 e1 hs
    · intro e t e0 e1 hs t0 t1
      rw [mSee_ne (by omega)] at e1 hs t1
      rw [mSee_ne (by omega)]
      exact D.zt e t e0 e1 hs t0 t1
    · intro e i e0 e1 i0 i1
      rw [mSee_ne (by omega)] at e1 i1
      rw [nSee_ne (by omega)]
      rw [mSee_ne (by omega)]
      exact D.ar e i e0 e1 i0 i1
    · intro e i e0 e1 i0 i1 hs
      rw [mSee_ne (by omega)] at e1 i1 hs
      rw [nSee_ne (by omega)]
      exact D.an e i e0 e1 i0 i1 hs
    · intro e i e0 e1 i0 i1 hs
      rw [mSee_ne (by omega)] at e1 i1 hs
      rw [nSee_ne (by omega)]
      rw [mSee_ne (by omega)]
      exact D.ho e i e0 e1 i0 i1 hs
    · exact D.ur
    · intro q
      by_cases e : q = p
      · simp [e]
      · simp [e, D.u q]
    · rw [mSee_2, nSee_ne (by omega), cnt_set (f := U) (p := p) p0 u (by simp) (fun i e => by simp [e]) _ (by omega)]
      omega
    · intro q q0 hz
      rw [mSee_ne (by omega)] at hz
      by_cases e : q = p
      · rw [e] at hz
        exact absurd hz hs
      · simp only [if_neg e]
        exact D.uz q q0 hz
theorem EvI.con {c : Int → Int} {b : Int} {N M gm : Mem} {U : Int → Int} {e i v : Int} (h : EvI c N M gm U b) (e0' : 0 ≤ e) (e1' : e < M 10 b) (i0' : 0 ≤ i) (i1' : i < M 14 (12 * b + e)) (z : M 52 (160 * b + e) = 3) (mi : M 53 (12 * b + e) = i) (a1 : M 21 (24 * (12 * b + e) + i) ≠ -1) : EvI c (nCon N (12 * b + e) i v) (mCon M (12 * b + e) i v) gm U b := by
  have D := h.bd
  have b0 := h.b0
  have ne1 := h.bh.bk.ne1
  have nc1 := (h.bh.be e0' e1').en.nc1
  refine h.sch ?_ ?_ (fun L j hL => nCon_ne (by unfold stT at hL; omega)) (fun k j hk => mCon_ne (by omega)) (fun L j hL => nCon_ne (by omega)) (fun j => mCon_ne (by omega)) (fun k j hk => mCon_ne (by omega))
  ·
    have q := h.bh.bk
    refine ⟨?_, fun e' e0 e1 => ?_⟩
    · apply Rbk.fr q <;> intros <;> first | rfl | exact nCon_ne (by omega) | exact mCon_ne (by omega) | exact funext fun _ => mCon_ne (by omega)
    · rw [mCon_ne (by omega)] at e1
      have k := h.bh.be e0 e1
      refine ⟨?_, fun i' i0 i1 => ?_, fun i' i0 i1 => ?_, fun i' i0 i1 => ?_⟩
      · have w0 := k.en
        by_cases y : e' = e
        ·
          refine ⟨?_, ?_, ?_, ?_, ?_, ?_, ?_, ?_, ?_, ?_, ?_, ?_, ?_, ?_, ?_, ?_, ?_, ?_, ?_, ?_, ?_, ?_, ?_, ?_, ?_, ?_, ?_, ?_, ?_, ?_, ?_, ?_, ?_, ?_, ?_, ?_, ?_, ?_, ?_, ?_, ?_, ?_, ?_, ?_, ?_, ?_, ?_, ?_⟩
          · have w := w0.g3
            try simp (disch := omega) only [nCon_ne, mCon_ne]
            exact w
          · have w := w0.r3
            try simp (disch := omega) only [nCon_ne, mCon_ne]
            exact w
          · have w := w0.g4
            try simp (disch := omega) only [nCon_ne, mCon_ne]
            exact w
          · have w := w0.n4
            try simp (disch := omega) only [nCon_ne, mCon_ne]
            exact w
          · have w := w0.r6
            try simp (disch := omega) only [nCon_ne, mCon_ne]
            exact w
          · have w := w0.g7
            try simp (disch := omega) only [nCon_ne, mCon_ne]
            exact w
          · have w := w0.n7
            try simp (disch := omega) only [nCon_ne, mCon_ne]
            exact w
          · have w := w0.r7
            try simp (disch := omega) only [nCon_ne, mCon_ne]
            exact w
          · have w := w0.g8
            try simp (disch := omega) only [nCon_ne, mCon_ne]
            exact w
          · have w := w0.n8
            try simp (disch := omega) only [nCon_ne, mCon_ne]
            exact w
          · have w := w0.r9
            try simp (disch := omega) only [nCon_ne, mCon_ne]
            exact w
          · have w := w0.g12
            try simp (disch := omega) only [nCon_ne, mCon_ne]
            exact w
          · have w := w0.n12
            try simp (disch := omega) only [nCon_ne, mCon_ne]
            exact w
          · have w := w0.r11
            try simp (disch := omega) only [nCon_ne, mCon_ne]
            exact w
          · have w := w0.g13
            try simp (disch := omega) only [nCon_ne, mCon_ne]
            exact w
          · have w := w0.n13
            try simp (disch := omega) only [nCon_ne, mCon_ne]
            exact w
          · have w := w0.r12
            try simp (disch := omega) only [nCon_ne, mCon_ne]
            exact w
          · have w := w0.g14
            try simp (disch := omega) only [nCon_ne, mCon_ne]
            exact w
          · have w := w0.n14
            try simp (disch := omega) only [nCon_ne, mCon_ne]
            exact w
          · have w := w0.r13
            try simp (disch := omega) only [nCon_ne, mCon_ne]
            exact w
          · have w := w0.g15
            try simp (disch := omega) only [nCon_ne, mCon_ne]
            exact w
          · have w := w0.n15
            try simp (disch := omega) only [nCon_ne, mCon_ne]
            exact w
          · have w := w0.r15
            try simp (disch := omega) only [nCon_ne, mCon_ne]
            exact w
          · have w := w0.g16
            try simp (disch := omega) only [nCon_ne, mCon_ne]
            exact w
          · have w := w0.n16
            try simp (disch := omega) only [nCon_ne, mCon_ne]
            exact w
          · have w := w0.nm
            try simp (disch := omega) only [nCon_ne, mCon_ne]
            exact w
          · have w := w0.nc
            try simp (disch := omega) only [nCon_ne, mCon_ne]
            exact w
          · have w := w0.nc0
            try simp (disch := omega) only [nCon_ne, mCon_ne]
            exact w
          · have w := w0.nc1
            try simp (disch := omega) only [nCon_ne, mCon_ne]
            exact w
          · have w := w0.nt
            try simp (disch := omega) only [nCon_ne, mCon_ne]
            exact w
          · have w := w0.nt0
            try simp (disch := omega) only [nCon_ne, mCon_ne]
            exact w
          · have w := w0.nt1
            try simp (disch := omega) only [nCon_ne, mCon_ne]
            exact w
          · have w := w0.nk
            try simp (disch := omega) only [nCon_ne, mCon_ne]
            exact w
          · have w := w0.nk0
            try simp (disch := omega) only [nCon_ne, mCon_ne]
            exact w
          · have w := w0.nk1
            try simp (disch := omega) only [nCon_ne, mCon_ne]
            exact w
          · have w := w0.nh
            try simp (disch := omega) only [nCon_ne, mCon_ne]
            exact w
          · have w := w0.nh0
            try simp (disch := omega) only [nCon_ne, mCon_ne]
            exact w
          · have w := w0.nh1
            try simp (disch := omega) only [nCon_ne, mCon_ne]
            exact w
          · have w := w0.nw
            try simp (disch := omega) only [nCon_ne, mCon_ne]
            exact w
          · have w := w0.nw0
            try simp (disch := omega) only [nCon_ne, mCon_ne]
            exact w
          · have w := w0.nw1
            try simp (disch := omega) only [nCon_ne, mCon_ne]
            exact w
          · have w := w0.bd
            try simp (disch := omega) only [nCon_ne, mCon_ne]
            exact w
          · subst y
            rw [nCon_1, mCon_1]
          · subst y
            rw [mCon_1]; omega
          · subst y
            rw [mCon_1, mCon_ne (by omega)]; omega
          · have w := w0.rc
            try simp (disch := omega) only [nCon_ne, mCon_ne]
            exact w
          · have w := w0.rt
            try simp (disch := omega) only [nCon_ne, mCon_ne]
            exact w
          · have w := w0.rs
            try simp (disch := omega) only [nCon_ne, mCon_ne]
            exact w
        · apply Ren.fr w0 <;> intros <;> first | rfl | exact nCon_ne (by omega) | exact mCon_ne (by omega) | exact funext fun _ => mCon_ne (by omega)
      · rw [mCon_ne (by omega)] at i1
        have w0 := k.cn i0 i1
        by_cases y : 24 * (12 * b + e') + i' = 24 * (12 * b + e) + i
        ·
          refine ⟨?_, ?_, ?_, ?_, ?_, ?_, ?_⟩
          · have w := w0.g5
            try simp (disch := omega) only [nCon_ne, mCon_ne]
            exact w
          · have w := w0.r3
            try simp (disch := omega) only [nCon_ne, mCon_ne]
            exact w
          · have w := w0.g6
            try simp (disch := omega) only [nCon_ne, mCon_ne]
            exact w
          · have w := w0.n6
            try simp (disch := omega) only [nCon_ne, mCon_ne]
            exact w
          · have w := w0.nm
            try simp (disch := omega) only [nCon_ne, mCon_ne]
            exact w
          · have w := w0.bd
            try simp (disch := omega) only [nCon_ne, mCon_ne]
            exact w
          · have w := w0.ar
            try simp (disch := omega) only [nCon_ne, mCon_ne]
            exact w
        · apply Rcn.fr w0 <;> intros <;> first | rfl | exact nCon_ne (by omega) | exact mCon_ne (by omega) | exact funext fun _ => mCon_ne (by omega)
      · rw [mCon_ne (by omega)] at i1
        apply Rtb.fr (k.tb i0 i1) <;> intros <;> first | rfl | exact nCon_ne (by omega) | exact mCon_ne (by omega) | exact funext fun _ => mCon_ne (by omega)
      · rw [mCon_ne (by omega)] at i1
        apply Rsw.fr (k.sw i0 i1) <;> intros <;> first | rfl | exact nCon_ne (by omega) | exact mCon_ne (by omega) | exact funext fun _ => mCon_ne (by omega)
  ·
    refine ⟨?_, ?_, ?_, ?_, ?_, ?_, ?_, ?_, ?_, ?_, ?_, ?_, ?_, ?_, ?_⟩
    · intro i i0 i1
      rw [mCon_ne (by omega)]
      exact D.s0 i i0 i1
    · intro i i0 i1
      rw [mCon_ne (by omega)]
      exact D.s3 i i0 i1
    · intro i i0 i1
      rw [mCon_ne (by omega)]
      exact D.sz i i0 i1
    · rw [mCon_ne (by omega)]
      refine D.sc.trans (cnt_congr 148 (fun i i0 i1 => ?_))
      rw [mCon_ne (by omega)]
    · intro e' e0 e1 hs
      rw [mCon_ne (by omega)] at e1 hs
      by_cases y : e' = e
      · subst y
        omega
      · rw [mCon_ne (by omega), mCon_ne (by omega)]
        exact D.wc e' e0 e1 hs
    · intro e t e0 e1 hs t0 t1
      rw [mCon_ne (by omega)] at e1 hs t1
      rw [mCon_ne (by omega), mCon_ne (by omega)]
      exact D.wt e t e0 e1 hs t0 t1
    · intro e' e0 e1 hs
      rw [mCon_ne (by omega)] at e1 hs
      by_cases y : e' = e
      · subst y
        omega
      · rw [mCon_ne (by omega)]
        exact D.zc e' e0 e1 hs
    · intro e t e0 e1 hs t0 t1
      rw [mCon_ne (by omega)] at e1 hs t1
      rw [mCon_ne (by omega)]
      exact D.zt e t e0 e1 hs t0 t1
    · intro e' i' e0 e1 i0 i1
      rw [mCon_ne (by omega)] at e1
      have nc := (h.bh.be e0 e1).en.nc1
      have md := (h.bh.be e0 e1).en.md1
      by_cases y : e' = e
      · subst y
        rw [mCon_1] at i1
        by_cases y2 : i' = i
        · subst y2
          rw [nCon_0, mCon_0]
        · rw [nCon_ne (by omega), mCon_ne (by omega)]
          exact D.ar e' i' e0 e1 i0 (by omega)
      · rw [mCon_ne (by omega)] at i1
        rw [nCon_ne (by omega), mCon_ne (by omega)]
        exact D.ar e' i' e0 e1 i0 i1
    · intro e' i' e0 e1 i0 i1 hs
      rw [mCon_ne (by omega)] at e1 i1 hs
      have nc := (h.bh.be e0 e1).en.nc1
      by_cases y : e' = e ∧ i' = i
      · obtain ⟨rfl, rfl⟩ := y
        exact absurd hs a1
      · rw [nCon_ne (by omega)]
        exact D.an e' i' e0 e1 i0 i1 hs
    · intro e i e0 e1 i0 i1 hs
      rw [mCon_ne (by omega)] at e1 i1 hs
      rw [nCon_ne (by omega)]
      rw [mCon_ne (by omega)]
      exact D.ho e i e0 e1 i0 i1 hs
    · exact D.ur
    · exact D.u
    · rw [nCon_ne (by omega)]
      rw [mCon_ne (by omega)]
      exact D.uc
    · intro p p0 hs
      rw [mCon_ne (by omega)] at hs
      exact D.uz p p0 hs
theorem EvI.co0 {c : Int → Int} {b : Int} {N M gm : Mem} {U : Int → Int} {e i : Int} (h : EvI c N M gm U b) (e0' : 0 ≤ e) (e1' : e < M 10 b) (i0' : 0 ≤ i) (i1' : i < M 14 (12 * b + e)) (z : M 52 (160 * b + e) = 3) (mi : M 53 (12 * b + e) = i) (a1 : M 21 (24 * (12 * b + e) + i) = -1) : EvI c (nCo0 N (12 * b + e) i) (mCon M (12 * b + e) i 0) gm U b := by
  have D := h.bd
  have b0 := h.b0
  have ne1 := h.bh.bk.ne1
  have nc1 := (h.bh.be e0' e1').en.nc1
  refine h.sch ?_ ?_ (fun L j hL => nCo0_ne (by unfold stT at hL; omega)) (fun k j hk => mCon_ne (by omega)) (fun L j hL => nCo0_ne (by omega)) (fun j => mCon_ne (by omega)) (fun k j hk => mCon_ne (by omega))
  ·
    have q := h.bh.bk
    refine ⟨?_, fun e' e0 e1 => ?_⟩
    · apply Rbk.fr q <;> intros <;> first | rfl | exact nCo0_ne (by omega) | exact mCon_ne (by omega) | exact funext fun _ => mCon_ne (by omega)
    · rw [mCon_ne (by omega)] at e1
      have k := h.bh.be e0 e1
      refine ⟨?_, fun i' i0 i1 => ?_, fun i' i0 i1 => ?_, fun i' i0 i1 => ?_⟩
      · have w0 := k.en
        by_cases y : e' = e
        ·
          refine ⟨?_, ?_, ?_, ?_, ?_, ?_, ?_, ?_, ?_, ?_, ?_, ?_, ?_, ?_, ?_, ?_, ?_, ?_, ?_, ?_, ?_, ?_, ?_, ?_, ?_, ?_, ?_, ?_, ?_, ?_, ?_, ?_, ?_, ?_, ?_, ?_, ?_, ?_, ?_, ?_, ?_, ?_, ?_, ?_, ?_, ?_, ?_, ?_⟩
          · have w := w0.g3
            try simp (disch := omega) only [nCo0_ne, mCon_ne]
            exact w
          · have w := w0.r3
            try simp (disch := omega) only [nCo0_ne, mCon_ne]
            exact w
          · have w := w0.g4
            try simp (disch := omega) only [nCo0_ne, mCon_ne]
            exact w
          · have w := w0.n4
            try simp (disch := omega) only [nCo0_ne, mCon_ne]
            exact w
          · have w := w0.r6
            try simp (disch := omega) only [nCo0_ne, mCon_ne]
            exact w
          · have w := w0.g7
            try simp (disch := omega) only [nCo0_ne, mCon_ne]
            exact w
          · have w := w0.n7
            try simp (disch := omega) only [nCo0_ne, mCon_ne]
            exact w
          · have w := w0.r7
            try simp (disch := omega) only [nCo0_ne, mCon_ne]
            exact w
          · have w := w0.g8
            try simp (disch := omega) only [nCo0_ne, mCon_ne]
            exact w
          · have w := w0.n8
            try simp (disch := omega) only [nCo0_ne, mCon_ne]
            exact w
          · have w := w0.r9
            try simp (disch := omega) only [nCo0_ne, mCon_ne]
            exact w
          · have w := w0.g12
            try simp (disch := omega) only [nCo0_ne, mCon_ne]
            exact w
          · have w := w0.n12
            try simp (disch := omega) only [nCo0_ne, mCon_ne]
            exact w
          · have w := w0.r11
            try simp (disch := omega) only [nCo0_ne, mCon_ne]
            exact w
          · have w := w0.g13
            try simp (disch := omega) only [nCo0_ne, mCon_ne]
            exact w
          · have w := w0.n13
            try simp (disch := omega) only [nCo0_ne, mCon_ne]
            exact w
          · have w := w0.r12
            try simp (disch := omega) only [nCo0_ne, mCon_ne]
            exact w
          · have w := w0.g14
            try simp (disch := omega) only [nCo0_ne, mCon_ne]
            exact w
          · have w := w0.n14
            try simp (disch := omega) only [nCo0_ne, mCon_ne]
            exact w
          · have w := w0.r13
            try simp (disch := omega) only [nCo0_ne, mCon_ne]
            exact w
          · have w := w0.g15
            try simp (disch := omega) only [nCo0_ne, mCon_ne]
            exact w
          · have w := w0.n15
            try simp (disch := omega) only [nCo0_ne, mCon_ne]
            exact w
          · have w := w0.r15
            try simp (disch := omega) only [nCo0_ne, mCon_ne]
            exact w
          · have w := w0.g16
            try simp (disch := omega) only [nCo0_ne, mCon_ne]
            exact w
          · have w := w0.n16
            try simp (disch := omega) only [nCo0_ne, mCon_ne]
            exact w
          · have w := w0.nm
            try simp (disch := omega) only [nCo0_ne, mCon_ne]
            exact w
          · have w := w0.nc
            try simp (disch := omega) only [nCo0_ne, mCon_ne]
            exact w
          · have w := w0.nc0
            try simp (disch := omega) only [nCo0_ne, mCon_ne]
            exact w
          · have w := w0.nc1
            try simp (disch := omega) only [nCo0_ne, mCon_ne]
            exact w
          · have w := w0.nt
            try simp (disch := omega) only [nCo0_ne, mCon_ne]
            exact w
          · have w := w0.nt0
            try simp (disch := omega) only [nCo0_ne, mCon_ne]
            exact w
          · have w := w0.nt1
            try simp (disch := omega) only [nCo0_ne, mCon_ne]
            exact w
          · have w := w0.nk
            try simp (disch := omega) only [nCo0_ne, mCon_ne]
            exact w
          · have w := w0.nk0
            try simp (disch := omega) only [nCo0_ne, mCon_ne]
            exact w
          · have w := w0.nk1
            try simp (disch := omega) only [nCo0_ne, mCon_ne]
            exact w
          · have w := w0.nh
            try simp (disch := omega) only [nCo0_ne, mCon_ne]
            exact w
          · have w := w0.nh0
            try simp (disch := omega) only [nCo0_ne, mCon_ne]
            exact w
          · have w := w0.nh1
            try simp (disch := omega) only [nCo0_ne, mCon_ne]
            exact w
          · have w := w0.nw
            try simp (disch := omega) only [nCo0_ne, mCon_ne]
            exact w
          · have w := w0.nw0
            try simp (disch := omega) only [nCo0_ne, mCon_ne]
            exact w
          · have w := w0.nw1
            try simp (disch := omega) only [nCo0_ne, mCon_ne]
            exact w
          · have w := w0.bd
            try simp (disch := omega) only [nCo0_ne, mCon_ne]
            exact w
          · subst y
            rw [nCo0_0, mCon_1]
          · subst y
            rw [mCon_1]; omega
          · subst y
            rw [mCon_1, mCon_ne (by omega)]; omega
          · have w := w0.rc
            try simp (disch := omega) only [nCo0_ne, mCon_ne]
            exact w
          · have w := w0.rt
            try simp (disch := omega) only [nCo0_ne, mCon_ne]
            exact w
          · have w := w0.rs
            try simp (disch := omega) only [nCo0_ne, mCon_ne]
            exact w
        · apply Ren.fr w0 <;> intros <;> first | rfl | exact nCo0_ne (by omega) | exact mCon_ne (by omega) | exact funext fun _ => mCon_ne (by omega)
      · rw [mCon_ne (by omega)] at i1
        apply Rcn.fr (k.cn i0 i1) <;> intros <;> first | rfl | exact nCo0_ne (by omega) | exact mCon_ne (by omega) | exact funext fun _ => mCon_ne (by omega)
      · rw [mCon_ne (by omega)] at i1
        apply Rtb.fr (k.tb i0 i1) <;> intros <;> first | rfl | exact nCo0_ne (by omega) | exact mCon_ne (by omega) | exact funext fun _ => mCon_ne (by omega)
      · rw [mCon_ne (by omega)] at i1
        apply Rsw.fr (k.sw i0 i1) <;> intros <;> first | rfl | exact nCo0_ne (by omega) | exact mCon_ne (by omega) | exact funext fun _ => mCon_ne (by omega)
  ·
    refine ⟨?_, ?_, ?_, ?_, ?_, ?_, ?_, ?_, ?_, ?_, ?_, ?_, ?_, ?_, ?_⟩
    · intro i i0 i1
      rw [mCon_ne (by omega)]
      exact D.s0 i i0 i1
    · intro i i0 i1
      rw [mCon_ne (by omega)]
      exact D.s3 i i0 i1
    · intro i i0 i1
      rw [mCon_ne (by omega)]
      exact D.sz i i0 i1
    · rw [mCon_ne (by omega)]
      refine D.sc.trans (cnt_congr 148 (fun i i0 i1 => ?_))
      rw [mCon_ne (by omega)]
    · intro e' e0 e1 hs
      rw [mCon_ne (by omega)] at e1 hs
      by_cases y : e' = e
      · subst y
        omega
      · rw [mCon_ne (by omega), mCon_ne (by omega)]
        exact D.wc e' e0 e1 hs
    · intro e t e0 e1 hs t0 t1
      rw [mCon_ne (by omega)] at e1 hs t1
      rw [mCon_ne (by omega), mCon_ne (by omega)]
      exact D.wt e t e0 e1 hs t0 t1
    · intro e' e0 e1 hs
      rw [mCon_ne (by omega)] at e1 hs
      by_cases y : e' = e
      · subst y
        omega
      · rw [mCon_ne (by omega)]
        exact D.zc e' e0 e1 hs
    · intro e t e0 e1 hs t0 t1
      rw [mCon_ne (by omega)] at e1 hs t1
      rw [mCon_ne (by omega)]
      exact D.zt e t e0 e1 hs t0 t1
    · intro e' i' e0 e1 i0 i1
      rw [mCon_ne (by omega)] at e1
      have nc := (h.bh.be e0 e1).en.nc1
      have md := (h.bh.be e0 e1).en.md1
      by_cases y : e' = e
      · subst y
        rw [mCon_1] at i1
        by_cases y2 : i' = i
        · subst y2
          rw [nCo0_ne (by omega), mCon_0]
          exact D.an e' i' e0 e1 i0 i1' a1
        · rw [nCo0_ne (by omega), mCon_ne (by omega)]
          exact D.ar e' i' e0 e1 i0 (by omega)
      · rw [mCon_ne (by omega)] at i1
        rw [nCo0_ne (by omega), mCon_ne (by omega)]
        exact D.ar e' i' e0 e1 i0 i1
    · intro e' i' e0 e1 i0 i1 hs
      rw [mCon_ne (by omega)] at e1 i1 hs
      rw [nCo0_ne (by omega)]
      exact D.an e' i' e0 e1 i0 i1 hs
    · intro e i e0 e1 i0 i1 hs
      rw [mCon_ne (by omega)] at e1 i1 hs
      rw [nCo0_ne (by omega)]
      rw [mCon_ne (by omega)]
      exact D.ho e i e0 e1 i0 i1 hs
    · exact D.ur
    · exact D.u
    · rw [nCo0_ne (by omega)]
      rw [mCon_ne (by omega)]
      exact D.uc
    · intro p p0 hs
      rw [mCon_ne (by omega)] at hs
      exact D.uz p p0 hs
theorem EvI.coF {c : Int → Int} {b : Int} {N M gm : Mem} {U : Int → Int} {e i v : Int} (h : EvI c N M gm U b) (e0' : 0 ≤ e) (e1' : e < M 10 b) (i0' : 0 ≤ i) (i1' : i < M 14 (12 * b + e)) (mi : M 53 (12 * b + e) = i) (a1 : M 21 (24 * (12 * b + e) + i) ≠ -1) : EvI c (nCoF N (12 * b + e) i v) M gm U b := by
  have D := h.bd
  have b0 := h.b0
  have ne1 := h.bh.bk.ne1
  have nc1 := (h.bh.be e0' e1').en.nc1
  refine h.sch ?_ ?_ (fun L j hL => nCoF_ne (by unfold stT at hL; omega)) (fun k j hk => rfl) (fun L j hL => nCoF_ne (by omega)) (fun j => rfl) (fun k j hk => rfl)
  ·
    have q := h.bh.bk
    refine ⟨?_, fun e' e0 e1 => ?_⟩
    · apply Rbk.fr q <;> intros <;> first | rfl | exact nCoF_ne (by omega) | rfl | rfl
    · have k := h.bh.be e0 e1
      refine ⟨?_, fun i' i0 i1 => ?_, fun i' i0 i1 => ?_, fun i' i0 i1 => ?_⟩
      · apply Ren.fr (k.en) <;> intros <;> first | rfl | exact nCoF_ne (by omega) | rfl | rfl
      · have w0 := k.cn i0 i1
        by_cases y : 24 * (12 * b + e') + i' = 24 * (12 * b + e) + i
        ·
          refine ⟨?_, ?_, ?_, ?_, ?_, ?_, ?_⟩
          · have w := w0.g5
            try simp (disch := omega) only [nCoF_ne]
            exact w
          · have w := w0.r3
            try simp (disch := omega) only [nCoF_ne]
            exact w
          · have w := w0.g6
            try simp (disch := omega) only [nCoF_ne]
            exact w
          · have w := w0.n6
            try simp (disch := omega) only [nCoF_ne]
            exact w
          · have w := w0.nm
            try simp (disch := omega) only [nCoF_ne]
            exact w
          · have w := w0.bd
            try simp (disch := omega) only [nCoF_ne]
            exact w
          · have w := w0.ar
            try simp (disch := omega) only [nCoF_ne]
            exact w
        · apply Rcn.fr w0 <;> intros <;> first | rfl | exact nCoF_ne (by omega) | rfl | rfl
      · apply Rtb.fr (k.tb i0 i1) <;> intros <;> first | rfl | exact nCoF_ne (by omega) | rfl | rfl
      · apply Rsw.fr (k.sw i0 i1) <;> intros <;> first | rfl | exact nCoF_ne (by omega) | rfl | rfl
  ·
    refine ⟨?_, ?_, ?_, ?_, ?_, ?_, ?_, ?_, ?_, ?_, ?_, ?_, ?_, ?_, ?_⟩
    · intro i i0 i1
      exact D.s0 i i0 i1
    · intro i i0 i1
      exact D.s3 i i0 i1
    · intro i i0 i1
      exact D.sz i i0 i1
    · refine D.sc.trans (cnt_congr 148 (fun i i0 i1 => ?_))
      exact Iff.rfl
    · intro e e0 e1 hs
      exact D.wc e e0 e1 hs
    · intro e t e0 e1 hs t0 t1
      exact D.wt e t e0 e1 hs t0 t1
    · intro e e0 e1 hs
      exact D.zc e e0 e1 hs
    · intro e t e0 e1 hs t0 t1
      exact D.zt e t e0 e1 hs t0 t1
    · intro e' i' e0 e1 i0 i1
      have nc := (h.bh.be e0 e1).en.nc1
      have md := (h.bh.be e0 e1).en.md1
      by_cases y : e' = e
      · subst y
        rw [nCoF_ne (by omega)]
        exact D.ar e' i' e0 e1 i0 i1
      · rw [nCoF_ne (by omega)]
        exact D.ar e' i' e0 e1 i0 i1
    · intro e' i' e0 e1 i0 i1 hs
      have nc := (h.bh.be e0 e1).en.nc1
      by_cases y : e' = e ∧ i' = i
      · obtain ⟨rfl, rfl⟩ := y
        exact absurd hs a1
      · rw [nCoF_ne (by omega)]
        exact D.an e' i' e0 e1 i0 i1 hs
    · intro e i e0 e1 i0 i1 hs
      rw [nCoF_ne (by omega)]
      exact D.ho e i e0 e1 i0 i1 hs
    · exact D.ur
    · exact D.u
    · rw [nCoF_ne (by omega)]
      exact D.uc
    · intro p p0 hs
      exact D.uz p p0 hs
theorem EvI.ent {c : Int → Int} {b : Int} {N M gm : Mem} {U : Int → Int} {e t r v : Int} (h : EvI c N M gm U b) (e0' : 0 ≤ e) (e1' : e < M 10 b) (t0' : 0 ≤ t) (t1' : t < M 15 (12 * b + e)) (k1 : r < M 24 (4 * (12 * b + e) + t)) (z : M 52 (160 * b + e) = 3) (mi : M 55 (4 * (12 * b + e) + t) = r) : EvI c (nEnt N (4 * (12 * b + e) + t) r v) (mEnt M (4 * (12 * b + e) + t) r v) gm U b := by
  have D := h.bd
  have b0 := h.b0
  have ne1 := h.bh.bk.ne1
  have nt1 := (h.bh.be e0' e1').en.nt1
  have th0 := ((h.bh.be e0' e1').tb t0' t1').th0
  have ne12 := ((h.bh.be e0' e1').tb t0' t1').ne1
  refine h.sch ?_ ?_ (fun L j hL => nEnt_ne (by unfold stT at hL; omega)) (fun k j hk => mEnt_ne (by omega)) (fun L j hL => nEnt_ne (by omega)) (fun j => mEnt_ne (by omega)) (fun k j hk => mEnt_ne (by omega))
  ·
    have q := h.bh.bk
    refine ⟨?_, fun e' e0 e1 => ?_⟩
    · apply Rbk.fr q <;> intros <;> first | rfl | exact nEnt_ne (by omega) | exact mEnt_ne (by omega) | exact funext fun _ => mEnt_ne (by omega)
    · rw [mEnt_ne (by omega)] at e1
      have k := h.bh.be e0 e1
      refine ⟨?_, fun i' i0 i1 => ?_, fun i' i0 i1 => ?_, fun i' i0 i1 => ?_⟩
      · apply Ren.fr (k.en) <;> intros <;> first | rfl | exact nEnt_ne (by omega) | exact mEnt_ne (by omega) | exact funext fun _ => mEnt_ne (by omega)
      · rw [mEnt_ne (by omega)] at i1
        apply Rcn.fr (k.cn i0 i1) <;> intros <;> first | rfl | exact nEnt_ne (by omega) | exact mEnt_ne (by omega) | exact funext fun _ => mEnt_ne (by omega)
      · rw [mEnt_ne (by omega)] at i1
        have w0 := k.tb i0 i1
        have w1 := w0.th1
        have w2 := w0.ne1
        by_cases y : 4 * (12 * b + e') + i' = 4 * (12 * b + e) + t
        ·
          refine ⟨?_, ?_, ?_, ?_, ?_, ?_, ?_, ?_, ?_, ?_, ?_, ?_, ?_, ?_⟩
          · have w := w0.g9
            try simp (disch := omega) only [nEnt_ne, mEnt_ne]
            exact w
          · have w := w0.r1
            try simp (disch := omega) only [nEnt_ne, mEnt_ne]
            exact w
          · have w := w0.g10
            try simp (disch := omega) only [nEnt_ne, mEnt_ne]
            exact w
          · have w := w0.n10
            try simp (disch := omega) only [nEnt_ne, mEnt_ne]
            exact w
          · have w := w0.r2
            try simp (disch := omega) only [nEnt_ne, mEnt_ne]
            exact w
          · have w := w0.g11
            try simp (disch := omega) only [nEnt_ne, mEnt_ne]
            exact w
          · have w := w0.n11
            try simp (disch := omega) only [nEnt_ne, mEnt_ne]
            exact w
          · have w := w0.ne
            try simp (disch := omega) only [nEnt_ne, mEnt_ne]
            exact w
          · have w := w0.ne0
            try simp (disch := omega) only [nEnt_ne, mEnt_ne]
            exact w
          · have w := w0.ne1
            try simp (disch := omega) only [nEnt_ne, mEnt_ne]
            exact w
          · rw [y, nEnt_1, mEnt_1]
          · rw [y, mEnt_1]; omega
          · rw [y, mEnt_1, mEnt_ne (by omega)]; omega
          · intro k' k0 kk
            rw [y] at w0 ⊢ kk
            rw [mEnt_1] at kk
            by_cases y2 : k' = r
            · rw [y2, nEnt_0, mEnt_0]
            · rw [nEnt_ne (by omega), mEnt_ne (by omega)]
              exact w0.en k' k0 (by omega)
        · apply Rtb.fr w0 <;> intros <;> first | rfl | exact nEnt_ne (by omega) | exact mEnt_ne (by omega) | exact funext fun _ => mEnt_ne (by omega)
      · rw [mEnt_ne (by omega)] at i1
        apply Rsw.fr (k.sw i0 i1) <;> intros <;> first | rfl | exact nEnt_ne (by omega) | exact mEnt_ne (by omega) | exact funext fun _ => mEnt_ne (by omega)
  ·
    refine ⟨?_, ?_, ?_, ?_, ?_, ?_, ?_, ?_, ?_, ?_, ?_, ?_, ?_, ?_, ?_⟩
    · intro i i0 i1
      rw [mEnt_ne (by omega)]
      exact D.s0 i i0 i1
    · intro i i0 i1
      rw [mEnt_ne (by omega)]
      exact D.s3 i i0 i1
    · intro i i0 i1
      rw [mEnt_ne (by omega)]
      exact D.sz i i0 i1
    · rw [mEnt_ne (by omega)]
      refine D.sc.trans (cnt_congr 148 (fun i i0 i1 => ?_))
      rw [mEnt_ne (by omega)]
    · intro e e0 e1 hs
      rw [mEnt_ne (by omega)] at e1 hs
      rw [mEnt_ne (by omega), mEnt_ne (by omega)]
      exact D.wc e e0 e1 hs
    · intro e' t' e0 e1 hs t0 t1
      rw [mEnt_ne (by omega)] at e1 hs t1
      have nt := (h.bh.be e0 e1).en.nt1
      by_cases y : e' = e
      · subst y
        omega
      · rw [mEnt_ne (by omega), mEnt_ne (by omega)]
        exact D.wt e' t' e0 e1 hs t0 t1
    · intro e e0 e1 hs
      rw [mEnt_ne (by omega)] at e1 hs
      rw [mEnt_ne (by omega)]
      exact D.zc e e0 e1 hs
    · intro e' t' e0 e1 hs t0 t1
      rw [mEnt_ne (by omega)] at e1 hs t1
      have nt := (h.bh.be e0 e1).en.nt1
      by_cases y : e' = e
      · subst y
        omega
      · rw [mEnt_ne (by omega)]
        exact D.zt e' t' e0 e1 hs t0 t1
    · intro e i e0 e1 i0 i1
      rw [mEnt_ne (by omega)] at e1 i1
      rw [nEnt_ne (by omega)]
      rw [mEnt_ne (by omega)]
      exact D.ar e i e0 e1 i0 i1
    · intro e i e0 e1 i0 i1 hs
      rw [mEnt_ne (by omega)] at e1 i1 hs
      rw [nEnt_ne (by omega)]
      exact D.an e i e0 e1 i0 i1 hs
    · intro e i e0 e1 i0 i1 hs
      rw [mEnt_ne (by omega)] at e1 i1 hs
      rw [nEnt_ne (by omega)]
      rw [mEnt_ne (by omega)]
      exact D.ho e i e0 e1 i0 i1 hs
    · exact D.ur
    · exact D.u
    · rw [nEnt_ne (by omega)]
      rw [mEnt_ne (by omega)]
      exact D.uc
    · intro p p0 hs
      rw [mEnt_ne (by omega)] at hs
      exact D.uz p p0 hs
theorem EvI.enF {c : Int → Int} {b : Int} {N M gm : Mem} {U : Int → Int} {e t r v : Int} (h : EvI c N M gm U b) (e0' : 0 ≤ e) (e1' : e < M 10 b) (t0' : 0 ≤ t) (t1' : t < M 15 (12 * b + e)) (k1 : r < M 24 (4 * (12 * b + e) + t)) (z : M 52 (160 * b + e) = 3) (mi : M 55 (4 * (12 * b + e) + t) = r) : EvI c (nEnF N (4 * (12 * b + e) + t) r v) M gm U b := by
  have D := h.bd
  have b0 := h.b0
  have ne1 := h.bh.bk.ne1
  have nt1 := (h.bh.be e0' e1').en.nt1
  have th0 := ((h.bh.be e0' e1').tb t0' t1').th0
  have ne12 := ((h.bh.be e0' e1').tb t0' t1').ne1
  refine h.sch ?_ ?_ (fun L j hL => nEnF_ne (by unfold stT at hL; omega)) (fun k j hk => rfl) (fun L j hL => nEnF_ne (by omega)) (fun j => rfl) (fun k j hk => rfl)
  ·
    have q := h.bh.bk
    refine ⟨?_, fun e' e0 e1 => ?_⟩
    · apply Rbk.fr q <;> intros <;> first | rfl | exact nEnF_ne (by omega) | rfl | rfl
    · have k := h.bh.be e0 e1
      refine ⟨?_, fun i' i0 i1 => ?_, fun i' i0 i1 => ?_, fun i' i0 i1 => ?_⟩
      · apply Ren.fr (k.en) <;> intros <;> first | rfl | exact nEnF_ne (by omega) | rfl | rfl
      · apply Rcn.fr (k.cn i0 i1) <;> intros <;> first | rfl | exact nEnF_ne (by omega) | rfl | rfl
      · have w0 := k.tb i0 i1
        have w1 := w0.th1
        have w2 := w0.ne1
        by_cases y : 4 * (12 * b + e') + i' = 4 * (12 * b + e) + t
        ·
          refine ⟨?_, ?_, ?_, ?_, ?_, ?_, ?_, ?_, ?_, ?_, ?_, ?_, ?_, ?_⟩
          · have w := w0.g9
            try simp (disch := omega) only [nEnF_ne]
            exact w
          · have w := w0.r1
            try simp (disch := omega) only [nEnF_ne]
            exact w
          · have w := w0.g10
            try simp (disch := omega) only [nEnF_ne]
            exact w
          · have w := w0.n10
            try simp (disch := omega) only [nEnF_ne]
            exact w
          · have w := w0.r2
            try simp (disch := omega) only [nEnF_ne]
            exact w
          · have w := w0.g11
            try simp (disch := omega) only [nEnF_ne]
            exact w
          · have w := w0.n11
            try simp (disch := omega) only [nEnF_ne]
            exact w
          · have w := w0.ne
            try simp (disch := omega) only [nEnF_ne]
            exact w
          · have w := w0.ne0
            try simp (disch := omega) only [nEnF_ne]
            exact w
          · have w := w0.ne1
            try simp (disch := omega) only [nEnF_ne]
            exact w
          · have w := w0.th
            try simp (disch := omega) only [nEnF_ne]
            exact w
          · have w := w0.th0
            try simp (disch := omega) only [nEnF_ne]
            exact w
          · have w := w0.th1
            try simp (disch := omega) only [nEnF_ne]
            exact w
          · intro k' k0 kk
            rw [y] at w0 ⊢ kk
            rw [nEnF_ne (by omega)]
            exact w0.en k' k0 (by omega)
        · apply Rtb.fr w0 <;> intros <;> first | rfl | exact nEnF_ne (by omega) | rfl | rfl
      · apply Rsw.fr (k.sw i0 i1) <;> intros <;> first | rfl | exact nEnF_ne (by omega) | rfl | rfl
  ·
    refine ⟨?_, ?_, ?_, ?_, ?_, ?_, ?_, ?_, ?_, ?_, ?_, ?_, ?_, ?_, ?_⟩
    · intro i i0 i1
      exact D.s0 i i0 i1
    · intro i i0 i1
      exact D.s3 i i0 i1
    · intro i i0 i1
      exact D.sz i i0 i1
    · refine D.sc.trans (cnt_congr 148 (fun i i0 i1 => ?_))
      exact Iff.rfl
    · intro e e0 e1 hs
      exact D.wc e e0 e1 hs
    · intro e t e0 e1 hs t0 t1
      exact D.wt e t e0 e1 hs t0 t1
    · intro e e0 e1 hs
      exact D.zc e e0 e1 hs
    · intro e t e0 e1 hs t0 t1
      exact D.zt e t e0 e1 hs t0 t1
    · intro e i e0 e1 i0 i1
      rw [nEnF_ne (by omega)]
      exact D.ar e i e0 e1 i0 i1
    · intro e i e0 e1 i0 i1 hs
      rw [nEnF_ne (by omega)]
      exact D.an e i e0 e1 i0 i1 hs
    · intro e i e0 e1 i0 i1 hs
      rw [nEnF_ne (by omega)]
      exact D.ho e i e0 e1 i0 i1 hs
    · exact D.ur
    · exact D.u
    · rw [nEnF_ne (by omega)]
      exact D.uc
    · intro p p0 hs
      exact D.uz p p0 hs
theorem EvI.hol {c : Int → Int} {b : Int} {N M gm : Mem} {U : Int → Int} {e i v : Int} (h : EvI c N M gm U b) (e0' : 0 ≤ e) (e1' : e < M 10 b) (i0' : 0 ≤ i) (i1' : i < M 17 (12 * b + e)) (z : M 52 (160 * b + (100 + 4 * e + i)) = 3) : EvI c (nHol N (12 * b + e) i v) (mHol M (12 * b + e) i v) gm U b := by
  have D := h.bd
  have b0 := h.b0
  have ne1 := h.bh.bk.ne1
  have nh1 := (h.bh.be e0' e1').en.nh1
  refine h.sch ?_ ?_ (fun L j hL => nHol_ne (by unfold stT at hL; omega)) (fun k j hk => mHol_ne (by omega)) (fun L j hL => nHol_ne (by omega)) (fun j => mHol_ne (by omega)) (fun k j hk => mHol_ne (by omega))
  ·
    have q := h.bh.bk
    refine ⟨?_, fun e' e0 e1 => ?_⟩
    · apply Rbk.fr q <;> intros <;> first | rfl | exact nHol_ne (by omega) | exact mHol_ne (by omega) | exact funext fun _ => mHol_ne (by omega)
    · rw [mHol_ne (by omega)] at e1
      have k := h.bh.be e0 e1
      refine ⟨?_, fun i' i0 i1 => ?_, fun i' i0 i1 => ?_, fun i' i0 i1 => ?_⟩
      · have w0 := k.en
        by_cases y : e' = e
        ·
          refine ⟨?_, ?_, ?_, ?_, ?_, ?_, ?_, ?_, ?_, ?_, ?_, ?_, ?_, ?_, ?_, ?_, ?_, ?_, ?_, ?_, ?_, ?_, ?_, ?_, ?_, ?_, ?_, ?_, ?_, ?_, ?_, ?_, ?_, ?_, ?_, ?_, ?_, ?_, ?_, ?_, ?_, ?_, ?_, ?_, ?_, ?_, ?_, ?_⟩
          · have w := w0.g3
            try simp (disch := omega) only [nHol_ne, mHol_ne]
            exact w
          · have w := w0.r3
            try simp (disch := omega) only [nHol_ne, mHol_ne]
            exact w
          · have w := w0.g4
            try simp (disch := omega) only [nHol_ne, mHol_ne]
            exact w
          · have w := w0.n4
            try simp (disch := omega) only [nHol_ne, mHol_ne]
            exact w
          · have w := w0.r6
            try simp (disch := omega) only [nHol_ne, mHol_ne]
            exact w
          · have w := w0.g7
            try simp (disch := omega) only [nHol_ne, mHol_ne]
            exact w
          · have w := w0.n7
            try simp (disch := omega) only [nHol_ne, mHol_ne]
            exact w
          · have w := w0.r7
            try simp (disch := omega) only [nHol_ne, mHol_ne]
            exact w
          · have w := w0.g8
            try simp (disch := omega) only [nHol_ne, mHol_ne]
            exact w
          · have w := w0.n8
            try simp (disch := omega) only [nHol_ne, mHol_ne]
            exact w
          · have w := w0.r9
            try simp (disch := omega) only [nHol_ne, mHol_ne]
            exact w
          · have w := w0.g12
            try simp (disch := omega) only [nHol_ne, mHol_ne]
            exact w
          · have w := w0.n12
            try simp (disch := omega) only [nHol_ne, mHol_ne]
            exact w
          · have w := w0.r11
            try simp (disch := omega) only [nHol_ne, mHol_ne]
            exact w
          · have w := w0.g13
            try simp (disch := omega) only [nHol_ne, mHol_ne]
            exact w
          · have w := w0.n13
            try simp (disch := omega) only [nHol_ne, mHol_ne]
            exact w
          · have w := w0.r12
            try simp (disch := omega) only [nHol_ne, mHol_ne]
            exact w
          · have w := w0.g14
            try simp (disch := omega) only [nHol_ne, mHol_ne]
            exact w
          · have w := w0.n14
            try simp (disch := omega) only [nHol_ne, mHol_ne]
            exact w
          · have w := w0.r13
            try simp (disch := omega) only [nHol_ne, mHol_ne]
            exact w
          · have w := w0.g15
            try simp (disch := omega) only [nHol_ne, mHol_ne]
            exact w
          · have w := w0.n15
            try simp (disch := omega) only [nHol_ne, mHol_ne]
            exact w
          · have w := w0.r15
            try simp (disch := omega) only [nHol_ne, mHol_ne]
            exact w
          · have w := w0.g16
            try simp (disch := omega) only [nHol_ne, mHol_ne]
            exact w
          · have w := w0.n16
            try simp (disch := omega) only [nHol_ne, mHol_ne]
            exact w
          · have w := w0.nm
            try simp (disch := omega) only [nHol_ne, mHol_ne]
            exact w
          · have w := w0.nc
            try simp (disch := omega) only [nHol_ne, mHol_ne]
            exact w
          · have w := w0.nc0
            try simp (disch := omega) only [nHol_ne, mHol_ne]
            exact w
          · have w := w0.nc1
            try simp (disch := omega) only [nHol_ne, mHol_ne]
            exact w
          · have w := w0.nt
            try simp (disch := omega) only [nHol_ne, mHol_ne]
            exact w
          · have w := w0.nt0
            try simp (disch := omega) only [nHol_ne, mHol_ne]
            exact w
          · have w := w0.nt1
            try simp (disch := omega) only [nHol_ne, mHol_ne]
            exact w
          · have w := w0.nk
            try simp (disch := omega) only [nHol_ne, mHol_ne]
            exact w
          · have w := w0.nk0
            try simp (disch := omega) only [nHol_ne, mHol_ne]
            exact w
          · have w := w0.nk1
            try simp (disch := omega) only [nHol_ne, mHol_ne]
            exact w
          · have w := w0.nh
            try simp (disch := omega) only [nHol_ne, mHol_ne]
            exact w
          · have w := w0.nh0
            try simp (disch := omega) only [nHol_ne, mHol_ne]
            exact w
          · have w := w0.nh1
            try simp (disch := omega) only [nHol_ne, mHol_ne]
            exact w
          · have w := w0.nw
            try simp (disch := omega) only [nHol_ne, mHol_ne]
            exact w
          · have w := w0.nw0
            try simp (disch := omega) only [nHol_ne, mHol_ne]
            exact w
          · have w := w0.nw1
            try simp (disch := omega) only [nHol_ne, mHol_ne]
            exact w
          · have w := w0.bd
            try simp (disch := omega) only [nHol_ne, mHol_ne]
            exact w
          · have w := w0.md
            try simp (disch := omega) only [nHol_ne, mHol_ne]
            exact w
          · have w := w0.md0
            try simp (disch := omega) only [nHol_ne, mHol_ne]
            exact w
          · have w := w0.md1
            try simp (disch := omega) only [nHol_ne, mHol_ne]
            exact w
          · have w := w0.rc
            try simp (disch := omega) only [nHol_ne, mHol_ne]
            exact w
          · have w := w0.rt
            try simp (disch := omega) only [nHol_ne, mHol_ne]
            exact w
          · have w := w0.rs
            try simp (disch := omega) only [nHol_ne, mHol_ne]
            exact w
        · apply Ren.fr w0 <;> intros <;> first | rfl | exact nHol_ne (by omega) | exact mHol_ne (by omega) | exact funext fun _ => mHol_ne (by omega)
      · rw [mHol_ne (by omega)] at i1
        apply Rcn.fr (k.cn i0 i1) <;> intros <;> first | rfl | exact nHol_ne (by omega) | exact mHol_ne (by omega) | exact funext fun _ => mHol_ne (by omega)
      · rw [mHol_ne (by omega)] at i1
        apply Rtb.fr (k.tb i0 i1) <;> intros <;> first | rfl | exact nHol_ne (by omega) | exact mHol_ne (by omega) | exact funext fun _ => mHol_ne (by omega)
      · rw [mHol_ne (by omega)] at i1
        apply Rsw.fr (k.sw i0 i1) <;> intros <;> first | rfl | exact nHol_ne (by omega) | exact mHol_ne (by omega) | exact funext fun _ => mHol_ne (by omega)
  ·
    refine ⟨?_, ?_, ?_, ?_, ?_, ?_, ?_, ?_, ?_, ?_, ?_, ?_, ?_, ?_, ?_⟩
    · intro i i0 i1
      rw [mHol_ne (by omega)]
      exact D.s0 i i0 i1
    · intro i i0 i1
      rw [mHol_ne (by omega)]
      exact D.s3 i i0 i1
    · intro i i0 i1
      rw [mHol_ne (by omega)]
      exact D.sz i i0 i1
    · rw [mHol_ne (by omega)]
      refine D.sc.trans (cnt_congr 148 (fun i i0 i1 => ?_))
      rw [mHol_ne (by omega)]
    · intro e e0 e1 hs
      rw [mHol_ne (by omega)] at e1 hs
      rw [mHol_ne (by omega), mHol_ne (by omega)]
      exact D.wc e e0 e1 hs
    · intro e t e0 e1 hs t0 t1
      rw [mHol_ne (by omega)] at e1 hs t1
      rw [mHol_ne (by omega), mHol_ne (by omega)]
      exact D.wt e t e0 e1 hs t0 t1
    · intro e e0 e1 hs
      rw [mHol_ne (by omega)] at e1 hs
      rw [mHol_ne (by omega)]
      exact D.zc e e0 e1 hs
    · intro e t e0 e1 hs t0 t1
      rw [mHol_ne (by omega)] at e1 hs t1
      rw [mHol_ne (by omega)]
      exact D.zt e t e0 e1 hs t0 t1
    · intro e i e0 e1 i0 i1
      rw [mHol_ne (by omega)] at e1 i1
      rw [nHol_ne (by omega)]
      rw [mHol_ne (by omega)]
      exact D.ar e i e0 e1 i0 i1
    · intro e i e0 e1 i0 i1 hs
      rw [mHol_ne (by omega)] at e1 i1 hs
      rw [nHol_ne (by omega)]
      exact D.an e i e0 e1 i0 i1 hs
    · intro e' i' e0 e1 i0 i1 hs
      rw [mHol_ne (by omega)] at e1 i1 hs
      have nh := (h.bh.be e0 e1).en.nh1
      by_cases y : e' = e ∧ i' = i
      · obtain ⟨rfl, rfl⟩ := y
        omega
      · rw [nHol_ne (by omega), mHol_ne (by omega)]
        exact D.ho e' i' e0 e1 i0 i1 hs
    · exact D.ur
    · exact D.u
    · rw [nHol_ne (by omega)]
      rw [mHol_ne (by omega)]
      exact D.uc
    · intro p p0 hs
      rw [mHol_ne (by omega)] at hs
      exact D.uz p p0 hs
theorem EvI.hoF {c : Int → Int} {b : Int} {N M gm : Mem} {U : Int → Int} {e i v : Int} (h : EvI c N M gm U b) (e0' : 0 ≤ e) (e1' : e < M 10 b) (i0' : 0 ≤ i) (i1' : i < M 17 (12 * b + e)) (z : M 52 (160 * b + (100 + 4 * e + i)) = 3) : EvI c (nHol N (12 * b + e) i v) M gm U b := by
  have D := h.bd
  have b0 := h.b0
  have ne1 := h.bh.bk.ne1
  have nh1 := (h.bh.be e0' e1').en.nh1
  refine h.sch ?_ ?_ (fun L j hL => nHol_ne (by unfold stT at hL; omega)) (fun k j hk => rfl) (fun L j hL => nHol_ne (by omega)) (fun j => rfl) (fun k j hk => rfl)
  ·
    have q := h.bh.bk
    refine ⟨?_, fun e' e0 e1 => ?_⟩
    · apply Rbk.fr q <;> intros <;> first | rfl | exact nHol_ne (by omega) | rfl | rfl
    · have k := h.bh.be e0 e1
      refine ⟨?_, fun i' i0 i1 => ?_, fun i' i0 i1 => ?_, fun i' i0 i1 => ?_⟩
      · have w0 := k.en
        by_cases y : e' = e
        ·
          refine ⟨?_, ?_, ?_, ?_, ?_, ?_, ?_, ?_, ?_, ?_, ?_, ?_, ?_, ?_, ?_, ?_, ?_, ?_, ?_, ?_, ?_, ?_, ?_, ?_, ?_, ?_, ?_, ?_, ?_, ?_, ?_, ?_, ?_, ?_, ?_, ?_, ?_, ?_, ?_, ?_, ?_, ?_, ?_, ?_, ?_, ?_, ?_, ?_⟩
          · have w := w0.g3
            try simp (disch := omega) only [nHol_ne]
            exact w
          · have w := w0.r3
            try simp (disch := omega) only [nHol_ne]
            exact w
          · have w := w0.g4
            try simp (disch := omega) only [nHol_ne]
            exact w
          · have w := w0.n4
            try simp (disch := omega) only [nHol_ne]
            exact w
          · have w := w0.r6
            try simp (disch := omega) only [nHol_ne]
            exact w
          · have w := w0.g7
            try simp (disch := omega) only [nHol_ne]
            exact w
          · have w := w0.n7
            try simp (disch := omega) only [nHol_ne]
            exact w
          · have w := w0.r7
            try simp (disch := omega) only [nHol_ne]
            exact w
          · have w := w0.g8
            try simp (disch := omega) only [nHol_ne]
            exact w
          · have w := w0.n8
            try simp (disch := omega) only [nHol_ne]
            exact w
          · have w := w0.r9
            try simp (disch := omega) only [nHol_ne]
            exact w
          · have w := w0.g12
            try simp (disch := omega) only [nHol_ne]
            exact w
          · have w := w0.n12
            try simp (disch := omega) only [nHol_ne]
            exact w
          · have w := w0.r11
            try simp (disch := omega) only [nHol_ne]
            exact w
          · have w := w0.g13
            try simp (disch := omega) only [nHol_ne]
            exact w
          · have w := w0.n13
            try simp (disch := omega) only [nHol_ne]
            exact w
          · have w := w0.r12
            try simp (disch := omega) only [nHol_ne]
            exact w
          · have w := w0.g14
            try simp (disch := omega) only [nHol_ne]
            exact w
          · have w := w0.n14
            try simp (disch := omega) only [nHol_ne]
            exact w
          · have w := w0.r13
            try simp (disch := omega) only [nHol_ne]
            exact w
          · have w := w0.g15
            try simp (disch := omega) only [nHol_ne]
            exact w
          · have w := w0.n15
            try simp (disch := omega) only [nHol_ne]
            exact w
          · have w := w0.r15
            try simp (disch := omega) only [nHol_ne]
            exact w
          · have w := w0.g16
            try simp (disch := omega) only [nHol_ne]
            exact w
          · have w := w0.n16
            try simp (disch := omega) only [nHol_ne]
            exact w
          · have w := w0.nm
            try simp (disch := omega) only [nHol_ne]
            exact w
          · have w := w0.nc
            try simp (disch := omega) only [nHol_ne]
            exact w
          · have w := w0.nc0
            try simp (disch := omega) only [nHol_ne]
            exact w
          · have w := w0.nc1
            try simp (disch := omega) only [nHol_ne]
            exact w
          · have w := w0.nt
            try simp (disch := omega) only [nHol_ne]
            exact w
          · have w := w0.nt0
            try simp (disch := omega) only [nHol_ne]
            exact w
          · have w := w0.nt1
            try simp (disch := omega) only [nHol_ne]
            exact w
          · have w := w0.nk
            try simp (disch := omega) only [nHol_ne]
            exact w
          · have w := w0.nk0
            try simp (disch := omega) only [nHol_ne]
            exact w
          · have w := w0.nk1
            try simp (disch := omega) only [nHol_ne]
            exact w
          · have w := w0.nh
            try simp (disch := omega) only [nHol_ne]
            exact w
          · have w := w0.nh0
            try simp (disch := omega) only [nHol_ne]
            exact w
          · have w := w0.nh1
            try simp (disch := omega) only [nHol_ne]
            exact w
          · have w := w0.nw
            try simp (disch := omega) only [nHol_ne]
            exact w
          · have w := w0.nw0
            try simp (disch := omega) only [nHol_ne]
            exact w
          · have w := w0.nw1
            try simp (disch := omega) only [nHol_ne]
            exact w
          · have w := w0.bd
            try simp (disch := omega) only [nHol_ne]
            exact w
          · have w := w0.md
            try simp (disch := omega) only [nHol_ne]
            exact w
          · have w := w0.md0
            try simp (disch := omega) only [nHol_ne]
            exact w
          · have w := w0.md1
            try simp (disch := omega) only [nHol_ne]
            exact w
          · have w := w0.rc
            try simp (disch := omega) only [nHol_ne]
            exact w
          · have w := w0.rt
            try simp (disch := omega) only [nHol_ne]
            exact w
          · have w := w0.rs
            try simp (disch := omega) only [nHol_ne]
            exact w
        · apply Ren.fr w0 <;> intros <;> first | rfl | exact nHol_ne (by omega) | rfl | rfl
      · apply Rcn.fr (k.cn i0 i1) <;> intros <;> first | rfl | exact nHol_ne (by omega) | rfl | rfl
      · apply Rtb.fr (k.tb i0 i1) <;> intros <;> first | rfl | exact nHol_ne (by omega) | rfl | rfl
      · apply Rsw.fr (k.sw i0 i1) <;> intros <;> first | rfl | exact nHol_ne (by omega) | rfl | rfl
  ·
    refine ⟨?_, ?_, ?_, ?_, ?_, ?_, ?_, ?_, ?_, ?_, ?_, ?_, ?_, ?_, ?_⟩
    · intro i i0 i1
      exact D.s0 i i0 i1
    · intro i i0 i1
      exact D.s3 i i0 i1
    · intro i i0 i1
      exact D.sz i i0 i1
    · refine D.sc.trans (cnt_congr 148 (fun i i0 i1 => ?_))
      exact Iff.rfl
    · intro e e0 e1 hs
      exact D.wc e e0 e1 hs
    · intro e t e0 e1 hs t0 t1
      exact D.wt e t e0 e1 hs t0 t1
    · intro e e0 e1 hs
      exact D.zc e e0 e1 hs
    · intro e t e0 e1 hs t0 t1
      exact D.zt e t e0 e1 hs t0 t1
    · intro e i e0 e1 i0 i1
      rw [nHol_ne (by omega)]
      exact D.ar e i e0 e1 i0 i1
    · intro e i e0 e1 i0 i1 hs
      rw [nHol_ne (by omega)]
      exact D.an e i e0 e1 i0 i1 hs
    · intro e' i' e0 e1 i0 i1 hs
      have nh := (h.bh.be e0 e1).en.nh1
      by_cases y : e' = e ∧ i' = i
      · obtain ⟨rfl, rfl⟩ := y
        omega
      · rw [nHol_ne (by omega)]
        exact D.ho e' i' e0 e1 i0 i1 hs
    · exact D.ur
    · exact D.u
    · rw [nHol_ne (by omega)]
      exact D.uc
    · intro p p0 hs
      exact D.uz p p0 hs
