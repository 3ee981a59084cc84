/-! ===== evaluation: what changes in a book ===== -/
theorem BkE.kd {c : Int → Int} {N N' M M' : Mem} {g : Int} (k : BkE c N M g) (hN : ∀ L j, 3 ≤ L % 128 ∧ L % 128 ≤ 19 → N' L j = N L j) (hM : ∀ k j, k = 7 ∨ 10 ≤ k ∧ k ≤ 39 ∨ k = 53 ∨ k = 55 ∨ k = 56 → M' k j = M k j) : BkE c N' M' g := by
  have m14 : ∀ j, M' 14 j = M 14 j := fun j => hM 14 j (by omega)
  have m15 : ∀ j, M' 15 j = M 15 j := fun j => hM 15 j (by omega)
  have m18 : ∀ j, M' 18 j = M 18 j := fun j => hM 18 j (by omega)
  refine ⟨?_, fun i i0 i1 => ?_, fun i i0 i1 => ?_, fun i i0 i1 => ?_⟩
  · apply Ren.fr k.en <;> intros <;> first | rfl | exact hN _ _ (by omega) | exact hM _ _ (by omega) | exact funext fun _ => hM _ _ (by omega)
  · rw [m14] at i1
    apply Rcn.fr (k.cn i0 i1) <;> intros <;> first | rfl | exact hN _ _ (by omega) | exact hM _ _ (by omega) | exact funext fun _ => hM _ _ (by omega)
  · rw [m15] at i1
    apply Rtb.fr (k.tb i0 i1) <;> intros <;> first | rfl | exact hN _ _ (by omega) | exact hM _ _ (by omega)
  · rw [m18] at i1
    apply Rsw.fr (k.sw i0 i1) <;> intros <;> first | rfl | exact hN _ _ (by omega) | exact hM _ _ (by omega)
theorem BkN.kd {N N' M M' gm : Mem} {b : Int} (h : BkN N M gm b) (n' : ∀ L j, 20 ≤ L % 128 ∧ L % 128 ≤ 22 → N' L j = N L j) (hM : ∀ k j, 10 ≤ k ∧ k ≤ 39 → M' k j = M k j) (hx : M' 0 40 = M 0 40) : BkN N' M' gm b := by
  unfold BkN LCn LCk at *
  simp (disch := omega) only [n', hM, hx]
  exact h
def stT (K j : Int) : Prop := K = 5 ∧ j = 1 ∨ 6 ≤ K ∧ K ≤ 7 ∨ K = 10 ∨ 12 ≤ K ∧ K ≤ 14 ∨ 17 ≤ K ∧ K ≤ 22
theorem BkT.kd {N N' M M' gm : Mem} {b : Int} (h : BkT N M gm b) (n' : ∀ L j, stT (L % 128) j → N' L j = N L j) (hM : ∀ k j, 10 ≤ k ∧ k ≤ 39 → M' k j = M k j) : BkT N' M' gm b := by
  unfold stT at n'
  unfold BkT BkTe Rt at *
  simp (disch := omega) only [n', hM]
  exact h
theorem EvI.gch {c : Int → Int} {b : Int} {N M N' M' gm : Mem} {U U' : Int → Int} (h : EvI c N M gm U b) (bh : BkH c N' M' b) (bd : BkD N' M' gm U' b) (nS : ∀ L j, stT (L % 128) j → N' L j = N L j) (mS : ∀ k j, 10 ≤ k ∧ k ≤ 39 → M' k j = M k j) (hx : M' 0 40 = M 0 40) (wk : Rwk c N' M') (wb : N' 30 0 = N 30 0) (nw : M' 0 9 = M 0 9) (fl : N' 30 1 = M' 0 65) (f01 : M' 0 65 = 0 ∨ M' 0 65 = 1) (dp : N' 30 5 = M' 0 64) (dp0 : 0 ≤ M' 0 64) (dp1 : M' 0 64 ≤ 12) (uw : ∀ j, 0 ≤ j → j < M' 0 64 → N' 32 j = M' 63 j) (tp0 : 0 ≤ N' 30 3) (tp1 : N' 30 3 ≤ 1000) (fc : M' 0 65 = 1 → 1 ≤ M' 0 68 ∧ M' 0 68 + M' 0 64 ≤ 13) : EvI c N' M' gm U' b :=
  ⟨h.b0, h.b1, wk, bh, h.bn.kd (fun L j q => nS L j (by unfold stT; omega)) mS hx, h.bt.kd nS mS, bd, wb.trans h.wb, nw.trans h.nw, fl, f01, dp, dp0, dp1, uw, tp0, tp1, fc⟩
theorem EvI.sch {c : Int → Int} {b : Int} {N M N' M' gm : Mem} {U U' : Int → Int} (h : EvI c N M gm U b) (bh : BkH c N' M' b) (bd : BkD N' M' gm U' b) (nS : ∀ L j, stT (L % 128) j → N' L j = N L j) (mS : ∀ k j, 10 ≤ k ∧ k ≤ 39 → M' k j = M k j) (nw : ∀ L j, 30 ≤ L ∧ L ≤ 34 → N' L j = N L j) (m0 : ∀ j, M' 0 j = M 0 j) (m63 : ∀ k j, k = 63 ∨ k = 66 ∨ k = 67 → M' k j = M k j) : EvI c N' M' gm U' b := by
  have k := h.wk
  refine h.gch bh bd nS mS (m0 40) (k.ch (fun L j _ _ _ => nw L j (by omega)) (nw _ _ (by omega)) (nw _ _ (by omega)) (nw _ _ (by omega)) (nw _ _ (by omega)) ?_ ?_ ?_ (fun j j0 j1 => ?_) (fun j j0 j1 => ?_)) (nw _ _ (by omega)) (m0 9) ?_ ?_ ?_ ?_ ?_ (fun j j0 j1 => ?_) ?_ ?_ ?_
  · rw [nw _ _ (by omega), m0]; exact k.cc
  · rw [m0]; exact k.cc0
  · rw [m0]; exact k.cc1
  · rw [m0] at j1
    rw [nw _ _ (by omega), m63 _ _ (by omega)]; exact k.ck j j0 j1
  · rw [m0] at j1
    rw [nw _ _ (by omega), m63 _ _ (by omega)]; exact k.ci j j0 j1
  · rw [nw _ _ (by omega), m0]; exact h.fl
  · rw [m0]; exact h.f01
  · rw [nw _ _ (by omega), m0]; exact h.dp
  · rw [m0]; exact h.dp0
  · rw [m0]; exact h.dp1
  · rw [m0] at j1
    rw [nw _ _ (by omega), m63 _ _ (by omega)]; exact h.uw j j0 j1
  · rw [nw _ _ (by omega)]; exact h.tp0
  · rw [nw _ _ (by omega)]; exact h.tp1
  · rw [m0, m0, m0]; exact h.fc
theorem Lx.of {it b : Int} {M M' : Mem} (h : ∀ i, 0 ≤ i → i < 148 → i ≠ it → M' 52 (160 * b + i) = M 52 (160 * b + i)) (hd : ∀ i, 0 ≤ i → i < 12 → i ≠ it → Ldat (12 * b + i) M M') (h57 : ∀ i, 100 ≤ i → i < 148 → i ≠ it → M' 57 (48 * b + (i - 100)) = M 57 (48 * b + (i - 100))) : Lx it b M M' := fun i i0 i1 e => ⟨fun z => by rw [h i i0 i1 e, z]; decide, fun z => ⟨h i i0 i1 e, fun q => hd i i0 q e, fun q => h57 i q i1 e⟩⟩

def nBeg (N : Mem) (b it D s : Int) : Mem := up (up (up (up (up N 32 D it) 30 5 (D + 1)) (128 * b + 23) it 3) (128 * b + 24) s it) (128 * b + 1) 6 (s + 1)
def mBeg (M : Mem) (b it D s : Int) : Mem := up (up (up (up (up M 52 (160 * b + it) 3) 58 (160 * b + s) it) 59 b (s + 1)) 63 D it) 0 64 (D + 1)
theorem nBeg_ne {N : Mem} {b it D s L j : Int} (h : ¬ (L = 32 ∧ j = D) ∧ ¬ (L = 30 ∧ j = 5) ∧ ¬ (L = 128 * b + 23 ∧ j = it) ∧ ¬ (L = 128 * b + 24 ∧ j = s) ∧ ¬ (L = 128 * b + 1 ∧ j = 6)) : nBeg N b it D s L j = N L j := (up_ne (by omega)).trans ((up_ne (by omega)).trans ((up_ne (by omega)).trans ((up_ne (by omega)).trans (up_ne (by omega)))))
theorem mBeg_ne {M : Mem} {b it D s L j : Int} (h : ¬ (L = 52 ∧ j = 160 * b + it) ∧ ¬ (L = 58 ∧ j = 160 * b + s) ∧ ¬ (L = 59 ∧ j = b) ∧ ¬ (L = 63 ∧ j = D) ∧ ¬ (L = 0 ∧ j = 64)) : mBeg M b it D s L j = M L j := (up_ne (by omega)).trans ((up_ne (by omega)).trans ((up_ne (by omega)).trans ((up_ne (by omega)).trans (up_ne (by omega)))))
theorem mBeg_52 {M : Mem} {b it D s : Int} : mBeg M b it D s 52 (160 * b + it) = 3 := by unfold mBeg; rw [up_ne (by omega), up_ne (by omega), up_ne (by omega), up_ne (by omega), up_eq]
theorem mBeg_58 {M : Mem} {b it D s : Int} : mBeg M b it D s 58 (160 * b + s) = it := by unfold mBeg; rw [up_ne (by omega), up_ne (by omega), up_ne (by omega), up_eq]
theorem mBeg_59 {M : Mem} {b it D s : Int} : mBeg M b it D s 59 b = s + 1 := by unfold mBeg; rw [up_ne (by omega), up_ne (by omega), up_eq]
theorem mBeg_63 {M : Mem} {b it D s : Int} : mBeg M b it D s 63 D = it := by unfold mBeg; rw [up_ne (by omega), up_eq]
theorem mBeg_64 {M : Mem} {b it D s : Int} : mBeg M b it D s 0 64 = D + 1 := by unfold mBeg; rw [up_eq]
theorem nBeg_32 {N : Mem} {b it D s : Int} (h : 0 ≤ b) : nBeg N b it D s 32 D = it := by unfold nBeg; rw [up_ne (by omega), up_ne (by omega), up_ne (by omega), up_ne (by omega), up_eq]
theorem nBeg_5 {N : Mem} {b it D s : Int} (h : 0 ≤ b) : nBeg N b it D s 30 5 = D + 1 := by unfold nBeg; rw [up_ne (by omega), up_ne (by omega), up_ne (by omega), up_eq]
theorem nBeg_23 {N : Mem} {b it D s : Int} : nBeg N b it D s (128 * b + 23) it = 3 := by unfold nBeg; rw [up_ne (by omega), up_ne (by omega), up_eq]
theorem nBeg_24 {N : Mem} {b it D s : Int} : nBeg N b it D s (128 * b + 24) s = it := by unfold nBeg; rw [up_ne (by omega), up_eq]
theorem nBeg_6 {N : Mem} {b it D s : Int} : nBeg N b it D s (128 * b + 1) 6 = s + 1 := by unfold nBeg; rw [up_eq]

theorem EvI.beg {c : Int → Int} {b it : Int} {N M gm : Mem} {U : Int → Int} (h : EvI c N M gm U b) (hi : 0 ≤ it ∧ it < 12 ∨ 100 ≤ it ∧ it < 148) (z : M 52 (160 * b + it) = 0) (hd : M 0 64 < 12) (hf : M 0 65 = 0) : M 59 b < 60 ∧ EvI c (nBeg N b it (M 0 64) (M 59 b)) (mBeg M b it (M 0 64) (M 59 b)) gm U b := by
  have k := h.wk
  have D := h.bd
  have q := h.bh.bk
  have b0 := h.b0
  have d0 := h.dp0
  have s0 := q.nt0
  have s1 : M 59 b < 60 := by
    rw [D.sc]
    exact cnt_item (f := fun i => M 52 (160 * b + i)) D.sz z hi
  refine ⟨s1, h.gch ⟨?_, fun e e0 e1 => ?_⟩ ?_ (fun L j hL => nBeg_ne (by unfold stT at hL; omega)) (fun k j hk => mBeg_ne (by omega)) (mBeg_ne (by omega)) (k.ch (fun L j _ _ _ => nBeg_ne (by omega)) (nBeg_ne (by omega)) (nBeg_ne (by omega)) (nBeg_ne (by omega)) (nBeg_ne (by omega)) ?_ ?_ ?_ (fun j j0 j1 => ?_) (fun j j0 j1 => ?_)) (nBeg_ne (by omega)) (mBeg_ne (by omega)) ?_ ?_ ?_ ?_ ?_ (fun j j0 j1 => ?_) ?_ ?_ ?_⟩
  ·
    refine ⟨?_, ?_, ?_, ?_, ?_, ?_, ?_, ?_, ?_, ?_, ?_, ?_, ?_, ?_, ?_, ?_, ?_, ?_, ?_, ?_, ?_, ?_, ?_, ?_, ?_, ?_, ?_, ?_, ?_, ?_, ?_, ?_, ?_, ?_, ?_, ?_, ?_, ?_, ?_, ?_, ?_, ?_, ?_, ?_, ?_⟩
    · have w := q.i0
      try simp (disch := omega) only [nBeg_ne, mBeg_ne]
      exact w
    · have w := q.r
      try simp (disch := omega) only [nBeg_ne, mBeg_ne]
      exact w
    · have w := q.g1
      try simp (disch := omega) only [nBeg_ne, mBeg_ne]
      exact w
    · have w := q.r0
      try simp (disch := omega) only [nBeg_ne, mBeg_ne]
      exact w
    · have w := q.g2
      try simp (disch := omega) only [nBeg_ne, mBeg_ne]
      exact w
    · have w := q.n2
      try simp (disch := omega) only [nBeg_ne, mBeg_ne]
      exact w
    · have w := q.ne
      try simp (disch := omega) only [nBeg_ne, mBeg_ne]
      exact w
    · have w := q.ne0
      try simp (disch := omega) only [nBeg_ne, mBeg_ne]
      exact w
    · have w := q.ne1
      try simp (disch := omega) only [nBeg_ne, mBeg_ne]
      exact w
    · have w := q.na
      try simp (disch := omega) only [nBeg_ne, mBeg_ne]
      exact w
    · have w := q.na0
      try simp (disch := omega) only [nBeg_ne, mBeg_ne]
      exact w
    · have w := q.na1
      try simp (disch := omega) only [nBeg_ne, mBeg_ne]
      exact w
    · have w := q.r3
      try simp (disch := omega) only [nBeg_ne, mBeg_ne]
      exact w
    · have w := q.g20
      try simp (disch := omega) only [nBeg_ne, mBeg_ne]
      exact w
    · have w := q.r20
      try simp (disch := omega) only [nBeg_ne, mBeg_ne]
      exact w
    · have w := q.r21
      try simp (disch := omega) only [nBeg_ne, mBeg_ne]
      exact w
    · have w := q.g21
      try simp (disch := omega) only [nBeg_ne, mBeg_ne]
      exact w
    · have w := q.n21
      try simp (disch := omega) only [nBeg_ne, mBeg_ne]
      exact w
    · have w := q.g22
      try simp (disch := omega) only [nBeg_ne, mBeg_ne]
      exact w
    · have w := q.n22
      try simp (disch := omega) only [nBeg_ne, mBeg_ne]
      exact w
    · have w := q.cl0
      try simp (disch := omega) only [nBeg_ne, mBeg_ne]
      exact w
    · have w := q.cl1
      try simp (disch := omega) only [nBeg_ne, mBeg_ne]
      exact w
    · have w := q.r4
      try simp (disch := omega) only [nBeg_ne, mBeg_ne]
      exact w
    · have w := q.g23
      try simp (disch := omega) only [nBeg_ne, mBeg_ne]
      exact w
    · have w := q.n23
      try simp (disch := omega) only [nBeg_ne, mBeg_ne]
      exact w
    · have w := q.r5
      try simp (disch := omega) only [nBeg_ne, mBeg_ne]
      exact w
    · have w := q.g24
      try simp (disch := omega) only [nBeg_ne, mBeg_ne]
      exact w
    · have w := q.n24
      try simp (disch := omega) only [nBeg_ne, mBeg_ne]
      exact w
    · have w := q.r7
      try simp (disch := omega) only [nBeg_ne, mBeg_ne]
      exact w
    · have w := q.g25
      try simp (disch := omega) only [nBeg_ne, mBeg_ne]
      exact w
    · have w := q.n25
      try simp (disch := omega) only [nBeg_ne, mBeg_ne]
      exact w
    · have w := q.r8
      try simp (disch := omega) only [nBeg_ne, mBeg_ne]
      exact w
    · have w := q.g26
      try simp (disch := omega) only [nBeg_ne, mBeg_ne]
      exact w
    · have w := q.n26
      try simp (disch := omega) only [nBeg_ne, mBeg_ne]
      exact w
    · intro i i0 i1
      by_cases e : i = it
      · subst e
        rw [nBeg_23, mBeg_52]
      · rw [nBeg_ne (by omega), mBeg_ne (by omega)]
        exact q.st i i0 i1
    · rw [nBeg_6, mBeg_59]
    · rw [mBeg_59]; omega
    · rw [mBeg_59]; omega
    · intro i i0 i1
      rw [mBeg_59] at i1
      by_cases e : i = M 59 b
      · rw [e, nBeg_24, mBeg_58]
      · rw [nBeg_ne (by omega), mBeg_ne (by omega)]
        exact q.ts i i0 (by omega)
    · have w := q.nz
      try simp (disch := omega) only [nBeg_ne, mBeg_ne]
      exact w
    · have w := q.nz0
      try simp (disch := omega) only [nBeg_ne, mBeg_ne]
      exact w
    · have w := q.nz1
      try simp (disch := omega) only [nBeg_ne, mBeg_ne]
      exact w
    · have w := q.zb
      try simp (disch := omega) only [nBeg_ne, mBeg_ne]
      exact w
    · have w := q.zo
      try simp (disch := omega) only [nBeg_ne, mBeg_ne]
      exact w
    · have w := q.re
      try simp (disch := omega) only [nBeg_ne, mBeg_ne]
      exact w
  · rw [mBeg_ne (by omega)] at e1
    exact (h.bh.be e0 e1).kd (fun L j hL => nBeg_ne (by omega)) (fun k j hk => mBeg_ne (by omega))
  · have m52 : ∀ i, 0 ≤ i → i < 148 → mBeg M b it (M 0 64) (M 59 b) 52 (160 * b + i) = if i = it then 3 else M 52 (160 * b + i) := by
      intro i i0 i1
      by_cases e : i = it
      · rw [if_pos e, e, mBeg_52]
      · rw [if_neg e, mBeg_ne (by omega)]
    have m52' : ∀ i, i ≠ it → mBeg M b it (M 0 64) (M 59 b) 52 (160 * b + i) = M 52 (160 * b + i) := fun i e => mBeg_ne (by omega)
    refine ⟨?_, ?_, ?_, ?_, ?_, ?_, ?_, ?_, ?_, ?_, ?_, ?_, ?_, ?_, ?_⟩
    · intro i i0 i1
      rw [m52 i i0 i1]
      have := D.s0 i i0 i1
      split <;> omega
    · intro i i0 i1
      rw [m52 i i0 i1]
      have := D.s3 i i0 i1
      split <;> omega
    · intro i i0 i1
      rw [m52' i (by omega)]
      exact D.sz i i0 i1
    · rw [mBeg_59, cnt_set (f := fun i => M 52 (160 * b + i)) (p := it) (by omega) z (by rw [mBeg_52]; decide) (fun i e => by rw [m52' i e]) 148 (by omega), ← D.sc]
    · intro e e0 e1 hs
      rw [mBeg_ne (by omega)] at e1
      by_cases y : e = it
      · rw [y, mBeg_52] at hs; omega
      · rw [m52' e y] at hs
        rw [mBeg_ne (by omega), mBeg_ne (by omega)]
        exact D.wc e e0 e1 hs
    · intro e t e0 e1 hs t0 t1
      rw [mBeg_ne (by omega)] at e1 t1
      by_cases y : e = it
      · rw [y, mBeg_52] at hs; omega
      · rw [m52' e y] at hs
        rw [mBeg_ne (by omega), mBeg_ne (by omega)]
        exact D.wt e t e0 e1 hs t0 t1
    · intro e e0 e1 hs
      rw [mBeg_ne (by omega)] at e1
      by_cases y : e = it
      · rw [y, mBeg_52] at hs; omega
      · rw [m52' e y] at hs
        rw [mBeg_ne (by omega)]
        exact D.zc e e0 e1 hs
    · intro e t e0 e1 hs t0 t1
      rw [mBeg_ne (by omega)] at e1 t1
      by_cases y : e = it
      · rw [y, mBeg_52] at hs; omega
      · rw [m52' e y] at hs
        rw [mBeg_ne (by omega)]
        exact D.zt e t e0 e1 hs t0 t1
    · intro e i e0 e1 i0 i1
      rw [mBeg_ne (by omega)] at e1 i1
      rw [nBeg_ne (by omega), mBeg_ne (by omega)]
      exact D.ar e i e0 e1 i0 i1
    · intro e i e0 e1 i0 i1 hs
      rw [mBeg_ne (by omega)] at e1 i1 hs
      rw [nBeg_ne (by omega)]
      exact D.an e i e0 e1 i0 i1 hs
    · intro e i e0 e1 i0 i1 hs
      rw [mBeg_ne (by omega)] at e1 i1
      by_cases y : 100 + 4 * e + i = it
      · rw [y, mBeg_52] at hs; omega
      · rw [m52' _ y] at hs
        rw [nBeg_ne (by omega), mBeg_ne (by omega)]
        exact D.ho e i e0 e1 i0 i1 hs
    · exact D.ur
    · exact D.u
    · rw [nBeg_ne (by omega), mBeg_ne (by omega)]; exact D.uc
    · intro p p0 hs
      by_cases y : gm 5 p / 1000 = it
      · rw [y, mBeg_52] at hs; omega
      · rw [m52' _ y] at hs
        exact D.uz p p0 hs
  · rw [nBeg_ne (by omega), mBeg_ne (by omega)]; exact k.cc
  · rw [mBeg_ne (by omega)]; exact k.cc0
  · rw [mBeg_ne (by omega)]; exact k.cc1
  · rw [mBeg_ne (by omega)] at j1
    rw [nBeg_ne (by omega), mBeg_ne (by omega)]; exact k.ck j j0 j1
  · rw [mBeg_ne (by omega)] at j1
    rw [nBeg_ne (by omega), mBeg_ne (by omega)]; exact k.ci j j0 j1
  · rw [nBeg_ne (by omega), mBeg_ne (by omega)]; exact h.fl
  · rw [mBeg_ne (by omega)]; exact h.f01
  · rw [nBeg_5 b0, mBeg_64]
  · rw [mBeg_64]; omega
  · rw [mBeg_64]; omega
  · rw [mBeg_64] at j1
    by_cases e : j = M 0 64
    · rw [e, nBeg_32 b0, mBeg_63]
    · rw [nBeg_ne (by omega), mBeg_ne (by omega)]; exact h.uw j j0 (by omega)
  · rw [nBeg_ne (by omega)]; exact h.tp0
  · rw [nBeg_ne (by omega)]; exact h.tp1
  · rw [mBeg_ne (by omega)]
    intro e
    omega
