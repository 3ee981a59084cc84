/-! ===== set, map, join ===== -/
theorem nwl_ne {N : Mem} {L t n L' j : Int} (h : L' ≠ L) : nwl N L t n L' j = N L' j := by unfold nwl; rw [if_neg h]
theorem nwl_tag {N : Mem} {L t n : Int} : nwl N L t n L (-1) = t := by unfold nwl; rw [if_pos rfl, if_pos rfl]
theorem nwl_len {N : Mem} {L t n : Int} : nwl N L t n L (-2) = n := by unfold nwl; rw [if_pos rfl, if_neg (by decide), if_pos rfl]
def nSet (N : Mem) (n r b e v x : Int) : Mem := (up (up (up (up (up (up (nwl N (128 * n + 66) 7 0) (128 * n + 66) (3) (r)) (128 * n + 66) (0) (b)) (128 * n + 66) (1) (e)) (128 * n + 66) (2) (v)) (63) (n) (x)) (60) (10) (n + 1))
theorem nSet_ne {N : Mem} {n r b e v x L j : Int} (h : L ≠ 128 * n + 66 ∧ ¬ (L = 63 ∧ j = n) ∧ ¬ (L = 60 ∧ j = 10)) : nSet N n r b e v x L j = N L j := by
  unfold nSet
  rw [up_ne (by omega), up_ne (by omega), up_ne (by omega), up_ne (by omega), up_ne (by omega), up_ne (by omega), nwl_ne (by omega)]
theorem nSet_tag {N : Mem} {n r b e v x : Int} : nSet N n r b e v x (128 * n + 66) (-1) = 7 := by
  unfold nSet
  rw [up_ne (by omega), up_ne (by omega), up_ne (by omega), up_ne (by omega), up_ne (by omega), up_ne (by omega), nwl_tag]
theorem nSet_0 {N : Mem} {n r b e v x : Int} (n0 : 0 ≤ n) : nSet N n r b e v x (128 * n + 66) 0 = b := by
  unfold nSet
  rw [up_ne (by omega), up_ne (by omega), up_ne (by omega), up_ne (by omega), up_eq]
theorem nSet_1 {N : Mem} {n r b e v x : Int} (n0 : 0 ≤ n) : nSet N n r b e v x (128 * n + 66) 1 = e := by
  unfold nSet
  rw [up_ne (by omega), up_ne (by omega), up_ne (by omega), up_eq]
theorem nSet_2 {N : Mem} {n r b e v x : Int} (n0 : 0 ≤ n) : nSet N n r b e v x (128 * n + 66) 2 = v := by
  unfold nSet
  rw [up_ne (by omega), up_ne (by omega), up_eq]
theorem nSet_63 {N : Mem} {n r b e v x : Int} : nSet N n r b e v x 63 n = x := by
  unfold nSet
  rw [up_ne (by omega), up_eq]
theorem nSet_10 {N : Mem} {n r b e v x : Int} : nSet N n r b e v x 60 10 = n + 1 := by
  unfold nSet
  rw [up_eq]
def mSet (M : Mem) (n g v : Int) : Mem := (up (up (up M (70) (n) (g)) (71) (n) (v)) (0) (72) (n + 1))
theorem mSet_ne {M : Mem} {n g v L j : Int} (h : ¬ (L = 70 ∧ j = n) ∧ ¬ (L = 71 ∧ j = n) ∧ ¬ (L = 0 ∧ j = 72)) : mSet M n g v L j = M L j := (up_ne (by omega)).trans ((up_ne (by omega)).trans (up_ne (by omega)))
theorem mSet_0 {M : Mem} {n g v : Int} : mSet M n g v (70) (n) = g := by unfold mSet; rw [up_ne (by omega), up_ne (by omega), up_eq]
theorem mSet_1 {M : Mem} {n g v : Int} : mSet M n g v (71) (n) = v := by unfold mSet; rw [up_ne (by omega), up_eq]
theorem mSet_2 {M : Mem} {n g v : Int} : mSet M n g v (0) (72) = n + 1 := by unfold mSet; rw [up_eq]
theorem Rel.mset {c : Int → Int} {N M : Mem} {r b e v x : Int} (h : Rel c N M) (s1 : M 0 72 < 40) (b0 : 0 ≤ b) (b1 : b < M 0 8) (e0 : 0 ≤ e) (e1 : e < M 10 b) (v0 : 0 ≤ v) (v1 : v < 16777216) : Rel (upl c (128 * M 0 72 + 66) x) (nSet N (M 0 72) r b e v x) (mSet M (M 0 72) (12 * b + e) v) := by
  have q := h.top
  have n0 := q.ns0
  refine ⟨?_, ?_, ?_, fun t t0 t1 => ?_, fun t t0 t1 => ?_, fun t t0 t1 => ?_, fun t t0 t1 => ?_, fun t t0 t1 => ?_⟩
  ·
    refine ⟨?_, ?_, ?_, ?_, ?_, ?_, ?_, ?_, ?_, ?_, ?_, ?_, ?_, ?_, ?_, ?_, ?_, ?_, ?_, ?_, ?_, ?_, ?_, ?_, ?_, ?_, ?_, ?_, ?_, ?_, ?_, ?_, ?_, ?_, ?_, ?_, ?_, ?_⟩
    · have w := q.g60
      try simp (disch := omega) only [nSet_ne, mSet_ne]
      exact w
    · have w := q.g61
      try simp (disch := omega) only [nSet_ne, mSet_ne]
      exact w
    · have w := q.n61
      try simp (disch := omega) only [nSet_ne, mSet_ne]
      exact w
    · have w := q.g62
      try simp (disch := omega) only [nSet_ne, mSet_ne]
      exact w
    · have w := q.n62
      try simp (disch := omega) only [nSet_ne, mSet_ne]
      exact w
    · have w := q.g63
      try simp (disch := omega) only [nSet_ne, mSet_ne]
      exact w
    · have w := q.n63
      try simp (disch := omega) only [nSet_ne, mSet_ne]
      exact w
    · have w := q.g64
      try simp (disch := omega) only [nSet_ne, mSet_ne]
      exact w
    · have w := q.n64
      try simp (disch := omega) only [nSet_ne, mSet_ne]
      exact w
    · have w := q.g65
      try simp (disch := omega) only [nSet_ne, mSet_ne]
      exact w
    · have w := q.n65
      try simp (disch := omega) only [nSet_ne, mSet_ne]
      exact w
    · have w := q.r0
      simp (disch := omega) only [nSet_ne, mSet_ne, upl_ne]
      exact w
    · have w := q.r2
      simp (disch := omega) only [nSet_ne, mSet_ne, upl_ne]
      exact w
    · have w := q.r3
      simp (disch := omega) only [nSet_ne, mSet_ne, upl_ne]
      exact w
    · have w := q.r4
      simp (disch := omega) only [nSet_ne, mSet_ne, upl_ne]
      exact w
    · have w := q.r5
      simp (disch := omega) only [nSet_ne, mSet_ne, upl_ne]
      exact w
    · have w := q.r9
      simp (disch := omega) only [nSet_ne, mSet_ne, upl_ne]
      exact w
    · have w := q.r11
      simp (disch := omega) only [nSet_ne, mSet_ne, upl_ne]
      exact w
    · have w := q.r13
      simp (disch := omega) only [nSet_ne, mSet_ne, upl_ne]
      exact w
    · have w := q.r15
      simp (disch := omega) only [nSet_ne, mSet_ne, upl_ne]
      exact w
    · have w := q.tl
      try simp (disch := omega) only [nSet_ne, mSet_ne]
      exact w
    · have w := q.tl0
      try simp (disch := omega) only [nSet_ne, mSet_ne]
      exact w
    · have w := q.tl1
      try simp (disch := omega) only [nSet_ne, mSet_ne]
      exact w
    · intro j j0 j1
      rw [mSet_ne (by omega)] at j1
      rw [nSet_ne (by omega), mSet_ne (by omega)]
      exact q.tb j j0 j1
    · have w := q.nb
      try simp (disch := omega) only [nSet_ne, mSet_ne]
      exact w
    · have w := q.nb0
      try simp (disch := omega) only [nSet_ne, mSet_ne]
      exact w
    · have w := q.nb1
      try simp (disch := omega) only [nSet_ne, mSet_ne]
      exact w
    · have w := q.lf
      try simp (disch := omega) only [nSet_ne, mSet_ne]
      exact w
    · have w := q.lo
      try simp (disch := omega) only [nSet_ne, mSet_ne]
      exact w
    · rw [nSet_10, mSet_2]
    · rw [mSet_2]; omega
    · rw [mSet_2]; omega
    · have w := q.nm
      try simp (disch := omega) only [nSet_ne, mSet_ne]
      exact w
    · have w := q.nm0
      try simp (disch := omega) only [nSet_ne, mSet_ne]
      exact w
    · have w := q.nm1
      try simp (disch := omega) only [nSet_ne, mSet_ne]
      exact w
    · have w := q.ng
      try simp (disch := omega) only [nSet_ne, mSet_ne]
      exact w
    · have w := q.ng0
      try simp (disch := omega) only [nSet_ne, mSet_ne]
      exact w
    · have w := q.ng1
      try simp (disch := omega) only [nSet_ne, mSet_ne]
      exact w
  · apply Rwk.fr h.wk <;> intros <;> first | rfl | exact upl_ne (by omega) | exact nSet_ne (by omega) | exact mSet_ne (by omega) | exact funext fun _ => mSet_ne (by omega)
  · apply Rrd.fr h.rd <;> intros <;> first | rfl | exact upl_ne (by omega) | exact nSet_ne (by omega) | exact mSet_ne (by omega) | exact funext fun _ => mSet_ne (by omega)
  · rw [mSet_2] at t1
    by_cases y : t = M 0 72
    · subst y
      refine ⟨t0, ?_, nSet_tag, ?_, ?_, ?_, ?_, ?_, ?_, ?_, ?_⟩
      · rw [nSet_63, upl_eq]
      · rw [nSet_0 n0, nSet_1 n0, mSet_0]
      · rw [nSet_0 n0]; exact b0
      · rw [nSet_0 n0, mSet_ne (by omega)]; exact b1
      · rw [nSet_1 n0]; exact e0
      · rw [nSet_0 n0, nSet_1 n0, mSet_ne (by omega)]; exact e1
      · rw [nSet_2 n0, mSet_1]
      · rw [mSet_1]; exact v0
      · rw [mSet_1]; exact v1
    · have w0 := h.st t0 (by omega : t < M 0 72)
      apply Rst.fr w0 <;> intros <;> first | rfl | exact upl_ne (by omega) | exact nSet_ne (by omega) | exact mSet_ne (by omega) | exact funext fun _ => mSet_ne (by omega)
  · rw [mSet_ne (by omega)] at t1
    apply Rmp.fr (h.mp t0 t1) <;> intros <;> first | rfl | exact upl_ne (by omega) | exact nSet_ne (by omega) | exact mSet_ne (by omega) | exact funext fun _ => mSet_ne (by omega)
  · rw [mSet_ne (by omega)] at t1
    apply Rdr.fr (h.dr t0 t1) <;> intros <;> first | rfl | exact upl_ne (by omega) | exact nSet_ne (by omega) | exact mSet_ne (by omega) | exact funext fun _ => mSet_ne (by omega)
  · rw [mSet_ne (by omega)] at t1
    apply Rms.fr (h.ms t0 t1) <;> intros <;> first | rfl | exact upl_ne (by omega) | exact nSet_ne (by omega) | exact mSet_ne (by omega) | exact funext fun _ => mSet_ne (by omega)
  · rw [mSet_ne (by omega)] at t1
    exact (h.bk t0 t1).fr t0 (fun L j hL => nSet_ne (by omega)) (fun L hL => upl_ne (by omega)) (fun k j hk => mSet_ne (by unfold bkk at hk; omega)) (mSet_ne (by omega))
