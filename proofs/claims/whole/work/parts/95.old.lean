/-! ===== a book where another is kept ===== -/
theorem Rbk.f62 {c c' : Int → Int} {N N' M M' : Mem} {b : Int} (h : Rbk c N M b) (f0 : N' 62 b = N 62 b) (f1 : c' (128 * b + 1) = c (128 * b + 1)) (f2 : ∀ j, N' (128 * b + 1) j = N (128 * b + 1) j) (f3 : c' (128 * b + 2) = c (128 * b + 2)) (f4 : ∀ j, N' (128 * b + 2) j = N (128 * b + 2) j) (f5 : M' 10 b = M 10 b) (f6 : M' 11 b = M 11 b) (f7 : c' (128 * b + 20) = c (128 * b + 20)) (f8 : ∀ j, N' (128 * b + 20) j = N (128 * b + 20) j) (f9 : c' (128 * b + 21) = c (128 * b + 21)) (f10 : c' (128 * b + 22) = c (128 * b + 22)) (f11 : ∀ j, N' (128 * b + 21) j = N (128 * b + 21) j) (f12 : ∀ j, N' (128 * b + 22) j = N (128 * b + 22) j) (f13 : c' (128 * b + 23) = c (128 * b + 23)) (f14 : ∀ j, N' (128 * b + 23) j = N (128 * b + 23) j) (f15 : c' (128 * b + 24) = c (128 * b + 24)) (f16 : ∀ j, N' (128 * b + 24) j = N (128 * b + 24) j) (f17 : c' (128 * b + 25) = c (128 * b + 25)) (f18 : ∀ j, N' (128 * b + 25) j = N (128 * b + 25) j) (f19 : c' (128 * b + 26) = c (128 * b + 26)) (f20 : ∀ j, N' (128 * b + 26) j = N (128 * b + 26) j) (f21 : ∀ i, 0 ≤ i → i < 148 → M' 52 (160 * b + i) = M 52 (160 * b + i)) (f22 : M' 59 b = M 59 b) (f23 : ∀ i, 0 ≤ i → i < M 59 b → M' 58 (160 * b + i) = M 58 (160 * b + i)) (f24 : M' 62 b = M 62 b) (f25 : ∀ i, 0 ≤ i → i < M 62 b → M' 60 (3100 * b + i) = M 60 (3100 * b + i)) (f26 : ∀ i, 0 ≤ i → i < M 62 b → M' 61 (3100 * b + i) = M 61 (3100 * b + i)) (f27 : ∀ e, 0 ≤ e → e < M 10 b → c' (128 * (12 * b + e) + 3) = c (128 * (12 * b + e) + 3)) : Rbk c' N' M' b := by
  refine ⟨?_, ?_, ?_, ?_, ?_, ?_, ?_, ?_, ?_, ?_, ?_, ?_, ?_, ?_, ?_, ?_, ?_, ?_, ?_, ?_, ?_, ?_, ?_, ?_, ?_, ?_, ?_, ?_, ?_, ?_, ?_, ?_, ?_, ?_, ?_, ?_, ?_, ?_, ?_, ?_, ?_, ?_, ?_, ?_, ?_⟩
  · have q := h.i0
    skip
    exact q
  · have q := h.r
    simp only [f0, f1]
    exact q
  · have q := h.g1
    simp only [f2]
    exact q
  · have q := h.r0
    simp only [f2, f3]
    exact q
  · have q := h.g2
    simp only [f4]
    exact q
  · have q := h.n2
    simp only [f4]
    exact q
  · have q := h.ne
    simp only [f2, f5]
    exact q
  · have q := h.ne0
    simp only [f5]
    exact q
  · have q := h.ne1
    simp only [f5]
    exact q
  · have q := h.na
    simp only [f2, f6]
    exact q
  · have q := h.na0
    simp only [f6]
    exact q
  · have q := h.na1
    simp only [f6]
    exact q
  · have q := h.r3
    simp only [f2, f7]
    exact q
  · have q := h.g20
    simp only [f8]
    exact q
  · have q := h.r20
    simp only [f8, f9]
    exact q
  · have q := h.r21
    simp only [f8, f10]
    exact q
  · have q := h.g21
    simp only [f11]
    exact q
  · have q := h.n21
    simp only [f11, f8]
    exact q
  · have q := h.g22
    simp only [f12]
    exact q
  · have q := h.n22
    simp only [f12, f8]
    exact q
  · have q := h.cl0
    simp only [f8]
    exact q
  · have q := h.cl1
    simp only [f8]
    exact q
  · have q := h.r4
    simp only [f2, f13]
    exact q
  · have q := h.g23
    simp only [f14]
    exact q
  · have q := h.n23
    simp only [f14]
    exact q
  · have q := h.r5
    simp only [f2, f15]
    exact q
  · have q := h.g24
    simp only [f16]
    exact q
  · have q := h.n24
    simp only [f16]
    exact q
  · have q := h.r7
    simp only [f2, f17]
    exact q
  · have q := h.g25
    simp only [f18]
    exact q
  · have q := h.n25
    simp only [f18, f8]
    exact q
  · have q := h.r8
    simp only [f2, f19]
    exact q
  · have q := h.g26
    simp only [f20]
    exact q
  · have q := h.n26
    simp only [f20, f8]
    exact q
  · intro i i0 i1
    try simp only [f14] at i1
    have q := h.st i i0 i1
    simp only [f14, f21 i i0 i1]
    exact q
  · have q := h.nt
    simp only [f2, f22]
    exact q
  · have q := h.nt0
    simp only [f22]
    exact q
  · have q := h.nt1
    simp only [f22]
    exact q
  · intro i i0 i1
    try simp only [f16, f22] at i1
    have q := h.ts i i0 i1
    simp only [f16, f22, f23 i i0 i1]
    exact q
  · have q := h.nz
    simp only [f2, f24]
    exact q
  · have q := h.nz0
    simp only [f24]
    exact q
  · have q := h.nz1
    simp only [f8, f24]
    exact q
  · intro i i0 i1
    try simp only [f18, f24] at i1
    have q := h.zb i i0 i1
    simp only [f18, f24, f25 i i0 i1]
    exact q
  · intro i i0 i1
    try simp only [f20, f24] at i1
    have q := h.zo i i0 i1
    simp only [f20, f24, f26 i i0 i1]
    exact q
  · intro e i0 i1
    try simp only [f4, f5] at i1
    have q := h.re e i0 i1
    simp only [f4, f5, f27 e i0 i1]
    exact q
/-! ===== enums and constants where texts change ===== -/
theorem Ren.f7 {c c' : Int → Int} {N N' M M' : Mem} {g : Int} (h : Ren c N M g) (f0 : ∀ j, N' (128 * g + 3) j = N (128 * g + 3) j) (f1 : c' (128 * g + 4) = c (128 * g + 4)) (f2 : ∀ j, N' (128 * g + 4) j = N (128 * g + 4) j) (f3 : c' (128 * g + 7) = c (128 * g + 7)) (f4 : ∀ j, N' (128 * g + 7) j = N (128 * g + 7) j) (f5 : c' (128 * g + 8) = c (128 * g + 8)) (f6 : ∀ j, N' (128 * g + 8) j = N (128 * g + 8) j) (f7 : c' (128 * g + 12) = c (128 * g + 12)) (f8 : ∀ j, N' (128 * g + 12) j = N (128 * g + 12) j) (f9 : c' (128 * g + 13) = c (128 * g + 13)) (f10 : ∀ j, N' (128 * g + 13) j = N (128 * g + 13) j) (f11 : c' (128 * g + 14) = c (128 * g + 14)) (f12 : ∀ j, N' (128 * g + 14) j = N (128 * g + 14) j) (f13 : c' (128 * g + 15) = c (128 * g + 15)) (f14 : ∀ j, N' (128 * g + 15) j = N (128 * g + 15) j) (f15 : c' (128 * g + 16) = c (128 * g + 16)) (f16 : ∀ j, N' (128 * g + 16) j = N (128 * g + 16) j) (f17 : M' 13 g = M 13 g) (f18 : NR M' (N' (128 * g + 3) 0) (M' 13 g)) (f19 : M' 14 g = M 14 g) (f20 : M' 15 g = M 15 g) (f21 : M' 16 g = M 16 g) (f22 : M' 17 g = M 17 g) (f23 : M' 18 g = M 18 g) (f24 : ∀ a, 0 ≤ a → a < 4 → M' 19 (4 * g + a) = M 19 (4 * g + a)) (f25 : M' 53 g = M 53 g) (f26 : ∀ i, 0 ≤ i → i < M 14 g → c' (128 * (24 * g + i) + 5) = c (128 * (24 * g + i) + 5)) (f27 : ∀ t, 0 ≤ t → t < M 15 g → c' (128 * (4 * g + t) + 9) = c (128 * (4 * g + t) + 9)) (f28 : ∀ s, 0 ≤ s → s < M 18 g → c' (128 * (3 * g + s) + 17) = c (128 * (3 * g + s) + 17)) : Ren c' N' M' g := by
  refine ⟨?_, ?_, ?_, ?_, ?_, ?_, ?_, ?_, ?_, ?_, ?_, ?_, ?_, ?_, ?_, ?_, ?_, ?_, ?_, ?_, ?_, ?_, ?_, ?_, ?_, ?_, ?_, ?_, ?_, ?_, ?_, ?_, ?_, ?_, ?_, ?_, ?_, ?_, ?_, ?_, ?_, ?_, ?_, ?_, ?_, ?_, ?_, ?_⟩
  · have q := h.g3
    simp only [f0]
    exact q
  · have q := h.r3
    simp only [f0, f1]
    exact q
  · have q := h.g4
    simp only [f2]
    exact q
  · have q := h.n4
    simp only [f2]
    exact q
  · have q := h.r6
    simp only [f0, f3]
    exact q
  · have q := h.g7
    simp only [f4]
    exact q
  · have q := h.n7
    simp only [f4]
    exact q
  · have q := h.r7
    simp only [f0, f5]
    exact q
  · have q := h.g8
    simp only [f6]
    exact q
  · have q := h.n8
    simp only [f6]
    exact q
  · have q := h.r9
    simp only [f0, f7]
    exact q
  · have q := h.g12
    simp only [f8]
    exact q
  · have q := h.n12
    simp only [f8]
    exact q
  · have q := h.r11
    simp only [f0, f9]
    exact q
  · have q := h.g13
    simp only [f10]
    exact q
  · have q := h.n13
    simp only [f10]
    exact q
  · have q := h.r12
    simp only [f0, f11]
    exact q
  · have q := h.g14
    simp only [f12]
    exact q
  · have q := h.n14
    simp only [f12]
    exact q
  · have q := h.r13
    simp only [f0, f13]
    exact q
  · have q := h.g15
    simp only [f14]
    exact q
  · have q := h.n15
    simp only [f14]
    exact q
  · have q := h.r15
    simp only [f0, f15]
    exact q
  · have q := h.g16
    simp only [f16]
    exact q
  · have q := h.n16
    simp only [f16]
    exact q
  · exact f18
  · have q := h.nc
    simp only [f0, f19]
    exact q
  · have q := h.nc0
    simp only [f19]
    exact q
  · have q := h.nc1
    simp only [f19]
    exact q
  · have q := h.nt
    simp only [f0, f20]
    exact q
  · have q := h.nt0
    simp only [f20]
    exact q
  · have q := h.nt1
    simp only [f20]
    exact q
  · have q := h.nk
    simp only [f0, f21]
    exact q
  · have q := h.nk0
    simp only [f21]
    exact q
  · have q := h.nk1
    simp only [f21]
    exact q
  · have q := h.nh
    simp only [f0, f22]
    exact q
  · have q := h.nh0
    simp only [f22]
    exact q
  · have q := h.nh1
    simp only [f22]
    exact q
  · have q := h.nw
    simp only [f0, f23]
    exact q
  · have q := h.nw0
    simp only [f23]
    exact q
  · have q := h.nw1
    simp only [f23]
    exact q
  · intro a i0 i1
    try simp only [f4] at i1
    have q := h.bd a i0 i1
    simp only [f4, f24 a i0 i1]
    exact q
  · have q := h.md
    simp only [f0, f25]
    exact q
  · have q := h.md0
    simp only [f25]
    exact q
  · have q := h.md1
    simp only [f25, f19]
    exact q
  · intro i i0 i1
    try simp only [f2, f19] at i1
    have q := h.rc i i0 i1
    simp only [f2, f19, f26 i i0 i1]
    exact q
  · intro t i0 i1
    try simp only [f6, f20] at i1
    have q := h.rt t i0 i1
    simp only [f6, f20, f27 t i0 i1]
    exact q
  · intro s i0 i1
    try simp only [f16, f23] at i1
    have q := h.rs s i0 i1
    simp only [f16, f23, f28 s i0 i1]
    exact q
theorem Rcn.f7 {c c' : Int → Int} {N N' M M' : Mem} {q : Int} (h : Rcn c N M q) (f0 : ∀ j, N' (128 * q + 5) j = N (128 * q + 5) j) (f1 : c' (128 * q + 6) = c (128 * q + 6)) (f2 : ∀ j, N' (128 * q + 6) j = N (128 * q + 6) j) (f3 : M' 20 q = M 20 q) (f4 : NR M' (N' (128 * q + 5) 0) (M' 20 q)) (f5 : ∀ a, 0 ≤ a → a < 4 → M' 22 (4 * q + a) = M 22 (4 * q + a)) (f6 : M' 21 q = M 21 q) : Rcn c' N' M' q := by
  refine ⟨?_, ?_, ?_, ?_, ?_, ?_, ?_⟩
  · have q := h.g5
    simp only [f0]
    exact q
  · have q := h.r3
    simp only [f0, f1]
    exact q
  · have q := h.g6
    simp only [f2]
    exact q
  · have q := h.n6
    simp only [f2]
    exact q
  · exact f4
  · intro a i0 i1
    try simp only [f2] at i1
    have q := h.bd a i0 i1
    simp only [f2, f5 a i0 i1]
    exact q
  · have q := h.ar
    simp only [f0, f6]
    exact q
theorem NR.m7b {M M' : Mem} {v n : Int} (h : NR M v n) (m : ∀ i, 0 ≤ i → i < n / 16 + n % 16 → M' 7 i = M 7 i) : NR M' v n := by
  obtain ⟨h1, h2, h3, h4, h5, h6⟩ := h
  refine ⟨h1, h2, h3, h4, fun k k0 k1 => ?_, ?_⟩
  · rw [m _ (by omega) (by omega)]; exact h5 k k0 k1
  · rw [h6]
    refine pkd_cg _ (fun k k0 k1 => ?_)
    show rnk (M 7 (n / 16 + k)) = rnk (M' 7 (n / 16 + k))
    rw [m _ (by omega) (by omega)]
/-- what of the reference the books ahead of b hang on -/
def OLD (b X : Int) (M M' : Mem) : Prop := (∀ i, i < 3000 * b → M' 7 i = M 7 i) ∧ (∀ k i, k = 10 ∨ k = 11 ∨ k = 59 ∨ k = 62 → i < b → M' k i = M k i) ∧ (∀ k i, (13 ≤ k ∧ k ≤ 18) ∨ k = 53 → i < 12 * b → M' k i = M k i) ∧ (∀ k i, k = 19 ∨ k = 23 ∨ k = 24 ∨ k = 27 ∨ k = 28 ∨ k = 55 ∨ k = 57 → i < 48 * b → M' k i = M k i) ∧ (∀ k i, k = 20 ∨ k = 21 ∨ k = 54 → i < 288 * b → M' k i = M k i) ∧ (∀ i, i < 1152 * b → M' 22 i = M 22 i) ∧ (∀ k i, k = 25 ∨ k = 56 → i < 576 * b → M' k i = M k i) ∧ (∀ k i, k = 26 ∨ k = 29 ∨ k = 30 ∨ k = 34 → i < 36 * b → M' k i = M k i) ∧ (∀ k i, 31 ≤ k ∧ k ≤ 33 → i < 432 * b → M' k i = M k i) ∧ (∀ k i, k = 52 ∨ k = 58 → i < 160 * b → M' k i = M k i) ∧ (∀ k i, k = 60 ∨ k = 61 → i < 3100 * b → M' k i = M k i) ∧ (∀ k i, 35 ≤ k ∧ k ≤ 39 → i < X → M' k i = M k i)
set_option maxHeartbeats 2000000 in
theorem BkR.frk {c c' : Int → Int} {b b' : Int} {N M N' M' : Mem} (h : BkR c N M b') (b0 : 0 ≤ b') (bb : b' < b) (xe : Xe M) (hb : M 0 8 = b) (n : ∀ L j, bkL b' L → c' L = c L ∧ N' L j = N L j) (n62 : ∀ j, j < b → N' 62 j = N 62 j) (O : OLD b (M 0 40) M M') (x1 : M 0 40 ≤ M' 0 40) (x2 : M' 0 40 ≤ 31000) : BkR c' N' M' b' := by
  have nN : ∀ L j, bkL b' L → N' L j = N L j := fun L j q => (n L j q).2
  have nc : ∀ L, bkL b' L → c' L = c L := fun L q => (n L 0 q).1
  obtain ⟨o7, o10, o13, o19, o20, o22, o25, o26, o31, o52, o60, o35⟩ := O
  have q := h.bk
  have ne1 := q.ne1
  have nt1 := q.nt1
  have nz1 := q.nz1
  have cl1 := q.cl1
  have m10 : M' 10 b' = M 10 b' := o10 _ _ (by omega) bb
  have n21 : ∀ j, N' (128 * b' + 21) j = N (128 * b' + 21) j := fun j => nN _ _ (by unfold bkL; omega)
  have n22 : ∀ j, N' (128 * b' + 22) j = N (128 * b' + 22) j := fun j => nN _ _ (by unfold bkL; omega)
  have n20 : ∀ j, N' (128 * b' + 20) j = N (128 * b' + 20) j := fun j => nN _ _ (by unfold bkL; omega)
  obtain ⟨gm, U, bn, bt, D⟩ := h.2.1
  have key : ∀ e, 0 ≤ e → e < M 10 b' → M' 14 (12 * b' + e) = M 14 (12 * b' + e) ∧ M' 15 (12 * b' + e) = M 15 (12 * b' + e) ∧ M' 16 (12 * b' + e) = M 16 (12 * b' + e) ∧ M' 17 (12 * b' + e) = M 17 (12 * b' + e) ∧ M' 18 (12 * b' + e) = M 18 (12 * b' + e) ∧ M' 53 (12 * b' + e) = M 53 (12 * b' + e) := fun e e0 e1 => ⟨o13 _ _ (by omega) (by omega), o13 _ _ (by omega) (by omega), o13 _ _ (by omega) (by omega), o13 _ _ (by omega) (by omega), o13 _ _ (by omega) (by omega), o13 _ _ (by omega) (by omega)⟩
  refine ⟨⟨?_, fun e e0 e1 => ?_⟩, ⟨gm, U, ⟨x2, fun x hx => ?_⟩, fun e e0 e1 => ?_, ?_⟩, fun i i0 i1 => ?_⟩
  · apply Rbk.f62 q <;> intros <;> first | rfl | exact n62 _ bb | exact nc _ (by unfold bkL; omega) | exact nN _ _ (by unfold bkL; omega) | exact o10 _ _ (by omega) (by omega) | exact o52 _ _ (by omega) (by omega) | exact o60 _ _ (by omega) (by omega)
  · rw [m10] at e1
    have k := h.be e0 e1
    have nc1 := k.en.nc1
    have nt1 := k.en.nt1
    have nw1 := k.en.nw1
    obtain ⟨k14, k15, k16, k17, k18, k53⟩ := key e e0 e1
    have xb := xe.2.2.2 b' e b0 (by omega) e0 e1
    refine ⟨?_, fun i i0 i1 => ?_, fun i i0 i1 => ?_, fun i i0 i1 => ?_⟩
    · have nrE : NR M' (N' (128 * (12 * b' + e) + 3) 0) (M' 13 (12 * b' + e)) := by
        rw [nN _ _ (by unfold bkL; omega), o13 13 _ (by omega) (by omega)]
        exact k.en.nm.m7b (fun i _ q => o7 i (by omega))
      apply Ren.f7 k.en <;> intros <;> first | rfl | exact nrE | exact nc _ (by unfold bkL; omega) | exact nN _ _ (by unfold bkL; omega) | exact o13 _ _ (by omega) (by omega) | exact o19 _ _ (by omega) (by omega)
    · rw [k14] at i1
      have nrC : NR M' (N' (128 * (24 * (12 * b' + e) + i) + 5) 0) (M' 20 (24 * (12 * b' + e) + i)) := by
        rw [nN _ _ (by unfold bkL; omega), o20 20 _ (by omega) (by omega)]
        have := xb.2 i i0 i1
        exact (k.cn i0 i1).nm.m7b (fun t _ q => o7 t (by omega))
      apply Rcn.f7 (k.cn i0 i1) <;> intros <;> first | rfl | exact nrC | exact nc _ (by unfold bkL; omega) | exact nN _ _ (by unfold bkL; omega) | exact o20 _ _ (by omega) (by omega) | exact o22 _ (by omega)
    · rw [k15] at i1
      have w0 := k.tb i0 i1
      have w1 := w0.th1
      have w2 := w0.ne1
      apply Rtb.fr w0 <;> intros <;> first | rfl | exact nc _ (by unfold bkL; omega) | exact nN _ _ (by unfold bkL; omega) | exact o19 _ _ (by omega) (by omega) | exact o25 _ _ (by omega) (by omega)
    · rw [k18] at i1
      apply Rsw.fr (k.sw i0 i1) <;> intros <;> first | rfl | exact nc _ (by unfold bkL; omega) | exact nN _ _ (by unfold bkL; omega) | exact o26 _ _ (by omega) (by omega)
  · have lc := bn.2 x hx
    have x0 := lc.1
    have x3 := lc.2.1
    have w39 := xe.2.2.1 x x0 x3
    have ch : ∀ y, gm 0 y = 1 → y < M 0 40 := fun y hy => (bn.2 y hy).2.1
    have m35 : ∀ k, 35 ≤ k → k ≤ 39 → M' k x = M k x := fun k k1 k2 => o35 k x ⟨k1, k2⟩ x3
    unfold LCn at lc ⊢
    rw [n20]
    refine ⟨lc.1, by omega, lc.2.2.1, lc.2.2.2.1, lc.2.2.2.2.1, lc.2.2.2.2.2.1, lc.2.2.2.2.2.2.1, lc.2.2.2.2.2.2.2.1, lc.2.2.2.2.2.2.2.2.1, ?_⟩
    have lk := lc.2.2.2.2.2.2.2.2.2
    unfold LCk at lk ⊢
    rw [m35 35 (by decide) (by decide), m35 36 (by decide) (by decide), m35 37 (by decide) (by decide), m35 39 (by decide) (by decide), m10]
    simp only [n21, n22]
    rcases lk with y | y | y | y | y | y | y | y | y | y
    · exact Or.inl y
    · exact Or.inr (Or.inl y)
    · refine Or.inr (Or.inr (Or.inl ?_))
      rw [o35 35 (M 36 x) (by omega) (ch _ y.2.2.1), o35 38 (M 36 x) (by omega) (ch _ y.2.2.1)]
      exact y
    · exact Or.inr (Or.inr (Or.inr (Or.inl y)))
    · exact Or.inr (Or.inr (Or.inr (Or.inr (Or.inl y))))
    · exact Or.inr (Or.inr (Or.inr (Or.inr (Or.inr (Or.inl y)))))
    · refine Or.inr (Or.inr (Or.inr (Or.inr (Or.inr (Or.inr (Or.inl ?_))))))
      rw [o13 14 (M 39 x) (by omega) (by omega)]
      exact y
    · refine Or.inr (Or.inr (Or.inr (Or.inr (Or.inr (Or.inr (Or.inr (Or.inl ?_)))))))
      obtain ⟨y1, y2, y3, e, i, z1, z2, z3, z4, z5, z6⟩ := y
      exact ⟨y1, y2, y3, e, i, z1, z2, z3, by rw [(key e z1 z2).1]; exact z4, z5, z6⟩
    · refine Or.inr (Or.inr (Or.inr (Or.inr (Or.inr (Or.inr (Or.inr (Or.inr (Or.inl ?_))))))))
      obtain ⟨y1, y2, y3, e, i, z1, z2, z3, z4, z5, z6⟩ := y
      exact ⟨y1, y2, y3, e, i, z1, z2, z3, by rw [(key e z1 z2).2.2.2.1]; exact z4, z5, z6⟩
    · refine Or.inr (Or.inr (Or.inr (Or.inr (Or.inr (Or.inr (Or.inr (Or.inr (Or.inr ?_))))))))
      obtain ⟨y1, y2, y3, y4, y5, y6, y7, y8, e, i, z1, z2, z3, z4, z5, z6⟩ := y
      exact ⟨y1, y2, y3, y4, y5, y6, y7, y8, e, i, z1, z2, z3, by rw [(key e z1 z2).2.1]; exact z4, z5, z6⟩
  · rw [m10] at e1
    have k := h.be e0 e1
    have nc1 := k.en.nc1
    have nt1 := k.en.nt1
    have nw1 := k.en.nw1
    have nk1 := k.en.nk1
    have nh1 := k.en.nh1
    obtain ⟨k14, k15, k16, k17, k18, k53⟩ := key e e0 e1
    have T := bt e e0 e1
    refine ⟨?_, ?_, ?_, ?_, ?_, ?_, ?_, ?_, ?_⟩
    · intro i i0 i1 q
      rw [k14] at i1
      rw [o20 _ _ (by omega) (by omega)] at q ⊢
      exact (T.ar i i0 i1 q).cg n21 (nN _ _ (by unfold bkL; omega))
    · intro i a i0 i1 a0 a1 q
      rw [k14] at i1
      rw [o22 _ (by omega)] at q ⊢
      exact (T.ob i a i0 i1 a0 a1 q).cg n21 (nN _ _ (by unfold bkL; omega))
    · intro a a0 a1 q
      rw [o19 _ _ (by omega) (by omega)] at q ⊢
      exact (T.eb a a0 a1 q).cg n21 (nN _ _ (by unfold bkL; omega))
    · intro t k' t0 t1 k0 k1
      rw [k15] at t1
      rw [o19 24 _ (by omega) (by omega)] at k1
      have := (k.tb t0 t1).ne1
      rw [o25 _ _ (by omega) (by omega)]
      exact (T.tb t k' t0 t1 k0 k1).cg n21 (nN _ _ (by unfold bkL; omega))
    · intro k' k0 k1
      rw [k16] at k1
      rw [o26 _ _ (by omega) (by omega)]
      exact (T.ck k' k0 k1).cg n21 (nN _ _ (by unfold bkL; omega))
    · intro k' k0 k1
      rw [k17] at k1
      rw [o19 _ _ (by omega) (by omega)]
      exact (T.ho k' k0 k1).cg n21 (nN _ _ (by unfold bkL; omega))
    · intro s s0 s1
      rw [k18] at s1
      rw [o26 _ _ (by omega) (by omega)]
      exact (T.el s s0 s1).cg n21 (nN _ _ (by unfold bkL; omega))
    · intro s k' s0 s1 k0 k1
      rw [k18] at s1
      rw [o26 30 _ (by omega) (by omega)] at k1
      have := (k.sw s0 s1).nc1
      have y := T.ca s k' s0 s1 k0 k1
      have z : ∀ j, N' (128 * (3 * (12 * b' + e) + s) + 19) j = N (128 * (3 * (12 * b' + e) + s) + 19) j := fun j => nN _ _ (by unfold bkL; omega)
      rw [z, n22, o31 33 _ (by omega) (by omega), o31 32 _ (by omega) (by omega)]
      exact ⟨y.1.cg n21 rfl, y.2⟩
    · intro s k' k2 s0 s1 k0 k1 k3
      rw [k18] at s1
      rw [o26 30 _ (by omega) (by omega)] at k3
      have := (k.sw s0 s1).nc1
      rw [o31 32 _ (by omega) (by omega), o31 32 _ (by omega) (by omega)]
      exact T.cd s k' k2 s0 s1 k0 k1 k3
  · refine ⟨?_, ?_, ?_, ?_, ?_, ?_, ?_, ?_, ?_, ?_, ?_, ?_, ?_, ?_, ?_⟩
    · intro i i0 i1
      rw [o52 _ _ (by omega) (by omega)]
      exact D.s0 i i0 i1
    · intro i i0 i1
      rw [o52 _ _ (by omega) (by omega)]
      exact D.s3 i i0 i1
    · intro i i0 i1
      rw [o52 _ _ (by omega) (by omega)]
      exact D.sz i i0 i1
    · rw [o10 _ _ (by omega) bb]
      refine D.sc.trans (cnt_congr 148 (fun i i0 i1 => ?_))
      rw [o52 _ _ (by omega) (by omega)]
    · intro e e0 e1 hs
      rw [m10] at e1
      rw [o52 _ _ (by omega) (by omega)] at hs
      rw [(key e e0 e1).2.2.2.2.2, (key e e0 e1).1]
      exact D.wc e e0 e1 hs
    · intro e t e0 e1 hs t0 t1
      rw [m10] at e1
      have nt := (h.be e0 e1).en.nt1
      rw [o52 _ _ (by omega) (by omega)] at hs
      rw [(key e e0 e1).2.1] at t1
      rw [o19 55 _ (by omega) (by omega), o19 24 _ (by omega) (by omega)]
      exact D.wt e t e0 e1 hs t0 t1
    · intro e e0 e1 hs
      rw [m10] at e1
      rw [o52 _ _ (by omega) (by omega)] at hs
      rw [(key e e0 e1).2.2.2.2.2]
      exact D.zc e e0 e1 hs
    · intro e t e0 e1 hs t0 t1
      rw [m10] at e1
      have nt := (h.be e0 e1).en.nt1
      rw [o52 _ _ (by omega) (by omega)] at hs
      rw [(key e e0 e1).2.1] at t1
      rw [o19 55 _ (by omega) (by omega)]
      exact D.zt e t e0 e1 hs t0 t1
    · intro e i e0 e1 i0 i1
      rw [m10] at e1
      have nc := (h.be e0 e1).en.nc1
      have md := (h.be e0 e1).en.md1
      rw [(key e e0 e1).2.2.2.2.2] at i1
      rw [nN _ _ (by unfold bkL; omega), o20 54 _ (by omega) (by omega)]
      exact D.ar e i e0 e1 i0 i1
    · intro e i e0 e1 i0 i1 hs
      rw [m10] at e1
      have nc := (h.be e0 e1).en.nc1
      rw [(key e e0 e1).1] at i1
      rw [o20 21 _ (by omega) (by omega)] at hs
      rw [nN _ _ (by unfold bkL; omega)]
      exact D.an e i e0 e1 i0 i1 hs
    · intro e i e0 e1 i0 i1 hs
      rw [m10] at e1
      have nh := (h.be e0 e1).en.nh1
      rw [(key e e0 e1).2.2.2.1] at i1
      rw [o52 _ _ (by omega) (by omega)] at hs
      rw [nN _ _ (by unfold bkL; omega), o19 57 _ (by omega) (by omega)]
      exact D.ho e i e0 e1 i0 i1 hs
    · exact D.ur
    · exact D.u
    · rw [n20, o10 _ _ (by omega) bb]
      exact D.uc
    · intro p p0 hs
      have := D.ur p p0
      rw [o52 _ _ (by omega) (by omega)] at hs
      exact D.uz p p0 hs
  · rw [o52 _ _ (by omega) (by omega)]
    exact h.2.2 i i0 i1
