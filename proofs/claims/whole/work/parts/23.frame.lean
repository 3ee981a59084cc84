/-! ===== each group of the relation under a change elsewhere ===== -/
theorem Rtop.fr {c c' : Int → Int} {N N' M M' : Mem} (h : Rtop c N M) (f0 : ∀ j, N' (60) j = N (60) j) (f1 : ∀ j, N' (61) j = N (61) j) (f2 : ∀ j, N' (62) j = N (62) j) (f3 : ∀ j, N' (63) j = N (63) j) (f4 : ∀ j, N' (64) j = N (64) j) (f5 : ∀ j, N' (65) j = N (65) j) (f6 : ∀ j, N' 60 j = N 60 j) (f7 : c' 61 = c 61) (f8 : c' 40 = c 40) (f9 : c' 50 = c 50) (f10 : c' 30 = c 30) (f11 : c' 62 = c 62) (f12 : c' 63 = c 63) (f13 : c' 64 = c 64) (f14 : c' 65 = c 65) (f15 : M' 0 81 = M 0 81) (f16 : c' (128 * M 0 81 + 70) = c (128 * M 0 81 + 70)) (f17 : M' 0 2 = M 0 2) (f18 : ∀ j, N' 61 j = N 61 j) (f19 : ∀ j, 0 ≤ j → j < M 0 2 → M' 1 j = M 1 j) (f20 : M' 0 8 = M 0 8) (f21 : M' 0 46 = M 0 46) (f22 : M' 0 69 = M 0 69) (f23 : M' 0 72 = M 0 72) (f24 : M' 0 76 = M 0 76) (f25 : M' 0 40 = M 0 40) (f26 : ∀ k j, k = 10 ∨ k = 13 ∨ k = 14 ∨ k = 20 ∨ k = 39 → M' k j = M k j) : Rtop c' N' M' := by
  refine ⟨?_, ?_, ?_, ?_, ?_, ?_, ?_, ?_, ?_, ?_, ?_, ?_, ?_, ?_, ?_, ?_, ?_, ?_, ?_, ?_, ?_, ?_, ?_, ?_, ?_, ?_, ?_, ?_, ?_, ?_, ?_, ?_, ?_, ?_, ?_, ?_, ?_, ?_, ?_⟩
  · have q := h.g60
    simp only [f0]
    exact q
  · have q := h.g61
    simp only [f1]
    exact q
  · have q := h.n61
    simp only [f1]
    exact q
  · have q := h.g62
    simp only [f2]
    exact q
  · have q := h.n62
    simp only [f2]
    exact q
  · have q := h.g63
    simp only [f3]
    exact q
  · have q := h.n63
    simp only [f3]
    exact q
  · have q := h.g64
    simp only [f4]
    exact q
  · have q := h.n64
    simp only [f4]
    exact q
  · have q := h.g65
    simp only [f5]
    exact q
  · have q := h.n65
    simp only [f5]
    exact q
  · have q := h.r0
    simp only [f6, f7]
    exact q
  · have q := h.r2
    simp only [f6, f8]
    exact q
  · have q := h.r3
    simp only [f6, f9]
    exact q
  · have q := h.r4
    simp only [f6, f10]
    exact q
  · have q := h.r5
    simp only [f6, f11]
    exact q
  · have q := h.r9
    simp only [f6, f12]
    exact q
  · have q := h.r11
    simp only [f6, f13]
    exact q
  · have q := h.r13
    simp only [f6, f14]
    exact q
  · have q := h.r15
    simp only [f6, f15, f16]
    exact q
  · have q := h.tl
    simp only [f6, f17]
    exact q
  · have q := h.tl0
    simp only [f17]
    exact q
  · have q := h.tl1
    simp only [f17]
    exact q
  · intro j i0 i1
    try simp only [f18, f17] at i1
    have q := h.tb j i0 i1
    simp only [f18, f17, f19 j i0 i1]
    exact q
  · intro j i0 i1
    try simp only [f17] at i1
    have q := h.tr j i0 i1
    simp only [f17, f19 j i0 i1]
    exact q
  · have q := h.nb
    simp only [f6, f20]
    exact q
  · have q := h.nb0
    simp only [f20]
    exact q
  · have q := h.nb1
    simp only [f20]
    exact q
  · have q := h.lf
    simp only [f6, f21]
    exact q
  · have q := h.lo
    simp only [f6, f22]
    exact q
  · have q := h.ns
    simp only [f6, f23]
    exact q
  · have q := h.ns0
    simp only [f23]
    exact q
  · have q := h.ns1
    simp only [f23]
    exact q
  · have q := h.nm
    simp only [f6, f24]
    exact q
  · have q := h.nm0
    simp only [f24]
    exact q
  · have q := h.nm1
    simp only [f24]
    exact q
  · have q := h.ng
    simp only [f6, f15]
    exact q
  · have q := h.ng0
    simp only [f15]
    exact q
  · have q := h.ngx
    exact ⟨by simp only [f15]; exact q.1, q.2.fr f25 f20 f26⟩
theorem Rwk.fr {c c' : Int → Int} {N N' M M' : Mem} (h : Rwk c N M) (f0 : ∀ j, N' (30) j = N (30) j) (f1 : ∀ j, N' (31) j = N (31) j) (f2 : ∀ j, N' (32) j = N (32) j) (f3 : ∀ j, N' (33) j = N (33) j) (f4 : ∀ j, N' (34) j = N (34) j) (f5 : ∀ j, N' 30 j = N 30 j) (f6 : c' 31 = c 31) (f7 : c' 32 = c 32) (f8 : c' 33 = c 33) (f9 : c' 34 = c 34) (f10 : M' 0 68 = M 0 68) (f11 : ∀ j, N' 33 j = N 33 j) (f12 : ∀ j, 0 ≤ j → j < M 0 68 → M' 66 j = M 66 j) (f13 : ∀ j, N' 34 j = N 34 j) (f14 : ∀ j, 0 ≤ j → j < M 0 68 → M' 67 j = M 67 j) : Rwk c' N' M' := by
  refine ⟨?_, ?_, ?_, ?_, ?_, ?_, ?_, ?_, ?_, ?_, ?_, ?_, ?_, ?_, ?_, ?_, ?_, ?_⟩
  · have q := h.g30
    simp only [f0]
    exact q
  · have q := h.g31
    simp only [f1]
    exact q
  · have q := h.n31
    simp only [f1]
    exact q
  · have q := h.g32
    simp only [f2]
    exact q
  · have q := h.n32
    simp only [f2]
    exact q
  · have q := h.g33
    simp only [f3]
    exact q
  · have q := h.n33
    simp only [f3]
    exact q
  · have q := h.g34
    simp only [f4]
    exact q
  · have q := h.n34
    simp only [f4]
    exact q
  · have q := h.r2
    simp only [f5, f6]
    exact q
  · have q := h.r4
    simp only [f5, f7]
    exact q
  · have q := h.r6
    simp only [f5, f8]
    exact q
  · have q := h.r7
    simp only [f5, f9]
    exact q
  · have q := h.cc
    simp only [f5, f10]
    exact q
  · have q := h.cc0
    simp only [f10]
    exact q
  · have q := h.cc1
    simp only [f10]
    exact q
  · intro j i0 i1
    try simp only [f11, f10] at i1
    have q := h.ck j i0 i1
    simp only [f11, f10, f12 j i0 i1]
    exact q
  · intro j i0 i1
    try simp only [f13, f10] at i1
    have q := h.ci j i0 i1
    simp only [f13, f10, f14 j i0 i1]
    exact q
theorem Rrd.fr {c c' : Int → Int} {N N' M M' : Mem} (h : Rrd c N M) (f0 : ∀ j, N' (40) j = N (40) j) (f1 : ∀ j, N' (41) j = N (41) j) (f2 : ∀ j, N' (42) j = N (42) j) (f3 : ∀ j, N' (43) j = N (43) j) (f4 : ∀ j, N' (44) j = N (44) j) (f5 : ∀ j, N' (50) j = N (50) j) (f6 : ∀ j, N' (51) j = N (51) j) (f7 : ∀ j, N' (120) j = N (120) j) (f8 : ∀ j, N' (121) j = N (121) j) (f9 : ∀ j, N' (122) j = N (122) j) (f10 : ∀ j, N' 40 j = N 40 j) (f11 : c' 41 = c 41) (f12 : c' 42 = c 42) (f13 : c' 43 = c 43) (f14 : c' 44 = c 44) (f15 : ∀ j, N' 50 j = N 50 j) (f16 : c' 40 = c 40) (f17 : c' 120 = c 120) (f18 : c' 51 = c 51) (f19 : ∀ j, N' 120 j = N 120 j) (f20 : c' 121 = c 121) (f21 : c' 122 = c 122) (f22 : ∀ j, N' 44 j = N 44 j) : Rrd c' N' M' := by
  refine ⟨?_, ?_, ?_, ?_, ?_, ?_, ?_, ?_, ?_, ?_, ?_, ?_, ?_, ?_, ?_, ?_, ?_, ?_, ?_, ?_, ?_, ?_, ?_, ?_, ?_, ?_, ?_, ?_, ?_, ?_, ?_, ?_, ?_, ?_, ?_, ?_, ?_, ?_⟩
  · have q := h.g40
    simp only [f0]
    exact q
  · have q := h.g41
    simp only [f1]
    exact q
  · have q := h.n41
    simp only [f1]
    exact q
  · have q := h.g42
    simp only [f2]
    exact q
  · have q := h.n42
    simp only [f2]
    exact q
  · have q := h.g43
    simp only [f3]
    exact q
  · have q := h.n43
    simp only [f3]
    exact q
  · have q := h.g44
    simp only [f4]
    exact q
  · have q := h.n44
    simp only [f4]
    exact q
  · have q := h.g50
    simp only [f5]
    exact q
  · have q := h.g51
    simp only [f6]
    exact q
  · have q := h.n51
    simp only [f6]
    exact q
  · have q := h.g120
    simp only [f7]
    exact q
  · have q := h.g121
    simp only [f8]
    exact q
  · have q := h.n121
    simp only [f8]
    exact q
  · have q := h.g122
    simp only [f9]
    exact q
  · have q := h.n122
    simp only [f9]
    exact q
  · have q := h.t0
    simp only [f10, f11]
    exact q
  · have q := h.t1
    simp only [f10, f12]
    exact q
  · have q := h.t2
    simp only [f10, f13]
    exact q
  · have q := h.t4
    simp only [f10, f14]
    exact q
  · have q := h.r0
    simp only [f15, f16]
    exact q
  · have q := h.r1
    simp only [f15, f17]
    exact q
  · have q := h.r2
    simp only [f15, f18]
    exact q
  · have q := h.c0
    simp only [f19, f20]
    exact q
  · have q := h.c1
    simp only [f19, f21]
    exact q
  · have q := h.k0
    simp only [f22]
    exact q
  · have q := h.k1
    simp only [f22]
    exact q
  · have q := h.k2
    simp only [f22]
    exact q
  · have q := h.k3
    simp only [f22]
    exact q
  · have q := h.k4
    simp only [f22]
    exact q
  · have q := h.k5
    simp only [f22]
    exact q
  · have q := h.k6
    simp only [f22]
    exact q
  · have q := h.k7
    simp only [f22]
    exact q
  · have q := h.k8
    simp only [f22]
    exact q
  · have q := h.k9
    simp only [f22]
    exact q
  · have q := h.k10
    simp only [f22]
    exact q
  · have q := h.k11
    simp only [f22]
    exact q
theorem Rst.fr {c c' : Int → Int} {N N' M M' : Mem} {s : Int} (h : Rst c N M s) (f0 : ∀ j, N' 63 j = N 63 j) (f1 : c' (128 * s + 66) = c (128 * s + 66)) (f2 : ∀ j, N' (128 * s + 66) j = N (128 * s + 66) j) (f3 : M' 70 s = M 70 s) (f4 : M' 0 8 = M 0 8) (f5 : M' 10 (N (128 * s + 66) 0) = M 10 (N (128 * s + 66) 0)) (f6 : M' 71 s = M 71 s) : Rst c' N' M' s := by
  refine ⟨?_, ?_, ?_, ?_, ?_, ?_, ?_, ?_, ?_, ?_, ?_⟩
  · have q := h.i0
    skip
    exact q
  · have q := h.r
    simp only [f0, f1]
    exact q
  · have q := h.g
    simp only [f2]
    exact q
  · have q := h.en
    simp only [f2, f3]
    exact q
  · have q := h.b0
    simp only [f2]
    exact q
  · have q := h.b1
    simp only [f2, f4]
    exact q
  · have q := h.e0
    simp only [f2]
    exact q
  · have q := h.e1
    simp only [f2, f5]
    exact q
  · have q := h.bt
    simp only [f2, f6]
    exact q
  · have q := h.bt0
    simp only [f6]
    exact q
  · have q := h.bt1
    simp only [f6]
    exact q
theorem Rmp.fr {c c' : Int → Int} {N N' M M' : Mem} {s : Int} (h : Rmp c N M s) (f0 : ∀ j, N' 64 j = N 64 j) (f1 : c' (128 * s + 67) = c (128 * s + 67)) (f2 : ∀ j, N' (128 * s + 67) j = N (128 * s + 67) j) (f3 : M' 73 s = M 73 s) (f4 : M' 0 8 = M 0 8) (f5 : M' 10 (N (128 * s + 67) 0) = M 10 (N (128 * s + 67) 0)) (f6 : M' 74 s = M 74 s) (f7 : c' (128 * s + 68) = c (128 * s + 68)) (f8 : ∀ j, N' (128 * s + 68) j = N (128 * s + 68) j) (f9 : ∀ i, 0 ≤ i → i < 24 → M' 75 (24 * s + i) = M 75 (24 * s + i)) : Rmp c' N' M' s := by
  refine ⟨?_, ?_, ?_, ?_, ?_, ?_, ?_, ?_, ?_, ?_, ?_, ?_, ?_, ?_, ?_⟩
  · have q := h.i0
    skip
    exact q
  · have q := h.r
    simp only [f0, f1]
    exact q
  · have q := h.g
    simp only [f2]
    exact q
  · have q := h.en
    simp only [f2, f3]
    exact q
  · have q := h.b0
    simp only [f2]
    exact q
  · have q := h.b1
    simp only [f2, f4]
    exact q
  · have q := h.e0
    simp only [f2]
    exact q
  · have q := h.e1
    simp only [f2, f5]
    exact q
  · have q := h.bt
    simp only [f2, f6]
    exact q
  · have q := h.bt0
    simp only [f6]
    exact q
  · have q := h.bt1
    simp only [f6]
    exact q
  · have q := h.rv
    simp only [f2, f7]
    exact q
  · have q := h.gv
    simp only [f8]
    exact q
  · have q := h.nv
    simp only [f8]
    exact q
  · intro i i0 i1 i2
    try simp only [f8, f6] at i1 i2
    have q := h.v i i0 i1 i2
    simp only [f8, f6, f9 i i0 i1]
    exact q
theorem Rdr.fr {c c' : Int → Int} {N N' M M' : Mem} {n : Int} (h : Rdr c N M n) (f0 : ∀ j, N' (128 * n + 70) j = N (128 * n + 70) j) (f1 : c' (128 * n + 71) = c (128 * n + 71)) (f2 : c' (128 * n + 72) = c (128 * n + 72)) (f3 : c' (128 * n + 73) = c (128 * n + 73)) (f4 : ∀ j, N' (128 * n + 71) j = N (128 * n + 71) j) (f5 : ∀ j, N' (128 * n + 72) j = N (128 * n + 72) j) (f6 : ∀ j, N' (128 * n + 73) j = N (128 * n + 73) j) : Rdr c' N' M' n := by
  refine ⟨?_, ?_, ?_, ?_, ?_, ?_, ?_, ?_, ?_, ?_⟩
  · have q := h.g
    simp only [f0]
    exact q
  · have q := h.r2
    simp only [f0, f1]
    exact q
  · have q := h.r3
    simp only [f0, f2]
    exact q
  · have q := h.r4
    simp only [f0, f3]
    exact q
  · have q := h.g71
    simp only [f4]
    exact q
  · have q := h.n71
    simp only [f4]
    exact q
  · have q := h.g72
    simp only [f5]
    exact q
  · have q := h.n72
    simp only [f5]
    exact q
  · have q := h.g73
    simp only [f6]
    exact q
  · have q := h.n73
    simp only [f6]
    exact q
theorem Rms.fr {c c' : Int → Int} {N N' M M' : Mem} {n : Int} (h : Rms c N M n) (f0 : ∀ j, N' 65 j = N 65 j) (f1 : c' (128 * n + 70) = c (128 * n + 70)) (f2 : ∀ j, N' (128 * n + 70) j = N (128 * n + 70) j) (f3 : M' 77 n = M 77 n) (f4 : M' 0 8 = M 0 8) (f5 : M' 78 n = M 78 n) (f6 : ∀ j, N' (128 * n + 71) j = N (128 * n + 71) j) (f7 : ∀ j, N' (128 * n + 72) j = N (128 * n + 72) j) (f8 : ∀ i, 0 ≤ i → i < M 78 n → M' 79 (61 * n + i) = M 79 (61 * n + i)) (f9 : M' 10 (M 77 n) = M 10 (M 77 n)) (f10 : ∀ i, 0 ≤ i → i < M 78 n → M' 14 (12 * M 77 n + N (128 * n + 71) i) = M 14 (12 * M 77 n + N (128 * n + 71) i)) (f11 : ∀ j, N' (128 * n + 73) j = N (128 * n + 73) j) (f12 : ∀ i, 0 ≤ i → i < M 78 n → M' 80 (61 * n + i) = M 80 (61 * n + i)) : Rms c' N' M' n := by
  refine ⟨?_, ?_, ?_, ?_, ?_, ?_, ?_, ?_, ?_, ?_⟩
  · have q := h.i0
    skip
    exact q
  · have q := h.r
    simp only [f0, f1]
    exact q
  · have q := h.b
    simp only [f2, f3]
    exact q
  · have q := h.b0
    simp only [f3]
    exact q
  · have q := h.b1
    simp only [f3, f4]
    exact q
  · have q := h.z
    simp only [f2, f5]
    exact q
  · have q := h.z0
    simp only [f5]
    exact q
  · have q := h.z1
    simp only [f5]
    exact q
  · intro i i0 i1
    try simp only [f6, f7, f5, f3, f9] at i1
    have q := h.q i i0 i1
    simp only [f6, f7, f5, f3, f9, f8 i i0 i1, f10 i i0 i1]
    exact q
  · intro i i0 i1
    try simp only [f11, f5] at i1
    have q := h.a i i0 i1
    simp only [f11, f5, f12 i i0 i1]
    exact q
theorem Rbk.fr {c c' : Int → Int} {N N' M M' : Mem} {b : Int} (h : Rbk c N M b) (f0 : ∀ j, N' 62 j = N 62 j) (f1 : c' (128 * b + 1) = c (128 * b + 1)) (f2 : ∀ j, N' (128 * b + 1) j = N (128 * b + 1) j) (f3 : c' (128 * b + 2) = c (128 * b + 2)) (f4 : ∀ j, N' (128 * b + 2) j = N (128 * b + 2) j) (f5 : M' 10 b = M 10 b) (f6 : M' 11 b = M 11 b) (f7 : c' (128 * b + 20) = c (128 * b + 20)) (f8 : ∀ j, N' (128 * b + 20) j = N (128 * b + 20) j) (f9 : c' (128 * b + 21) = c (128 * b + 21)) (f10 : c' (128 * b + 22) = c (128 * b + 22)) (f11 : ∀ j, N' (128 * b + 21) j = N (128 * b + 21) j) (f12 : ∀ j, N' (128 * b + 22) j = N (128 * b + 22) j) (f13 : c' (128 * b + 23) = c (128 * b + 23)) (f14 : ∀ j, N' (128 * b + 23) j = N (128 * b + 23) j) (f15 : c' (128 * b + 24) = c (128 * b + 24)) (f16 : ∀ j, N' (128 * b + 24) j = N (128 * b + 24) j) (f17 : c' (128 * b + 25) = c (128 * b + 25)) (f18 : ∀ j, N' (128 * b + 25) j = N (128 * b + 25) j) (f19 : c' (128 * b + 26) = c (128 * b + 26)) (f20 : ∀ j, N' (128 * b + 26) j = N (128 * b + 26) j) (f21 : ∀ i, 0 ≤ i → i < 148 → M' 52 (160 * b + i) = M 52 (160 * b + i)) (f22 : M' 59 b = M 59 b) (f23 : ∀ i, 0 ≤ i → i < M 59 b → M' 58 (160 * b + i) = M 58 (160 * b + i)) (f24 : M' 62 b = M 62 b) (f25 : ∀ i, 0 ≤ i → i < M 62 b → M' 60 (3100 * b + i) = M 60 (3100 * b + i)) (f26 : ∀ i, 0 ≤ i → i < M 62 b → M' 61 (3100 * b + i) = M 61 (3100 * b + i)) (f27 : ∀ e, 0 ≤ e → e < M 10 b → c' (128 * (12 * b + e) + 3) = c (128 * (12 * b + e) + 3)) : Rbk c' N' M' b := by
  refine ⟨?_, ?_, ?_, ?_, ?_, ?_, ?_, ?_, ?_, ?_, ?_, ?_, ?_, ?_, ?_, ?_, ?_, ?_, ?_, ?_, ?_, ?_, ?_, ?_, ?_, ?_, ?_, ?_, ?_, ?_, ?_, ?_, ?_, ?_, ?_, ?_, ?_, ?_, ?_, ?_, ?_, ?_, ?_, ?_, ?_⟩
  · have q := h.i0
    skip
    exact q
  · have q := h.r
    simp only [f0, f1]
    exact q
  · have q := h.g1
    simp only [f2]
    exact q
  · have q := h.r0
    simp only [f2, f3]
    exact q
  · have q := h.g2
    simp only [f4]
    exact q
  · have q := h.n2
    simp only [f4]
    exact q
  · have q := h.ne
    simp only [f2, f5]
    exact q
  · have q := h.ne0
    simp only [f5]
    exact q
  · have q := h.ne1
    simp only [f5]
    exact q
  · have q := h.na
    simp only [f2, f6]
    exact q
  · have q := h.na0
    simp only [f6]
    exact q
  · have q := h.na1
    simp only [f6]
    exact q
  · have q := h.r3
    simp only [f2, f7]
    exact q
  · have q := h.g20
    simp only [f8]
    exact q
  · have q := h.r20
    simp only [f8, f9]
    exact q
  · have q := h.r21
    simp only [f8, f10]
    exact q
  · have q := h.g21
    simp only [f11]
    exact q
  · have q := h.n21
    simp only [f11, f8]
    exact q
  · have q := h.g22
    simp only [f12]
    exact q
  · have q := h.n22
    simp only [f12, f8]
    exact q
  · have q := h.cl0
    simp only [f8]
    exact q
  · have q := h.cl1
    simp only [f8]
    exact q
  · have q := h.r4
    simp only [f2, f13]
    exact q
  · have q := h.g23
    simp only [f14]
    exact q
  · have q := h.n23
    simp only [f14]
    exact q
  · have q := h.r5
    simp only [f2, f15]
    exact q
  · have q := h.g24
    simp only [f16]
    exact q
  · have q := h.n24
    simp only [f16]
    exact q
  · have q := h.r7
    simp only [f2, f17]
    exact q
  · have q := h.g25
    simp only [f18]
    exact q
  · have q := h.n25
    simp only [f18, f8]
    exact q
  · have q := h.r8
    simp only [f2, f19]
    exact q
  · have q := h.g26
    simp only [f20]
    exact q
  · have q := h.n26
    simp only [f20, f8]
    exact q
  · intro i i0 i1
    try simp only [f14] at i1
    have q := h.st i i0 i1
    simp only [f14, f21 i i0 i1]
    exact q
  · have q := h.nt
    simp only [f2, f22]
    exact q
  · have q := h.nt0
    simp only [f22]
    exact q
  · have q := h.nt1
    simp only [f22]
    exact q
  · intro i i0 i1
    try simp only [f16, f22] at i1
    have q := h.ts i i0 i1
    simp only [f16, f22, f23 i i0 i1]
    exact q
  · have q := h.nz
    simp only [f2, f24]
    exact q
  · have q := h.nz0
    simp only [f24]
    exact q
  · have q := h.nz1
    simp only [f8, f24]
    exact q
  · intro i i0 i1
    try simp only [f18, f24] at i1
    have q := h.zb i i0 i1
    simp only [f18, f24, f25 i i0 i1]
    exact q
  · intro i i0 i1
    try simp only [f20, f24] at i1
    have q := h.zo i i0 i1
    simp only [f20, f24, f26 i i0 i1]
    exact q
  · intro e i0 i1
    try simp only [f4, f5] at i1
    have q := h.re e i0 i1
    simp only [f4, f5, f27 e i0 i1]
    exact q
theorem Ren.fr {c c' : Int → Int} {N N' M M' : Mem} {g : Int} (h : Ren c N M g) (f0 : ∀ j, N' (128 * g + 3) j = N (128 * g + 3) j) (f1 : c' (128 * g + 4) = c (128 * g + 4)) (f2 : ∀ j, N' (128 * g + 4) j = N (128 * g + 4) j) (f3 : c' (128 * g + 7) = c (128 * g + 7)) (f4 : ∀ j, N' (128 * g + 7) j = N (128 * g + 7) j) (f5 : c' (128 * g + 8) = c (128 * g + 8)) (f6 : ∀ j, N' (128 * g + 8) j = N (128 * g + 8) j) (f7 : c' (128 * g + 12) = c (128 * g + 12)) (f8 : ∀ j, N' (128 * g + 12) j = N (128 * g + 12) j) (f9 : c' (128 * g + 13) = c (128 * g + 13)) (f10 : ∀ j, N' (128 * g + 13) j = N (128 * g + 13) j) (f11 : c' (128 * g + 14) = c (128 * g + 14)) (f12 : ∀ j, N' (128 * g + 14) j = N (128 * g + 14) j) (f13 : c' (128 * g + 15) = c (128 * g + 15)) (f14 : ∀ j, N' (128 * g + 15) j = N (128 * g + 15) j) (f15 : c' (128 * g + 16) = c (128 * g + 16)) (f16 : ∀ j, N' (128 * g + 16) j = N (128 * g + 16) j) (f17 : M' 13 g = M 13 g) (f18 : M' 7 = M 7) (f19 : M' 14 g = M 14 g) (f20 : M' 15 g = M 15 g) (f21 : M' 16 g = M 16 g) (f22 : M' 17 g = M 17 g) (f23 : M' 18 g = M 18 g) (f24 : ∀ a, 0 ≤ a → a < 4 → M' 19 (4 * g + a) = M 19 (4 * g + a)) (f25 : M' 53 g = M 53 g) (f26 : ∀ i, 0 ≤ i → i < M 14 g → c' (128 * (24 * g + i) + 5) = c (128 * (24 * g + i) + 5)) (f27 : ∀ t, 0 ≤ t → t < M 15 g → c' (128 * (4 * g + t) + 9) = c (128 * (4 * g + t) + 9)) (f28 : ∀ s, 0 ≤ s → s < M 18 g → c' (128 * (3 * g + s) + 17) = c (128 * (3 * g + s) + 17)) : Ren c' N' M' g := by
  refine ⟨?_, ?_, ?_, ?_, ?_, ?_, ?_, ?_, ?_, ?_, ?_, ?_, ?_, ?_, ?_, ?_, ?_, ?_, ?_, ?_, ?_, ?_, ?_, ?_, ?_, ?_, ?_, ?_, ?_, ?_, ?_, ?_, ?_, ?_, ?_, ?_, ?_, ?_, ?_, ?_, ?_, ?_, ?_, ?_, ?_, ?_, ?_, ?_⟩
  · have q := h.g3
    simp only [f0]
    exact q
  · have q := h.r3
    simp only [f0, f1]
    exact q
  · have q := h.g4
    simp only [f2]
    exact q
  · have q := h.n4
    simp only [f2]
    exact q
  · have q := h.r6
    simp only [f0, f3]
    exact q
  · have q := h.g7
    simp only [f4]
    exact q
  · have q := h.n7
    simp only [f4]
    exact q
  · have q := h.r7
    simp only [f0, f5]
    exact q
  · have q := h.g8
    simp only [f6]
    exact q
  · have q := h.n8
    simp only [f6]
    exact q
  · have q := h.r9
    simp only [f0, f7]
    exact q
  · have q := h.g12
    simp only [f8]
    exact q
  · have q := h.n12
    simp only [f8]
    exact q
  · have q := h.r11
    simp only [f0, f9]
    exact q
  · have q := h.g13
    simp only [f10]
    exact q
  · have q := h.n13
    simp only [f10]
    exact q
  · have q := h.r12
    simp only [f0, f11]
    exact q
  · have q := h.g14
    simp only [f12]
    exact q
  · have q := h.n14
    simp only [f12]
    exact q
  · have q := h.r13
    simp only [f0, f13]
    exact q
  · have q := h.g15
    simp only [f14]
    exact q
  · have q := h.n15
    simp only [f14]
    exact q
  · have q := h.r15
    simp only [f0, f15]
    exact q
  · have q := h.g16
    simp only [f16]
    exact q
  · have q := h.n16
    simp only [f16]
    exact q
  · have q := h.nm
    unfold NR at q ⊢
    simp only [f0, f17, f18]
    exact q
  · have q := h.nc
    simp only [f0, f19]
    exact q
  · have q := h.nc0
    simp only [f19]
    exact q
  · have q := h.nc1
    simp only [f19]
    exact q
  · have q := h.nt
    simp only [f0, f20]
    exact q
  · have q := h.nt0
    simp only [f20]
    exact q
  · have q := h.nt1
    simp only [f20]
    exact q
  · have q := h.nk
    simp only [f0, f21]
    exact q
  · have q := h.nk0
    simp only [f21]
    exact q
  · have q := h.nk1
    simp only [f21]
    exact q
  · have q := h.nh
    simp only [f0, f22]
    exact q
  · have q := h.nh0
    simp only [f22]
    exact q
  · have q := h.nh1
    simp only [f22]
    exact q
  · have q := h.nw
    simp only [f0, f23]
    exact q
  · have q := h.nw0
    simp only [f23]
    exact q
  · have q := h.nw1
    simp only [f23]
    exact q
  · intro a i0 i1
    try simp only [f4] at i1
    have q := h.bd a i0 i1
    simp only [f4, f24 a i0 i1]
    exact q
  · have q := h.md
    simp only [f0, f25]
    exact q
  · have q := h.md0
    simp only [f25]
    exact q
  · have q := h.md1
    simp only [f25, f19]
    exact q
  · intro i i0 i1
    try simp only [f2, f19] at i1
    have q := h.rc i i0 i1
    simp only [f2, f19, f26 i i0 i1]
    exact q
  · intro t i0 i1
    try simp only [f6, f20] at i1
    have q := h.rt t i0 i1
    simp only [f6, f20, f27 t i0 i1]
    exact q
  · intro s i0 i1
    try simp only [f16, f23] at i1
    have q := h.rs s i0 i1
    simp only [f16, f23, f28 s i0 i1]
    exact q
theorem Rcn.fr {c c' : Int → Int} {N N' M M' : Mem} {q : Int} (h : Rcn c N M q) (f0 : ∀ j, N' (128 * q + 5) j = N (128 * q + 5) j) (f1 : c' (128 * q + 6) = c (128 * q + 6)) (f2 : ∀ j, N' (128 * q + 6) j = N (128 * q + 6) j) (f3 : M' 20 q = M 20 q) (f4 : M' 7 = M 7) (f5 : ∀ a, 0 ≤ a → a < 4 → M' 22 (4 * q + a) = M 22 (4 * q + a)) (f6 : M' 21 q = M 21 q) : Rcn c' N' M' q := by
  refine ⟨?_, ?_, ?_, ?_, ?_, ?_, ?_⟩
  · have q := h.g5
    simp only [f0]
    exact q
  · have q := h.r3
    simp only [f0, f1]
    exact q
  · have q := h.g6
    simp only [f2]
    exact q
  · have q := h.n6
    simp only [f2]
    exact q
  · have q := h.nm
    unfold NR at q ⊢
    simp only [f0, f3, f4]
    exact q
  · intro a i0 i1
    try simp only [f2] at i1
    have q := h.bd a i0 i1
    simp only [f2, f5 a i0 i1]
    exact q
  · have q := h.ar
    simp only [f0, f6]
    exact q
theorem Rtb.fr {c c' : Int → Int} {N N' M M' : Mem} {t : Int} (h : Rtb c N M t) (f0 : ∀ j, N' (128 * t + 9) j = N (128 * t + 9) j) (f1 : c' (128 * t + 10) = c (128 * t + 10)) (f2 : ∀ j, N' (128 * t + 10) j = N (128 * t + 10) j) (f3 : c' (128 * t + 11) = c (128 * t + 11)) (f4 : ∀ j, N' (128 * t + 11) j = N (128 * t + 11) j) (f5 : M' 24 t = M 24 t) (f6 : M' 55 t = M 55 t) (f7 : ∀ k, 0 ≤ k → k < M 55 t → M' 56 (12 * t + k) = M 56 (12 * t + k)) : Rtb c' N' M' t := by
  refine ⟨?_, ?_, ?_, ?_, ?_, ?_, ?_, ?_, ?_, ?_, ?_, ?_, ?_, ?_⟩
  · have q := h.g9
    simp only [f0]
    exact q
  · have q := h.r1
    simp only [f0, f1]
    exact q
  · have q := h.g10
    simp only [f2]
    exact q
  · have q := h.n10
    simp only [f2]
    exact q
  · have q := h.r2
    simp only [f0, f3]
    exact q
  · have q := h.g11
    simp only [f4]
    exact q
  · have q := h.n11
    simp only [f4]
    exact q
  · have q := h.ne
    simp only [f0, f5]
    exact q
  · have q := h.ne0
    simp only [f5]
    exact q
  · have q := h.ne1
    simp only [f5]
    exact q
  · have q := h.th
    simp only [f0, f6]
    exact q
  · have q := h.th0
    simp only [f6]
    exact q
  · have q := h.th1
    simp only [f6, f5]
    exact q
  · intro k i0 i1
    try simp only [f4, f6] at i1
    have q := h.en k i0 i1
    simp only [f4, f6, f7 k i0 i1]
    exact q
theorem Rsw.fr {c c' : Int → Int} {N N' M M' : Mem} {s : Int} (h : Rsw c N M s) (f0 : ∀ j, N' (128 * s + 17) j = N (128 * s + 17) j) (f1 : c' (128 * s + 18) = c (128 * s + 18)) (f2 : ∀ j, N' (128 * s + 18) j = N (128 * s + 18) j) (f3 : c' (128 * s + 19) = c (128 * s + 19)) (f4 : ∀ j, N' (128 * s + 19) j = N (128 * s + 19) j) (f5 : M' 30 s = M 30 s) : Rsw c' N' M' s := by
  refine ⟨?_, ?_, ?_, ?_, ?_, ?_, ?_, ?_, ?_, ?_⟩
  · have q := h.g17
    simp only [f0]
    exact q
  · have q := h.r1
    simp only [f0, f1]
    exact q
  · have q := h.g18
    simp only [f2]
    exact q
  · have q := h.n18
    simp only [f2]
    exact q
  · have q := h.r2
    simp only [f0, f3]
    exact q
  · have q := h.g19
    simp only [f4]
    exact q
  · have q := h.n19
    simp only [f4]
    exact q
  · have q := h.nc
    simp only [f0, f5]
    exact q
  · have q := h.nc0
    simp only [f5]
    exact q
  · have q := h.nc1
    simp only [f5]
    exact q
