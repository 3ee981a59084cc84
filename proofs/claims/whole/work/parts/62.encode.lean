/-! ===== encode: the message kept, the call ===== -/
theorem Rel.enc {c : Int → Int} {N N' M M' : Mem} {n : Int} (h : Rel c N M) (hn : M 0 81 = n) (fn : fEn n N N') (fm : fEm n M M') : Rel c N' M' := by
  have n0 := h.top.ng0
  refine ⟨?_, ?_, ?_, fun s s0 s1 => ?_, fun s s0 s1 => ?_, fun s s0 s1 => ?_, fun s s0 s1 => ?_, fun s s0 s1 => ?_⟩
  · apply Rtop.fr h.top <;> intros <;> first | rfl | exact fn _ _ (by omega) (by omega) | exact fm _ _ (by omega) (by omega)
  · apply Rwk.fr h.wk <;> intros <;> first | rfl | exact fn _ _ (by omega) (by omega) | exact fm _ _ (by omega) (by omega)
  · apply Rrd.fr h.rd <;> intros <;> first | rfl | exact fn _ _ (by omega) (by omega) | exact fm _ _ (by omega) (by omega)
  · rw [fm 0 72 (by omega) (by omega)] at s1
    apply Rst.fr (h.st s0 s1) <;> intros <;> first | rfl | exact fn _ _ (by omega) (by omega) | exact fm _ _ (by omega) (by omega)
  · rw [fm 0 76 (by omega) (by omega)] at s1
    apply Rmp.fr (h.mp s0 s1) <;> intros <;> first | rfl | exact fn _ _ (by omega) (by omega) | exact fm _ _ (by omega) (by omega)
  · rw [fm 0 81 (by omega) (by omega)] at s1
    obtain ⟨a1, a2, a3, a4, a5, a6, a7, a8, a9, a10⟩ := h.dr s0 s1
    refine ⟨?_, ?_, ?_, ?_, ?_, ?_, ?_, ?_, ?_, ?_⟩ <;> (rw [fn _ _ (by omega) (by omega)]; assumption)
  · rw [fm 0 81 (by omega) (by omega)] at s1
    have k0 := (h.ms s0 s1).z1
    apply Rms.fr (h.ms s0 s1) <;> intros <;> first | rfl | exact fn _ _ (by omega) (by omega) | exact fm _ _ (by omega) (by omega)
  · rw [fm 0 8 (by omega) (by omega)] at s1
    exact (h.bk s0 s1).fr s0 (fun L j q => fn L j (by omega) (by omega)) (fun _ _ => rfl) (fun k j q => fm k j (by unfold bkk at q; omega) (by unfold bkk at q; omega)) (fm 0 40 (by omega) (by omega))
theorem Rel.msg {c c' : Int → Int} {N N' M M' : Mem} {b n C : Int} (h : Rel c N M) (hn : M 0 81 = n) (n1 : n < 20) (b0 : 0 ≤ b) (b1 : b < M 0 8) (dk : DrOK N M b n C)
    (fc : ∀ L, ¬ (128 * n + 198 ≤ L ∧ L ≤ 128 * n + 201) → c' L = c L)
    (fn : ∀ L k, ¬ (L = 60 ∧ (k = 14 ∨ k = 15)) → ¬ (L = 65 ∧ k = n) → ¬ (L = 128 * n + 70 ∧ k = 0) → ¬ (128 * n + 198 ≤ L ∧ L ≤ 128 * n + 201) → N' L k = N L k)
    (fm : ∀ k i, ¬ (k = 77 ∧ i = n) → ¬ (k = 78 ∧ i = n) → ¬ (k = 0 ∧ i = 81) → M' k i = M k i)
    (v14 : N' 60 14 = n + 1) (v15 : N' 60 15 = c' (128 * n + 198)) (v65 : N' 65 n = c (128 * n + 70)) (v70 : N' (128 * n + 70) 0 = b) (w77 : M' 77 n = b) (w78 : M' 78 n = C) (w81 : M' 0 81 = n + 1) (dr : Rdr c' N' M' (n + 1)) : Rel c' N' M' := by
  have q := h.top
  have n0 := q.ng0
  obtain ⟨dk1, dk2, dk3, dk4, dk5⟩ := dk
  refine ⟨?_, ?_, ?_, fun s s0 s1 => ?_, fun s s0 s1 => ?_, fun s s0 s1 => ?_, fun s s0 s1 => ?_, fun s s0 s1 => ?_⟩
  · obtain ⟨a1, a2, a3, a4, a5, a6, a7, a8, a9, a10, a11, a12, a13, a14, a15, a16, a17, a18, a19, a20, a21, a22, a23, a24, a25, a26, a27, a28, a29, a30, a31, a32, a33, a34, a35, a36, a37, a38, a39⟩ := q
    have m2 : M' 0 2 = M 0 2 := fm _ _ (by omega) (by omega) (by omega)
    have m8 : M' 0 8 = M 0 8 := fm _ _ (by omega) (by omega) (by omega)
    have m46 : M' 0 46 = M 0 46 := fm _ _ (by omega) (by omega) (by omega)
    have m69 : M' 0 69 = M 0 69 := fm _ _ (by omega) (by omega) (by omega)
    have m72 : M' 0 72 = M 0 72 := fm _ _ (by omega) (by omega) (by omega)
    have m76 : M' 0 76 = M 0 76 := fm _ _ (by omega) (by omega) (by omega)
    have m1 : ∀ j, M' 1 j = M 1 j := fun j => fm _ _ (by omega) (by omega) (by omega)
    refine ⟨?_, ?_, ?_, ?_, ?_, ?_, ?_, ?_, ?_, ?_, ?_, ?_, ?_, ?_, ?_, ?_, ?_, ?_, ?_, ?_, ?_, ?_, ?_, ?_, ?_, ?_, ?_, ?_, ?_, ?_, ?_, ?_, ?_, ?_, ?_, ?_, ?_, ?_, ?_⟩

    · rw [fn _ _ (by omega) (by omega) (by omega) (by omega)]; exact a1
    · rw [fn _ _ (by omega) (by omega) (by omega) (by omega)]; exact a2
    · rw [fn _ _ (by omega) (by omega) (by omega) (by omega)]; exact a3
    · rw [fn _ _ (by omega) (by omega) (by omega) (by omega)]; exact a4
    · rw [fn _ _ (by omega) (by omega) (by omega) (by omega)]; exact a5
    · rw [fn _ _ (by omega) (by omega) (by omega) (by omega)]; exact a6
    · rw [fn _ _ (by omega) (by omega) (by omega) (by omega)]; exact a7
    · rw [fn _ _ (by omega) (by omega) (by omega) (by omega)]; exact a8
    · rw [fn _ _ (by omega) (by omega) (by omega) (by omega)]; exact a9
    · rw [fn _ _ (by omega) (by omega) (by omega) (by omega)]; exact a10
    · rw [fn _ _ (by omega) (by omega) (by omega) (by omega)]; exact a11
    · rw [fn _ _ (by omega) (by omega) (by omega) (by omega), fc _ (by omega)]; exact a12
    · rw [fn _ _ (by omega) (by omega) (by omega) (by omega), fc _ (by omega)]; exact a13
    · rw [fn _ _ (by omega) (by omega) (by omega) (by omega), fc _ (by omega)]; exact a14
    · rw [fn _ _ (by omega) (by omega) (by omega) (by omega), fc _ (by omega)]; exact a15
    · rw [fn _ _ (by omega) (by omega) (by omega) (by omega), fc _ (by omega)]; exact a16
    · rw [fn _ _ (by omega) (by omega) (by omega) (by omega), fc _ (by omega)]; exact a17
    · rw [fn _ _ (by omega) (by omega) (by omega) (by omega), fc _ (by omega)]; exact a18
    · rw [fn _ _ (by omega) (by omega) (by omega) (by omega), fc _ (by omega)]; exact a19
    · rw [v15, w81, show 128 * (n + 1) + 70 = 128 * n + 198 from by omega]
    · rw [fn _ _ (by omega) (by omega) (by omega) (by omega), m2]; exact a21
    · rw [m2]; exact a22
    · rw [m2]; exact a23
    · intro j j0 j1; rw [m2] at j1; rw [fn _ _ (by omega) (by omega) (by omega) (by omega), m1]; exact a24 j j0 j1
    · intro j j0 j1; rw [m2] at j1; rw [m1]; exact a25 j j0 j1
    · rw [fn _ _ (by omega) (by omega) (by omega) (by omega), m8]; exact a26
    · rw [m8]; exact a27
    · rw [m8]; exact a28
    · rw [fn _ _ (by omega) (by omega) (by omega) (by omega), m46]; exact a29
    · rw [fn _ _ (by omega) (by omega) (by omega) (by omega), m69]; exact a30
    · rw [fn _ _ (by omega) (by omega) (by omega) (by omega), m72]; exact a31
    · rw [m72]; exact a32
    · rw [m72]; exact a33
    · rw [fn _ _ (by omega) (by omega) (by omega) (by omega), m76]; exact a34
    · rw [m76]; exact a35
    · rw [m76]; exact a36
    · rw [v14, w81]
    · rw [w81]; omega
    · exact ⟨by rw [w81]; omega, a39.2.fr (fm _ _ (by omega) (by omega) (by omega)) m8 (fun k j hk => fm _ _ (by omega) (by omega) (by omega))⟩
  · apply Rwk.fr h.wk <;> intros <;> first | rfl | exact fc _ (by omega) | exact fn _ _ (by omega) (by omega) (by omega) (by omega) | exact fm _ _ (by omega) (by omega) (by omega)
  · apply Rrd.fr h.rd <;> intros <;> first | rfl | exact fc _ (by omega) | exact fn _ _ (by omega) (by omega) (by omega) (by omega) | exact fm _ _ (by omega) (by omega) (by omega)
  · rw [fm 0 72 (by omega) (by omega) (by omega)] at s1
    apply Rst.fr (h.st s0 s1) <;> intros <;> first | rfl | exact fc _ (by omega) | exact fn _ _ (by omega) (by omega) (by omega) (by omega) | exact fm _ _ (by omega) (by omega) (by omega)
  · rw [fm 0 76 (by omega) (by omega) (by omega)] at s1
    apply Rmp.fr (h.mp s0 s1) <;> intros <;> first | rfl | exact fc _ (by omega) | exact fn _ _ (by omega) (by omega) (by omega) (by omega) | exact fm _ _ (by omega) (by omega) (by omega)
  · rw [w81] at s1
    by_cases y : s = n + 1
    · subst y; exact dr
    · obtain ⟨a1, a2, a3, a4, a5, a6, a7, a8, a9, a10⟩ := h.dr s0 (by omega : s ≤ M 0 81)
      refine ⟨?_, ?_, ?_, ?_, ?_, ?_, ?_, ?_, ?_, ?_⟩ <;> (first | rw [fc _ (by omega)] | skip) <;> (rw [fn _ _ (by omega) (by omega) (by omega) (by omega)]; assumption)
  · rw [w81] at s1
    by_cases y : s = n
    · subst y
      refine ⟨s0, ?_, ?_, ?_, ?_, ?_, ?_, ?_, ?_, ?_⟩
      · rw [v65, fc _ (by omega)]
      · rw [v70, w77]
      · rw [w77]; exact b0
      · rw [w77, fm 0 8 (by omega) (by omega) (by omega)]; exact b1
      · rw [fn _ _ (by omega) (by omega) (by omega) (by omega), w78]; exact dk1
      · rw [w78]; exact dk2
      · rw [w78]; exact dk3
      · intro i i0 i1
        rw [w78] at i1
        rw [w77, fn (128 * s + 71) i (by omega) (by omega) (by omega) (by omega), fn (128 * s + 72) i (by omega) (by omega) (by omega) (by omega), fm 79 _ (by omega) (by omega) (by omega), fm 10 _ (by omega) (by omega) (by omega), fm 14 _ (by omega) (by omega) (by omega)]
        exact dk4 i i0 i1
      · intro i i0 i1
        rw [w78] at i1
        rw [fn _ _ (by omega) (by omega) (by omega) (by omega), fm 80 _ (by omega) (by omega) (by omega)]
        exact dk5 i i0 i1
    · have k := h.ms s0 (by omega : s < M 0 81)
      obtain ⟨a1, a2, a3, a4, a5, a6, a7, a8, a9, a10⟩ := k
      have m77 : M' 77 s = M 77 s := fm _ _ (by omega) (by omega) (by omega)
      have m78 : M' 78 s = M 78 s := fm _ _ (by omega) (by omega) (by omega)
      refine ⟨a1, ?_, ?_, ?_, ?_, ?_, ?_, ?_, ?_, ?_⟩
      · rw [fn _ _ (by omega) (by omega) (by omega) (by omega), fc _ (by omega)]; exact a2
      · rw [fn _ _ (by omega) (by omega) (by omega) (by omega), m77]; exact a3
      · rw [m77]; exact a4
      · rw [m77, fm 0 8 (by omega) (by omega) (by omega)]; exact a5
      · rw [fn _ _ (by omega) (by omega) (by omega) (by omega), m78]; exact a6
      · rw [m78]; exact a7
      · rw [m78]; exact a8
      · intro i i0 i1
        rw [m78] at i1
        rw [m77, fn (128 * s + 71) i (by omega) (by omega) (by omega) (by omega), fn (128 * s + 72) i (by omega) (by omega) (by omega) (by omega), fm 79 _ (by omega) (by omega) (by omega), fm 10 _ (by omega) (by omega) (by omega), fm 14 _ (by omega) (by omega) (by omega)]
        exact a9 i i0 i1
      · intro i i0 i1
        rw [m78] at i1
        rw [fn _ _ (by omega) (by omega) (by omega) (by omega), fm 80 _ (by omega) (by omega) (by omega)]
        exact a10 i i0 i1
  · rw [fm 0 8 (by omega) (by omega) (by omega)] at s1
    exact (h.bk s0 s1).fr s0 (fun L j q => fn L j (by omega) (by omega) (by omega) (by omega)) (fun L q => fc L (by omega)) (fun k j q => fm k j (by unfold bkk at q; omega) (by unfold bkk at q; omega) (by unfold bkk at q; omega)) (fm 0 40 (by omega) (by omega) (by omega))

section MSG
variable {l : Launch} {G : GT} {c : Int → Int} {S : Sh} {V N : Mem} {Q : Int → Sh → Mem → Prop} {d : Nat} {m : Int}
theorem ct_msgInit (hc : Cn c S) (h0 : 0 ≤ S.2.2) (hW : Wv c S V = N) (tg5 : N (128 * m + 70) (-1) = 5) (hd : 1 ≤ d) (hk : ∀ c' S' V', Cn c' S' → (∀ L, ¬ (128 * m + 71 ≤ L ∧ L ≤ 128 * m + 73) → c' L = c L) → (∀ L k, ¬ (128 * m + 71 ≤ L ∧ L ≤ 128 * m + 73) → ¬ (L = 128 * m + 70 ∧ (k = 2 ∨ k = 3 ∨ k = 4)) → Wv c' S' V' L k = N L k) → (∀ M', Rdr c' (Wv c' S' V') M' m) → Q 0 S' V') : Ct l G bX4_init Q d 3 180 [vr (c (128 * m + 70))] S V := by
  refine qX4_init fun _ => vX4_init_0 ⟨(hc.2 _).1, hd, by decide, by decide, by decide, by decide, ?_⟩
  intro S1 V1 r1 mc1 ms1 q1 q2 q3 q4 q5
  subst q1 q2 q3 q4 q5
  have hc1 := Cn_nw (L := 128 * m + 71) (t := 20) (n := 60) hc h0
  have hW1 : Wv (upl c (128 * m + 71) (S.2.2 + 1)) (nw S 20 60) (clr V (S.2.2 + 1)) = nwl N (128 * m + 71) 20 60 := by rw [Wv_nw hc, hW]
  have x1 : c (128 * m + 70) = upl c (128 * m + 71) (S.2.2 + 1) (128 * m + 70) := (upl_ne (by omega)).symm
  obtain ⟨v1, t1, l1⟩ := Wr hW1
  refine ⟨by rw [x1, t1, nwl_ne (by omega)]; exact tg5, by decide, by decide, by decide, by decide, ?_⟩
  intro S3 V3 r3 mc3 ms3 q1 q2 q3 q4 q5
  subst q1 q2 q3 q4 q5
  have s1 : (nw S 20 60).2.2 = S.2.2 + 1 := rfl
  have hc3 := Cn_nw (L := 128 * m + 72) (t := 20) (n := 60) hc1 (by omega)
  have hW3 : Wv (upl (upl c (128 * m + 71) (S.2.2 + 1)) (128 * m + 72) ((nw S 20 60).2.2 + 1)) (nw (nw S 20 60) 20 60) (clr (up (clr V (S.2.2 + 1)) (c (128 * m + 70)) 2 (S.2.2 + 1)) ((nw S 20 60).2.2 + 1)) = nwl (up (nwl N (128 * m + 71) 20 60) (128 * m + 70) 2 (S.2.2 + 1)) (128 * m + 72) 20 60 := by
    rw [Wv_nw hc1, x1, Wv_up hc1 (by decide), hW1]
  have x3 : c (128 * m + 70) = upl (upl c (128 * m + 71) (S.2.2 + 1)) (128 * m + 72) ((nw S 20 60).2.2 + 1) (128 * m + 70) := by rw [upl_ne (by omega), upl_ne (by omega)]
  obtain ⟨v3, t3, l3⟩ := Wr hW3
  refine ⟨by rw [x3, t3, nwl_ne (by omega), up_ne (by omega), nwl_ne (by omega)]; exact tg5, by decide, by decide, by decide, by decide, ?_⟩
  intro S5 V5 r5 mc5 ms5 q1 q2 q3 q4 q5
  subst q1 q2 q3 q4 q5
  have s3 : (nw (nw S 20 60) 20 60).2.2 = S.2.2 + 1 + 1 := rfl
  have hc5 := Cn_nw (L := 128 * m + 73) (t := 20) (n := 60) hc3 (by omega)
  generalize hr1 : S.2.2 + 1 = r1 at *
  generalize hr3 : (nw S 20 60).2.2 + 1 = r3 at *
  generalize hr5 : (nw (nw S 20 60) 20 60).2.2 + 1 = r5 at *
  have hW5 : Wv (upl (upl (upl c (128 * m + 71) r1) (128 * m + 72) r3) (128 * m + 73) r5) (nw (nw (nw S 20 60) 20 60) 20 60) (clr (up (clr (up (clr V r1) (c (128 * m + 70)) 2 r1) r3) (c (128 * m + 70)) 3 r3) r5) = nwl (up (nwl (up (nwl N (128 * m + 71) 20 60) (128 * m + 70) 2 r1) (128 * m + 72) 20 60) (128 * m + 70) 3 r3) (128 * m + 73) 20 60 := by
    rw [← hr5, Wv_nw hc3, ← hW3, ← Wv_up hc3 (by decide), ← x3]
  have x5 : c (128 * m + 70) = upl (upl (upl c (128 * m + 71) r1) (128 * m + 72) r3) (128 * m + 73) r5 (128 * m + 70) := by rw [upl_ne (by omega), upl_ne (by omega), upl_ne (by omega)]
  obtain ⟨v5, t5, l5⟩ := Wr hW5
  refine ⟨by rw [x5, t5, nwl_ne (by omega), up_ne (by omega), nwl_ne (by omega), up_ne (by omega), nwl_ne (by omega)]; exact tg5, ?_⟩
  have hW6 : Wv (upl (upl (upl c (128 * m + 71) r1) (128 * m + 72) r3) (128 * m + 73) r5) (nw (nw (nw S 20 60) 20 60) 20 60) (up (clr (up (clr (up (clr V r1) (c (128 * m + 70)) 2 r1) r3) (c (128 * m + 70)) 3 r3) r5) (c (128 * m + 70)) 4 r5) = up (nwl (up (nwl (up (nwl N (128 * m + 71) 20 60) (128 * m + 70) 2 r1) (128 * m + 72) 20 60) (128 * m + 70) 3 r3) (128 * m + 73) 20 60) (128 * m + 70) 4 r5 := by
    rw [← hW5, ← Wv_up hc5 (by decide), ← x5]
  refine hk _ _ _ hc5 (fun L q => by rw [upl_ne (by omega), upl_ne (by omega), upl_ne (by omega)]) (fun L k q1 q2 => ?_) (fun M' => ?_)
  · rw [hW6, up_ne (by omega), nwl_ne (by omega), up_ne (by omega), nwl_ne (by omega), up_ne (by omega), nwl_ne (by omega)]
  · rw [hW6]
    refine ⟨?_, ?_, ?_, ?_, ?_, ?_, ?_, ?_, ?_, ?_⟩
    · rw [up_ne (by omega), nwl_ne (by omega), up_ne (by omega), nwl_ne (by omega), up_ne (by omega), nwl_ne (by omega)]; exact tg5
    · rw [up_ne (by omega), nwl_ne (by omega), up_ne (by omega), nwl_ne (by omega), up_eq, upl_ne (by omega), upl_ne (by omega), upl_eq]
    · rw [up_ne (by omega), nwl_ne (by omega), up_eq, upl_ne (by omega), upl_eq]
    · rw [up_eq, upl_eq]
    · rw [up_ne (by omega), nwl_ne (by omega), up_ne (by omega), nwl_ne (by omega), up_ne (by omega), nwl_tag]
    · rw [up_ne (by omega), nwl_ne (by omega), up_ne (by omega), nwl_ne (by omega), up_ne (by omega), nwl_len]
    · rw [up_ne (by omega), nwl_ne (by omega), up_ne (by omega), nwl_tag]
    · rw [up_ne (by omega), nwl_ne (by omega), up_ne (by omega), nwl_len]
    · rw [up_ne (by omega), nwl_tag]
    · rw [up_ne (by omega), nwl_len]
end MSG

