/-! ===== the constructors: the reference ===== -/
set_option maxRecDepth 20000 in
theorem ct_modInit {l : Launch} {G : GT} {Q : Int → Sh → Mem → Prop} {d : Nat} {c0 : Int → Int} {N0 : Mem} {m : Int} {c : Int → Int} {S0 : Sh} {V0 : Mem} (h0 : MI [] [] c0 N0 m c S0 V0) (hd : 1 ≤ d) (hk : ∀ c' S' V', MI [82, 80, 79, 78, 77, 75, 74, 73, 71, 70, 67, 66, 63, 62, 61, 60, 59, 58, 57, 56, 55, 54, 53, 52, 50, 49, 48, 39, 38, 37, 36, 35, 34, 33, 32, 31, 30, 29, 28, 27, 26, 25, 24, 23, 22, 21, 20, 19, 18, 17, 16, 15, 14, 13, 12, 11, 10, 7, 1] [82, 80, 79, 78, 77, 75, 74, 73, 71, 70, 67, 66, 63, 62, 61, 60, 59, 58, 57, 56, 55, 54, 53, 52, 50, 49, 48, 39, 38, 37, 36, 35, 34, 33, 32, 31, 30, 29, 28, 27, 26, 25, 24, 23, 22, 21, 20, 19, 18, 17, 16, 15, 14, 13, 12, 11, 10, 7, 1] c0 N0 m c' S' V' → Q 0 S' V') : Ct l G bX12_init Q d 59 318773 [vr m] S0 V0 := by
  refine qX12_init fun _ => vX12_init_0 ⟨by rw [← h0.2.2.1]; exact (h0.1.2 _).1, hd, by decide, by decide, by decide, by decide, ?_⟩
  intro S1 V1 r1 mc ms q1 q2 q3 q4 q5
  subst q1 q2 q3 q4 q5
  obtain ⟨c1, i1, e1⟩ := h0.alo (k := 1) (by decide)
  rw [show mt 1 = 21 from by decide, show ml 1 = 3000 from by decide] at i1
  refine ⟨i1.tg, by decide, by decide, by decide, by decide, ?_⟩
  have h1 := i1.put (k := 1) (by decide) (by decide) e1
  clear i1 h0 e1
  generalize up (clr V0 (S0.2.2 + 1)) m 1 (S0.2.2 + 1) = V1 at *
  generalize nw S0 21 3000 = S1 at *
  intro S2 V2 r2 mc ms q1 q2 q3 q4 q5
  subst q1 q2 q3 q4 q5
  obtain ⟨c2, i2, e2⟩ := h1.alo (k := 7) (by decide)
  rw [show mt 7 = 21 from by decide, show ml 7 = 30000 from by decide] at i2
  refine ⟨i2.tg, by decide, by decide, by decide, by decide, ?_⟩
  have h2 := i2.put (k := 7) (by decide) (by decide) e2
  clear i2 h1 e2
  generalize up (clr V1 (S1.2.2 + 1)) m 7 (S1.2.2 + 1) = V2 at *
  generalize nw S1 21 30000 = S2 at *
  intro S3 V3 r3 mc ms q1 q2 q3 q4 q5
  subst q1 q2 q3 q4 q5
  obtain ⟨c3, i3, e3⟩ := h2.alo (k := 10) (by decide)
  rw [show mt 10 = 20 from by decide, show ml 10 = 10 from by decide] at i3
  refine ⟨i3.tg, by decide, by decide, by decide, by decide, ?_⟩
  have h3 := i3.put (k := 10) (by decide) (by decide) e3
  clear i3 h2 e3
  generalize up (clr V2 (S2.2.2 + 1)) m 10 (S2.2.2 + 1) = V3 at *
  generalize nw S2 20 10 = S3 at *
  intro S4 V4 r4 mc ms q1 q2 q3 q4 q5
  subst q1 q2 q3 q4 q5
  obtain ⟨c4, i4, e4⟩ := h3.alo (k := 11) (by decide)
  rw [show mt 11 = 20 from by decide, show ml 11 = 10 from by decide] at i4
  refine ⟨i4.tg, by decide, by decide, by decide, by decide, ?_⟩
  have h4 := i4.put (k := 11) (by decide) (by decide) e4
  clear i4 h3 e4
  generalize up (clr V3 (S3.2.2 + 1)) m 11 (S3.2.2 + 1) = V4 at *
  generalize nw S3 20 10 = S4 at *
  intro S5 V5 r5 mc ms q1 q2 q3 q4 q5
  subst q1 q2 q3 q4 q5
  obtain ⟨c5, i5, e5⟩ := h4.alo (k := 12) (by decide)
  rw [show mt 12 = 20 from by decide, show ml 12 = 40 from by decide] at i5
  refine ⟨i5.tg, by decide, by decide, by decide, by decide, ?_⟩
  have h5 := i5.put (k := 12) (by decide) (by decide) e5
  clear i5 h4 e5
  generalize up (clr V4 (S4.2.2 + 1)) m 12 (S4.2.2 + 1) = V5 at *
  generalize nw S4 20 40 = S5 at *
  intro S6 V6 r6 mc ms q1 q2 q3 q4 q5
  subst q1 q2 q3 q4 q5
  obtain ⟨c6, i6, e6⟩ := h5.alo (k := 13) (by decide)
  rw [show mt 13 = 20 from by decide, show ml 13 = 120 from by decide] at i6
  refine ⟨i6.tg, by decide, by decide, by decide, by decide, ?_⟩
  have h6 := i6.put (k := 13) (by decide) (by decide) e6
  clear i6 h5 e6
  generalize up (clr V5 (S5.2.2 + 1)) m 13 (S5.2.2 + 1) = V6 at *
  generalize nw S5 20 120 = S6 at *
  intro S7 V7 r7 mc ms q1 q2 q3 q4 q5
  subst q1 q2 q3 q4 q5
  obtain ⟨c7, i7, e7⟩ := h6.alo (k := 14) (by decide)
  rw [show mt 14 = 20 from by decide, show ml 14 = 120 from by decide] at i7
  refine ⟨i7.tg, by decide, by decide, by decide, by decide, ?_⟩
  have h7 := i7.put (k := 14) (by decide) (by decide) e7
  clear i7 h6 e7
  generalize up (clr V6 (S6.2.2 + 1)) m 14 (S6.2.2 + 1) = V7 at *
  generalize nw S6 20 120 = S7 at *
  intro S8 V8 r8 mc ms q1 q2 q3 q4 q5
  subst q1 q2 q3 q4 q5
  obtain ⟨c8, i8, e8⟩ := h7.alo (k := 15) (by decide)
  rw [show mt 15 = 20 from by decide, show ml 15 = 120 from by decide] at i8
  refine ⟨i8.tg, by decide, by decide, by decide, by decide, ?_⟩
  have h8 := i8.put (k := 15) (by decide) (by decide) e8
  clear i8 h7 e8
  generalize up (clr V7 (S7.2.2 + 1)) m 15 (S7.2.2 + 1) = V8 at *
  generalize nw S7 20 120 = S8 at *
  intro S9 V9 r9 mc ms q1 q2 q3 q4 q5
  subst q1 q2 q3 q4 q5
  obtain ⟨c9, i9, e9⟩ := h8.alo (k := 16) (by decide)
  rw [show mt 16 = 20 from by decide, show ml 16 = 120 from by decide] at i9
  refine ⟨i9.tg, by decide, by decide, by decide, by decide, ?_⟩
  have h9 := i9.put (k := 16) (by decide) (by decide) e9
  clear i9 h8 e9
  generalize up (clr V8 (S8.2.2 + 1)) m 16 (S8.2.2 + 1) = V9 at *
  generalize nw S8 20 120 = S9 at *
  intro S10 V10 r10 mc ms q1 q2 q3 q4 q5
  subst q1 q2 q3 q4 q5
  obtain ⟨c10, i10, e10⟩ := h9.alo (k := 17) (by decide)
  rw [show mt 17 = 20 from by decide, show ml 17 = 120 from by decide] at i10
  refine ⟨i10.tg, by decide, by decide, by decide, by decide, ?_⟩
  have h10 := i10.put (k := 17) (by decide) (by decide) e10
  clear i10 h9 e10
  generalize up (clr V9 (S9.2.2 + 1)) m 17 (S9.2.2 + 1) = V10 at *
  generalize nw S9 20 120 = S10 at *
  intro S11 V11 r11 mc ms q1 q2 q3 q4 q5
  subst q1 q2 q3 q4 q5
  obtain ⟨c11, i11, e11⟩ := h10.alo (k := 18) (by decide)
  rw [show mt 18 = 20 from by decide, show ml 18 = 120 from by decide] at i11
  refine ⟨i11.tg, by decide, by decide, by decide, by decide, ?_⟩
  have h11 := i11.put (k := 18) (by decide) (by decide) e11
  clear i11 h10 e11
  generalize up (clr V10 (S10.2.2 + 1)) m 18 (S10.2.2 + 1) = V11 at *
  generalize nw S10 20 120 = S11 at *
  intro S12 V12 r12 mc ms q1 q2 q3 q4 q5
  subst q1 q2 q3 q4 q5
  obtain ⟨c12, i12, e12⟩ := h11.alo (k := 19) (by decide)
  rw [show mt 19 = 20 from by decide, show ml 19 = 480 from by decide] at i12
  refine ⟨i12.tg, by decide, by decide, by decide, by decide, ?_⟩
  have h12 := i12.put (k := 19) (by decide) (by decide) e12
  clear i12 h11 e12
  generalize up (clr V11 (S11.2.2 + 1)) m 19 (S11.2.2 + 1) = V12 at *
  generalize nw S11 20 480 = S12 at *
  intro S13 V13 r13 mc ms q1 q2 q3 q4 q5
  subst q1 q2 q3 q4 q5
  obtain ⟨c13, i13, e13⟩ := h12.alo (k := 20) (by decide)
  rw [show mt 20 = 20 from by decide, show ml 20 = 2880 from by decide] at i13
  refine ⟨i13.tg, by decide, by decide, by decide, by decide, ?_⟩
  have h13 := i13.put (k := 20) (by decide) (by decide) e13
  clear i13 h12 e13
  generalize up (clr V12 (S12.2.2 + 1)) m 20 (S12.2.2 + 1) = V13 at *
  generalize nw S12 20 2880 = S13 at *
  intro S14 V14 r14 mc ms q1 q2 q3 q4 q5
  subst q1 q2 q3 q4 q5
  obtain ⟨c14, i14, e14⟩ := h13.alo (k := 21) (by decide)
  rw [show mt 21 = 20 from by decide, show ml 21 = 2880 from by decide] at i14
  refine ⟨i14.tg, by decide, by decide, by decide, by decide, ?_⟩
  have h14 := i14.put (k := 21) (by decide) (by decide) e14
  clear i14 h13 e14
  generalize up (clr V13 (S13.2.2 + 1)) m 21 (S13.2.2 + 1) = V14 at *
  generalize nw S13 20 2880 = S14 at *
  intro S15 V15 r15 mc ms q1 q2 q3 q4 q5
  subst q1 q2 q3 q4 q5
  obtain ⟨c15, i15, e15⟩ := h14.alo (k := 22) (by decide)
  rw [show mt 22 = 20 from by decide, show ml 22 = 11520 from by decide] at i15
  refine ⟨i15.tg, by decide, by decide, by decide, by decide, ?_⟩
  have h15 := i15.put (k := 22) (by decide) (by decide) e15
  clear i15 h14 e15
  generalize up (clr V14 (S14.2.2 + 1)) m 22 (S14.2.2 + 1) = V15 at *
  generalize nw S14 20 11520 = S15 at *
  intro S16 V16 r16 mc ms q1 q2 q3 q4 q5
  subst q1 q2 q3 q4 q5
  obtain ⟨c16, i16, e16⟩ := h15.alo (k := 23) (by decide)
  rw [show mt 23 = 20 from by decide, show ml 23 = 480 from by decide] at i16
  refine ⟨i16.tg, by decide, by decide, by decide, by decide, ?_⟩
  have h16 := i16.put (k := 23) (by decide) (by decide) e16
  clear i16 h15 e16
  generalize up (clr V15 (S15.2.2 + 1)) m 23 (S15.2.2 + 1) = V16 at *
  generalize nw S15 20 480 = S16 at *
  intro S17 V17 r17 mc ms q1 q2 q3 q4 q5
  subst q1 q2 q3 q4 q5
  obtain ⟨c17, i17, e17⟩ := h16.alo (k := 24) (by decide)
  rw [show mt 24 = 20 from by decide, show ml 24 = 480 from by decide] at i17
  refine ⟨i17.tg, by decide, by decide, by decide, by decide, ?_⟩
  have h17 := i17.put (k := 24) (by decide) (by decide) e17
  clear i17 h16 e17
  generalize up (clr V16 (S16.2.2 + 1)) m 24 (S16.2.2 + 1) = V17 at *
  generalize nw S16 20 480 = S17 at *
  intro S18 V18 r18 mc ms q1 q2 q3 q4 q5
  subst q1 q2 q3 q4 q5
  obtain ⟨c18, i18, e18⟩ := h17.alo (k := 25) (by decide)
  rw [show mt 25 = 20 from by decide, show ml 25 = 5760 from by decide] at i18
  refine ⟨i18.tg, by decide, by decide, by decide, by decide, ?_⟩
  have h18 := i18.put (k := 25) (by decide) (by decide) e18
  clear i18 h17 e18
  generalize up (clr V17 (S17.2.2 + 1)) m 25 (S17.2.2 + 1) = V18 at *
  generalize nw S17 20 5760 = S18 at *
  intro S19 V19 r19 mc ms q1 q2 q3 q4 q5
  subst q1 q2 q3 q4 q5
  obtain ⟨c19, i19, e19⟩ := h18.alo (k := 26) (by decide)
  rw [show mt 26 = 20 from by decide, show ml 26 = 360 from by decide] at i19
  refine ⟨i19.tg, by decide, by decide, by decide, by decide, ?_⟩
  have h19 := i19.put (k := 26) (by decide) (by decide) e19
  clear i19 h18 e19
  generalize up (clr V18 (S18.2.2 + 1)) m 26 (S18.2.2 + 1) = V19 at *
  generalize nw S18 20 360 = S19 at *
  intro S20 V20 r20 mc ms q1 q2 q3 q4 q5
  subst q1 q2 q3 q4 q5
  obtain ⟨c20, i20, e20⟩ := h19.alo (k := 27) (by decide)
  rw [show mt 27 = 20 from by decide, show ml 27 = 480 from by decide] at i20
  refine ⟨i20.tg, by decide, by decide, by decide, by decide, ?_⟩
  have h20 := i20.put (k := 27) (by decide) (by decide) e20
  clear i20 h19 e20
  generalize up (clr V19 (S19.2.2 + 1)) m 27 (S19.2.2 + 1) = V20 at *
  generalize nw S19 20 480 = S20 at *
  intro S21 V21 r21 mc ms q1 q2 q3 q4 q5
  subst q1 q2 q3 q4 q5
  obtain ⟨c21, i21, e21⟩ := h20.alo (k := 28) (by decide)
  rw [show mt 28 = 20 from by decide, show ml 28 = 480 from by decide] at i21
  refine ⟨i21.tg, by decide, by decide, by decide, by decide, ?_⟩
  have h21 := i21.put (k := 28) (by decide) (by decide) e21
  clear i21 h20 e21
  generalize up (clr V20 (S20.2.2 + 1)) m 28 (S20.2.2 + 1) = V21 at *
  generalize nw S20 20 480 = S21 at *
  intro S22 V22 r22 mc ms q1 q2 q3 q4 q5
  subst q1 q2 q3 q4 q5
  obtain ⟨c22, i22, e22⟩ := h21.alo (k := 29) (by decide)
  rw [show mt 29 = 20 from by decide, show ml 29 = 360 from by decide] at i22
  refine ⟨i22.tg, by decide, by decide, by decide, by decide, ?_⟩
  have h22 := i22.put (k := 29) (by decide) (by decide) e22
  clear i22 h21 e22
  generalize up (clr V21 (S21.2.2 + 1)) m 29 (S21.2.2 + 1) = V22 at *
  generalize nw S21 20 360 = S22 at *
  intro S23 V23 r23 mc ms q1 q2 q3 q4 q5
  subst q1 q2 q3 q4 q5
  obtain ⟨c23, i23, e23⟩ := h22.alo (k := 30) (by decide)
  rw [show mt 30 = 20 from by decide, show ml 30 = 360 from by decide] at i23
  refine ⟨i23.tg, by decide, by decide, by decide, by decide, ?_⟩
  have h23 := i23.put (k := 30) (by decide) (by decide) e23
  clear i23 h22 e23
  generalize up (clr V22 (S22.2.2 + 1)) m 30 (S22.2.2 + 1) = V23 at *
  generalize nw S22 20 360 = S23 at *
  intro S24 V24 r24 mc ms q1 q2 q3 q4 q5
  subst q1 q2 q3 q4 q5
  obtain ⟨c24, i24, e24⟩ := h23.alo (k := 31) (by decide)
  rw [show mt 31 = 20 from by decide, show ml 31 = 4320 from by decide] at i24
  refine ⟨i24.tg, by decide, by decide, by decide, by decide, ?_⟩
  have h24 := i24.put (k := 31) (by decide) (by decide) e24
  clear i24 h23 e24
  generalize up (clr V23 (S23.2.2 + 1)) m 31 (S23.2.2 + 1) = V24 at *
  generalize nw S23 20 4320 = S24 at *
  intro S25 V25 r25 mc ms q1 q2 q3 q4 q5
  subst q1 q2 q3 q4 q5
  obtain ⟨c25, i25, e25⟩ := h24.alo (k := 32) (by decide)
  rw [show mt 32 = 20 from by decide, show ml 32 = 4320 from by decide] at i25
  refine ⟨i25.tg, by decide, by decide, by decide, by decide, ?_⟩
  have h25 := i25.put (k := 32) (by decide) (by decide) e25
  clear i25 h24 e25
  generalize up (clr V24 (S24.2.2 + 1)) m 32 (S24.2.2 + 1) = V25 at *
  generalize nw S24 20 4320 = S25 at *
  intro S26 V26 r26 mc ms q1 q2 q3 q4 q5
  subst q1 q2 q3 q4 q5
  obtain ⟨c26, i26, e26⟩ := h25.alo (k := 33) (by decide)
  rw [show mt 33 = 20 from by decide, show ml 33 = 4320 from by decide] at i26
  refine ⟨i26.tg, by decide, by decide, by decide, by decide, ?_⟩
  have h26 := i26.put (k := 33) (by decide) (by decide) e26
  clear i26 h25 e26
  generalize up (clr V25 (S25.2.2 + 1)) m 33 (S25.2.2 + 1) = V26 at *
  generalize nw S25 20 4320 = S26 at *
  intro S27 V27 r27 mc ms q1 q2 q3 q4 q5
  subst q1 q2 q3 q4 q5
  obtain ⟨c27, i27, e27⟩ := h26.alo (k := 34) (by decide)
  rw [show mt 34 = 20 from by decide, show ml 34 = 360 from by decide] at i27
  refine ⟨i27.tg, by decide, by decide, by decide, by decide, ?_⟩
  have h27 := i27.put (k := 34) (by decide) (by decide) e27
  clear i27 h26 e27
  generalize up (clr V26 (S26.2.2 + 1)) m 34 (S26.2.2 + 1) = V27 at *
  generalize nw S26 20 360 = S27 at *
  intro S28 V28 r28 mc ms q1 q2 q3 q4 q5
  subst q1 q2 q3 q4 q5
  obtain ⟨c28, i28, e28⟩ := h27.alo (k := 35) (by decide)
  rw [show mt 35 = 20 from by decide, show ml 35 = 31000 from by decide] at i28
  refine ⟨i28.tg, by decide, by decide, by decide, by decide, ?_⟩
  have h28 := i28.put (k := 35) (by decide) (by decide) e28
  clear i28 h27 e28
  generalize up (clr V27 (S27.2.2 + 1)) m 35 (S27.2.2 + 1) = V28 at *
  generalize nw S27 20 31000 = S28 at *
  intro S29 V29 r29 mc ms q1 q2 q3 q4 q5
  subst q1 q2 q3 q4 q5
  obtain ⟨c29, i29, e29⟩ := h28.alo (k := 36) (by decide)
  rw [show mt 36 = 20 from by decide, show ml 36 = 31000 from by decide] at i29
  refine ⟨i29.tg, by decide, by decide, by decide, by decide, ?_⟩
  have h29 := i29.put (k := 36) (by decide) (by decide) e29
  clear i29 h28 e29
  generalize up (clr V28 (S28.2.2 + 1)) m 36 (S28.2.2 + 1) = V29 at *
  generalize nw S28 20 31000 = S29 at *
  intro S30 V30 r30 mc ms q1 q2 q3 q4 q5
  subst q1 q2 q3 q4 q5
  obtain ⟨c30, i30, e30⟩ := h29.alo (k := 37) (by decide)
  rw [show mt 37 = 20 from by decide, show ml 37 = 31000 from by decide] at i30
  refine ⟨i30.tg, by decide, by decide, by decide, by decide, ?_⟩
  have h30 := i30.put (k := 37) (by decide) (by decide) e30
  clear i30 h29 e30
  generalize up (clr V29 (S29.2.2 + 1)) m 37 (S29.2.2 + 1) = V30 at *
  generalize nw S29 20 31000 = S30 at *
  intro S31 V31 r31 mc ms q1 q2 q3 q4 q5
  subst q1 q2 q3 q4 q5
  obtain ⟨c31, i31, e31⟩ := h30.alo (k := 38) (by decide)
  rw [show mt 38 = 20 from by decide, show ml 38 = 31000 from by decide] at i31
  refine ⟨i31.tg, by decide, by decide, by decide, by decide, ?_⟩
  have h31 := i31.put (k := 38) (by decide) (by decide) e31
  clear i31 h30 e31
  generalize up (clr V30 (S30.2.2 + 1)) m 38 (S30.2.2 + 1) = V31 at *
  generalize nw S30 20 31000 = S31 at *
  intro S32 V32 r32 mc ms q1 q2 q3 q4 q5
  subst q1 q2 q3 q4 q5
  obtain ⟨c32, i32, e32⟩ := h31.alo (k := 39) (by decide)
  rw [show mt 39 = 20 from by decide, show ml 39 = 31000 from by decide] at i32
  refine ⟨i32.tg, by decide, by decide, by decide, by decide, ?_⟩
  have h32 := i32.put (k := 39) (by decide) (by decide) e32
  clear i32 h31 e32
  generalize up (clr V31 (S31.2.2 + 1)) m 39 (S31.2.2 + 1) = V32 at *
  generalize nw S31 20 31000 = S32 at *
  intro S33 V33 r33 mc ms q1 q2 q3 q4 q5
  subst q1 q2 q3 q4 q5
  obtain ⟨c33, i33, e33⟩ := h32.alo (k := 48) (by decide)
  rw [show mt 48 = 20 from by decide, show ml 48 = 3100 from by decide] at i33
  refine ⟨i33.tg, by decide, by decide, by decide, by decide, ?_⟩
  have h33 := i33.put (k := 48) (by decide) (by decide) e33
  clear i33 h32 e33
  generalize up (clr V32 (S32.2.2 + 1)) m 48 (S32.2.2 + 1) = V33 at *
  generalize nw S32 20 3100 = S33 at *
  intro S34 V34 r34 mc ms q1 q2 q3 q4 q5
  subst q1 q2 q3 q4 q5
  obtain ⟨c34, i34, e34⟩ := h33.alo (k := 49) (by decide)
  rw [show mt 49 = 20 from by decide, show ml 49 = 3100 from by decide] at i34
  refine ⟨i34.tg, by decide, by decide, by decide, by decide, ?_⟩
  have h34 := i34.put (k := 49) (by decide) (by decide) e34
  clear i34 h33 e34
  generalize up (clr V33 (S33.2.2 + 1)) m 49 (S33.2.2 + 1) = V34 at *
  generalize nw S33 20 3100 = S34 at *
  intro S35 V35 r35 mc ms q1 q2 q3 q4 q5
  subst q1 q2 q3 q4 q5
  obtain ⟨c35, i35, e35⟩ := h34.alo (k := 50) (by decide)
  rw [show mt 50 = 20 from by decide, show ml 50 = 3100 from by decide] at i35
  refine ⟨i35.tg, by decide, by decide, by decide, by decide, ?_⟩
  have h35 := i35.put (k := 50) (by decide) (by decide) e35
  clear i35 h34 e35
  generalize up (clr V34 (S34.2.2 + 1)) m 50 (S34.2.2 + 1) = V35 at *
  generalize nw S34 20 3100 = S35 at *
  intro S36 V36 r36 mc ms q1 q2 q3 q4 q5
  subst q1 q2 q3 q4 q5
  obtain ⟨c36, i36, e36⟩ := h35.alo (k := 52) (by decide)
  rw [show mt 52 = 20 from by decide, show ml 52 = 1600 from by decide] at i36
  refine ⟨i36.tg, by decide, by decide, by decide, by decide, ?_⟩
  have h36 := i36.put (k := 52) (by decide) (by decide) e36
  clear i36 h35 e36
  generalize up (clr V35 (S35.2.2 + 1)) m 52 (S35.2.2 + 1) = V36 at *
  generalize nw S35 20 1600 = S36 at *
  intro S37 V37 r37 mc ms q1 q2 q3 q4 q5
  subst q1 q2 q3 q4 q5
  obtain ⟨c37, i37, e37⟩ := h36.alo (k := 53) (by decide)
  rw [show mt 53 = 20 from by decide, show ml 53 = 120 from by decide] at i37
  refine ⟨i37.tg, by decide, by decide, by decide, by decide, ?_⟩
  have h37 := i37.put (k := 53) (by decide) (by decide) e37
  clear i37 h36 e37
  generalize up (clr V36 (S36.2.2 + 1)) m 53 (S36.2.2 + 1) = V37 at *
  generalize nw S36 20 120 = S37 at *
  intro S38 V38 r38 mc ms q1 q2 q3 q4 q5
  subst q1 q2 q3 q4 q5
  obtain ⟨c38, i38, e38⟩ := h37.alo (k := 54) (by decide)
  rw [show mt 54 = 20 from by decide, show ml 54 = 2880 from by decide] at i38
  refine ⟨i38.tg, by decide, by decide, by decide, by decide, ?_⟩
  have h38 := i38.put (k := 54) (by decide) (by decide) e38
  clear i38 h37 e38
  generalize up (clr V37 (S37.2.2 + 1)) m 54 (S37.2.2 + 1) = V38 at *
  generalize nw S37 20 2880 = S38 at *
  intro S39 V39 r39 mc ms q1 q2 q3 q4 q5
  subst q1 q2 q3 q4 q5
  obtain ⟨c39, i39, e39⟩ := h38.alo (k := 55) (by decide)
  rw [show mt 55 = 20 from by decide, show ml 55 = 480 from by decide] at i39
  refine ⟨i39.tg, by decide, by decide, by decide, by decide, ?_⟩
  have h39 := i39.put (k := 55) (by decide) (by decide) e39
  clear i39 h38 e39
  generalize up (clr V38 (S38.2.2 + 1)) m 55 (S38.2.2 + 1) = V39 at *
  generalize nw S38 20 480 = S39 at *
  intro S40 V40 r40 mc ms q1 q2 q3 q4 q5
  subst q1 q2 q3 q4 q5
  obtain ⟨c40, i40, e40⟩ := h39.alo (k := 56) (by decide)
  rw [show mt 56 = 20 from by decide, show ml 56 = 5760 from by decide] at i40
  refine ⟨i40.tg, by decide, by decide, by decide, by decide, ?_⟩
  have h40 := i40.put (k := 56) (by decide) (by decide) e40
  clear i40 h39 e40
  generalize up (clr V39 (S39.2.2 + 1)) m 56 (S39.2.2 + 1) = V40 at *
  generalize nw S39 20 5760 = S40 at *
  intro S41 V41 r41 mc ms q1 q2 q3 q4 q5
  subst q1 q2 q3 q4 q5
  obtain ⟨c41, i41, e41⟩ := h40.alo (k := 57) (by decide)
  rw [show mt 57 = 20 from by decide, show ml 57 = 480 from by decide] at i41
  refine ⟨i41.tg, by decide, by decide, by decide, by decide, ?_⟩
  have h41 := i41.put (k := 57) (by decide) (by decide) e41
  clear i41 h40 e41
  generalize up (clr V40 (S40.2.2 + 1)) m 57 (S40.2.2 + 1) = V41 at *
  generalize nw S40 20 480 = S41 at *
  intro S42 V42 r42 mc ms q1 q2 q3 q4 q5
  subst q1 q2 q3 q4 q5
  obtain ⟨c42, i42, e42⟩ := h41.alo (k := 58) (by decide)
  rw [show mt 58 = 20 from by decide, show ml 58 = 1600 from by decide] at i42
  refine ⟨i42.tg, by decide, by decide, by decide, by decide, ?_⟩
  have h42 := i42.put (k := 58) (by decide) (by decide) e42
  clear i42 h41 e42
  generalize up (clr V41 (S41.2.2 + 1)) m 58 (S41.2.2 + 1) = V42 at *
  generalize nw S41 20 1600 = S42 at *
  intro S43 V43 r43 mc ms q1 q2 q3 q4 q5
  subst q1 q2 q3 q4 q5
  obtain ⟨c43, i43, e43⟩ := h42.alo (k := 59) (by decide)
  rw [show mt 59 = 20 from by decide, show ml 59 = 10 from by decide] at i43
  refine ⟨i43.tg, by decide, by decide, by decide, by decide, ?_⟩
  have h43 := i43.put (k := 59) (by decide) (by decide) e43
  clear i43 h42 e43
  generalize up (clr V42 (S42.2.2 + 1)) m 59 (S42.2.2 + 1) = V43 at *
  generalize nw S42 20 10 = S43 at *
  intro S44 V44 r44 mc ms q1 q2 q3 q4 q5
  subst q1 q2 q3 q4 q5
  obtain ⟨c44, i44, e44⟩ := h43.alo (k := 60) (by decide)
  rw [show mt 60 = 20 from by decide, show ml 60 = 31000 from by decide] at i44
  refine ⟨i44.tg, by decide, by decide, by decide, by decide, ?_⟩
  have h44 := i44.put (k := 60) (by decide) (by decide) e44
  clear i44 h43 e44
  generalize up (clr V43 (S43.2.2 + 1)) m 60 (S43.2.2 + 1) = V44 at *
  generalize nw S43 20 31000 = S44 at *
  intro S45 V45 r45 mc ms q1 q2 q3 q4 q5
  subst q1 q2 q3 q4 q5
  obtain ⟨c45, i45, e45⟩ := h44.alo (k := 61) (by decide)
  rw [show mt 61 = 20 from by decide, show ml 61 = 31000 from by decide] at i45
  refine ⟨i45.tg, by decide, by decide, by decide, by decide, ?_⟩
  have h45 := i45.put (k := 61) (by decide) (by decide) e45
  clear i45 h44 e45
  generalize up (clr V44 (S44.2.2 + 1)) m 61 (S44.2.2 + 1) = V45 at *
  generalize nw S44 20 31000 = S45 at *
  intro S46 V46 r46 mc ms q1 q2 q3 q4 q5
  subst q1 q2 q3 q4 q5
  obtain ⟨c46, i46, e46⟩ := h45.alo (k := 62) (by decide)
  rw [show mt 62 = 20 from by decide, show ml 62 = 10 from by decide] at i46
  refine ⟨i46.tg, by decide, by decide, by decide, by decide, ?_⟩
  have h46 := i46.put (k := 62) (by decide) (by decide) e46
  clear i46 h45 e46
  generalize up (clr V45 (S45.2.2 + 1)) m 62 (S45.2.2 + 1) = V46 at *
  generalize nw S45 20 10 = S46 at *
  intro S47 V47 r47 mc ms q1 q2 q3 q4 q5
  subst q1 q2 q3 q4 q5
  obtain ⟨c47, i47, e47⟩ := h46.alo (k := 63) (by decide)
  rw [show mt 63 = 20 from by decide, show ml 63 = 13 from by decide] at i47
  refine ⟨i47.tg, by decide, by decide, by decide, by decide, ?_⟩
  have h47 := i47.put (k := 63) (by decide) (by decide) e47
  clear i47 h46 e47
  generalize up (clr V46 (S46.2.2 + 1)) m 63 (S46.2.2 + 1) = V47 at *
  generalize nw S46 20 13 = S47 at *
  intro S48 V48 r48 mc ms q1 q2 q3 q4 q5
  subst q1 q2 q3 q4 q5
  obtain ⟨c48, i48, e48⟩ := h47.alo (k := 66) (by decide)
  rw [show mt 66 = 20 from by decide, show ml 66 = 40 from by decide] at i48
  refine ⟨i48.tg, by decide, by decide, by decide, by decide, ?_⟩
  have h48 := i48.put (k := 66) (by decide) (by decide) e48
  clear i48 h47 e48
  generalize up (clr V47 (S47.2.2 + 1)) m 66 (S47.2.2 + 1) = V48 at *
  generalize nw S47 20 40 = S48 at *
  intro S49 V49 r49 mc ms q1 q2 q3 q4 q5
  subst q1 q2 q3 q4 q5
  obtain ⟨c49, i49, e49⟩ := h48.alo (k := 67) (by decide)
  rw [show mt 67 = 20 from by decide, show ml 67 = 40 from by decide] at i49
  refine ⟨i49.tg, by decide, by decide, by decide, by decide, ?_⟩
  have h49 := i49.put (k := 67) (by decide) (by decide) e49
  clear i49 h48 e49
  generalize up (clr V48 (S48.2.2 + 1)) m 67 (S48.2.2 + 1) = V49 at *
  generalize nw S48 20 40 = S49 at *
  intro S50 V50 r50 mc ms q1 q2 q3 q4 q5
  subst q1 q2 q3 q4 q5
  obtain ⟨c50, i50, e50⟩ := h49.alo (k := 70) (by decide)
  rw [show mt 70 = 20 from by decide, show ml 70 = 40 from by decide] at i50
  refine ⟨i50.tg, by decide, by decide, by decide, by decide, ?_⟩
  have h50 := i50.put (k := 70) (by decide) (by decide) e50
  clear i50 h49 e50
  generalize up (clr V49 (S49.2.2 + 1)) m 70 (S49.2.2 + 1) = V50 at *
  generalize nw S49 20 40 = S50 at *
  intro S51 V51 r51 mc ms q1 q2 q3 q4 q5
  subst q1 q2 q3 q4 q5
  obtain ⟨c51, i51, e51⟩ := h50.alo (k := 71) (by decide)
  rw [show mt 71 = 20 from by decide, show ml 71 = 40 from by decide] at i51
  refine ⟨i51.tg, by decide, by decide, by decide, by decide, ?_⟩
  have h51 := i51.put (k := 71) (by decide) (by decide) e51
  clear i51 h50 e51
  generalize up (clr V50 (S50.2.2 + 1)) m 71 (S50.2.2 + 1) = V51 at *
  generalize nw S50 20 40 = S51 at *
  intro S52 V52 r52 mc ms q1 q2 q3 q4 q5
  subst q1 q2 q3 q4 q5
  obtain ⟨c52, i52, e52⟩ := h51.alo (k := 73) (by decide)
  rw [show mt 73 = 20 from by decide, show ml 73 = 10 from by decide] at i52
  refine ⟨i52.tg, by decide, by decide, by decide, by decide, ?_⟩
  have h52 := i52.put (k := 73) (by decide) (by decide) e52
  clear i52 h51 e52
  generalize up (clr V51 (S51.2.2 + 1)) m 73 (S51.2.2 + 1) = V52 at *
  generalize nw S51 20 10 = S52 at *
  intro S53 V53 r53 mc ms q1 q2 q3 q4 q5
  subst q1 q2 q3 q4 q5
  obtain ⟨c53, i53, e53⟩ := h52.alo (k := 74) (by decide)
  rw [show mt 74 = 20 from by decide, show ml 74 = 10 from by decide] at i53
  refine ⟨i53.tg, by decide, by decide, by decide, by decide, ?_⟩
  have h53 := i53.put (k := 74) (by decide) (by decide) e53
  clear i53 h52 e53
  generalize up (clr V52 (S52.2.2 + 1)) m 74 (S52.2.2 + 1) = V53 at *
  generalize nw S52 20 10 = S53 at *
  intro S54 V54 r54 mc ms q1 q2 q3 q4 q5
  subst q1 q2 q3 q4 q5
  obtain ⟨c54, i54, e54⟩ := h53.alo (k := 75) (by decide)
  rw [show mt 75 = 20 from by decide, show ml 75 = 240 from by decide] at i54
  refine ⟨i54.tg, by decide, by decide, by decide, by decide, ?_⟩
  have h54 := i54.put (k := 75) (by decide) (by decide) e54
  clear i54 h53 e54
  generalize up (clr V53 (S53.2.2 + 1)) m 75 (S53.2.2 + 1) = V54 at *
  generalize nw S53 20 240 = S54 at *
  intro S55 V55 r55 mc ms q1 q2 q3 q4 q5
  subst q1 q2 q3 q4 q5
  obtain ⟨c55, i55, e55⟩ := h54.alo (k := 77) (by decide)
  rw [show mt 77 = 20 from by decide, show ml 77 = 20 from by decide] at i55
  refine ⟨i55.tg, by decide, by decide, by decide, by decide, ?_⟩
  have h55 := i55.put (k := 77) (by decide) (by decide) e55
  clear i55 h54 e55
  generalize up (clr V54 (S54.2.2 + 1)) m 77 (S54.2.2 + 1) = V55 at *
  generalize nw S54 20 20 = S55 at *
  intro S56 V56 r56 mc ms q1 q2 q3 q4 q5
  subst q1 q2 q3 q4 q5
  obtain ⟨c56, i56, e56⟩ := h55.alo (k := 78) (by decide)
  rw [show mt 78 = 20 from by decide, show ml 78 = 20 from by decide] at i56
  refine ⟨i56.tg, by decide, by decide, by decide, by decide, ?_⟩
  have h56 := i56.put (k := 78) (by decide) (by decide) e56
  clear i56 h55 e56
  generalize up (clr V55 (S55.2.2 + 1)) m 78 (S55.2.2 + 1) = V56 at *
  generalize nw S55 20 20 = S56 at *
  intro S57 V57 r57 mc ms q1 q2 q3 q4 q5
  subst q1 q2 q3 q4 q5
  obtain ⟨c57, i57, e57⟩ := h56.alo (k := 79) (by decide)
  rw [show mt 79 = 20 from by decide, show ml 79 = 1220 from by decide] at i57
  refine ⟨i57.tg, by decide, by decide, by decide, by decide, ?_⟩
  have h57 := i57.put (k := 79) (by decide) (by decide) e57
  clear i57 h56 e57
  generalize up (clr V56 (S56.2.2 + 1)) m 79 (S56.2.2 + 1) = V57 at *
  generalize nw S56 20 1220 = S57 at *
  intro S58 V58 r58 mc ms q1 q2 q3 q4 q5
  subst q1 q2 q3 q4 q5
  obtain ⟨c58, i58, e58⟩ := h57.alo (k := 80) (by decide)
  rw [show mt 80 = 20 from by decide, show ml 80 = 1220 from by decide] at i58
  refine ⟨i58.tg, by decide, by decide, by decide, by decide, ?_⟩
  have h58 := i58.put (k := 80) (by decide) (by decide) e58
  clear i58 h57 e58
  generalize up (clr V57 (S57.2.2 + 1)) m 80 (S57.2.2 + 1) = V58 at *
  generalize nw S57 20 1220 = S58 at *
  intro S59 V59 r59 mc ms q1 q2 q3 q4 q5
  subst q1 q2 q3 q4 q5
  obtain ⟨c59, i59, e59⟩ := h58.alo (k := 82) (by decide)
  rw [show mt 82 = 21 from by decide, show ml 82 = 3000 from by decide] at i59
  exact ⟨i59.tg, hk _ _ _ (i59.put (k := 82) (by decide) (by decide) e59)⟩
