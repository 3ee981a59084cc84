/-! ===== the constructors: the class ===== -/
section INB
variable {l : Launch} {G : GT} {c : Int → Int} {S : Sh} {V N : Mem} {Q : Int → Sh → Mem → Prop} {d : Nat} {r0 : Int}
theorem ct_msgInit0 (hc : Cn c S) (h0 : 0 ≤ S.2.2) (hW : Wv c S V = N) (x : c 70 = r0) (tg5 : N 70 (-1) = 5) (hd : 1 ≤ d) (hk : ∀ c' S' V', Cn c' S' → (∀ L, ¬ (71 ≤ L ∧ L ≤ 73) → c' L = c L) → (∀ L k, ¬ (71 ≤ L ∧ L ≤ 73) → ¬ (L = 70 ∧ (k = 2 ∨ k = 3 ∨ k = 4)) → Wv c' S' V' L k = N L k) → (∀ M', Rdr c' (Wv c' S' V') M' 0) → Q 0 S' V') : Ct l G bX4_init Q d 3 180 [vr r0] S V := by
  subst x
  exact ct_msgInit (m := 0) hc h0 hW tg5 hd (fun c' S' V' a1 a2 a3 a4 => hk c' S' V' a1 (fun L q => a2 L (by omega)) (fun L k q1 q2 => a3 L k (by omega) (by omega)) a4)
theorem ct_bookInit (hc : Cn c S) (h0 : 0 ≤ S.2.2) (hW : Wv c S V = N) (x : c 60 = r0) (g : N 60 (-1) = 12) (z : ∀ j, 0 ≤ j → N 60 j = 0) (hd : 9 ≤ d) (hk : ∀ c' S' V' N', Cn c' S' → 0 ≤ S'.2.2 → Wv c' S' V' = N' → c' 60 = r0 → (∀ M : Mem, (∀ k, M 0 k = 0) → Rel c' N' M) → Q 0 S' V') : Ct l G bX11_init Q d 24 19353 [vr r0] S V := by
  refine qX11_init fun r00 => vX11_init_0 ⟨by rw [← x]; exact (hc.2 _).1, by omega, by decide, by decide, by decide, by decide, ?_⟩
  intro S1 V1 r1 mc1 ms1 q1 q2 q3 q4 q5
  subst q1 q2 q3 q4 q5
  obtain ⟨c1, hc1, h1, hW1, e1, f1⟩ := al (L := 61) (t := 21) (n := 3000) hc h0 hW
  have x1 : c1 60 = r0 := (f1 60 (by decide)).trans x
  refine ⟨by rw [← x1, (Wr hW1).2.1, nwl_ne (by omega)]; exact g, by decide, by decide, ?_⟩
  have hU1 : Wv c1 (nw S 21 3000) (up (clr V (S.2.2 + 1)) r0 0 (S.2.2 + 1)) = up (nwl N 61 21 3000) 60 0 (S.2.2 + 1) := by rw [← x1, Wv_up hc1 (by decide), hW1]
  generalize nw S 21 3000 = S1 at *
  generalize (S.2.2 + 1) = r1 at *
  generalize up (clr V r1) r0 0 r1 = U1 at *
  intro S3 V3 r3 mc3 ms3 q1 q2 q3 q4 q5
  subst q1 q2 q3 q4 q5
  obtain ⟨c3, hc3, h3, hW3, e3, f3⟩ := al (L := 40) (t := 10) (n := 0) hc1 h1 hU1
  have x3 : c3 60 = r0 := (f3 60 (by decide)).trans x1
  refine ⟨by omega, CT.of (d - 1) 4 9015 (ct_tokInit (Q := fun _ S5 V5 => ∃ c5 N5, Cn c5 S5 ∧ 0 ≤ S5.2.2 ∧ Wv c5 S5 V5 = N5 ∧ (∀ L, ¬ (41 ≤ L ∧ L ≤ 44) → c5 L = c3 L) ∧ (∀ L k, ¬ (40 ≤ L ∧ L ≤ 44) → N5 L k = nwl (up (nwl N 61 21 3000) 60 0 r1) 40 10 0 L k) ∧ TokF c5 N5) hc3 h3 hW3 e3 nwl_tag (by omega) (fun c' S' V' N' a1 a2 a3 a4 a5 a6 => ⟨c', N', a1, a2, a3, a4, a5, a6⟩)) (by omega) (by decide) (by decide) (fun z5 S5 V5 hq => ?_)⟩
  obtain ⟨c5, N5, hc5, h5, hW5, f5, g5, k5⟩ := hq
  have x5 : c5 60 = r0 := (f5 60 (by omega)).trans x3
  have y60 : N5 60 (-1) = 12 := by rw [g5 _ _ (by omega), nwl_ne (by omega), up_ne (by omega), nwl_ne (by omega)]; exact g
  refine ⟨by rw [← x5, (Wr hW5).2.1]; exact y60, by decide, by decide, ?_⟩
  generalize (S1.2.2 + 1) = r3 at *
  have hU5 : Wv c5 S5 (up V5 r0 2 r3) = up N5 60 2 r3 := by rw [← x5, Wv_up hc5 (by decide), hW5]
  intro S7 V7 r7 mc7 ms7 q1 q2 q3 q4 q5
  subst q1 q2 q3 q4 q5
  obtain ⟨c7, hc7, h7, hW7, e7, f7⟩ := al (L := 50) (t := 6) (n := 0) hc5 h5 hU5
  have x7 : c7 60 = r0 := (f7 60 (by decide)).trans x5
  have a2 : clr (up V5 r0 2 r3) (S5.2.2 + 1) (c7 60) 2 = r3 := by rw [(Wr hW7).1 _ _ (by decide), nwl_ne (by omega), up_eq]
  rw [x7] at a2
  rw [a2]
  refine ⟨by rw [← x7, (Wr hW7).2.1, nwl_ne (by omega), up_ne (by omega)]; exact y60, by omega, CT.of (d - 1) 4 6007 (ct_rdInit (r9 := r3) (Q := fun _ S9 V9 => ∃ c9 N9, Cn c9 S9 ∧ 0 ≤ S9.2.2 ∧ Wv c9 S9 V9 = N9 ∧ (∀ L, ¬ (L = 51 ∨ (120 ≤ L ∧ L ≤ 122)) → c9 L = c7 L) ∧ (∀ L k, ¬ (L = 50 ∨ L = 51 ∨ (120 ≤ L ∧ L ≤ 122)) → N9 L k = nwl (up N5 60 2 r3) 50 6 0 L k) ∧ CodF c9 N9 ∧ N9 50 (-1) = 6 ∧ N9 51 (-1) = 22 ∧ N9 51 (-2) = 4 ∧ N9 50 0 = r3 ∧ N9 50 1 = c9 120 ∧ N9 50 2 = c9 51) hc7 h7 hW7 e7 nwl_tag (by omega) (fun c' S' V' N' a1 a2 a3 a4 a5 a6 a7 a8 a9 a10 a11 a12 => ⟨c', N', a1, a2, a3, a4, a5, a6, a7, a8, a9, a10, a11, a12⟩)) (by omega) (by decide) (by decide) (fun z9 S9 V9 hq => ?_)⟩
  obtain ⟨c9, N9, hc9, h9, hW9, f9, g9, k9, m1, m2, m3, m4, m5, m6⟩ := hq
  have x9 : c9 60 = r0 := (f9 60 (by omega)).trans x7
  have y9 : N9 60 (-1) = 12 := by rw [g9 _ _ (by omega), nwl_ne (by omega), up_ne (by omega)]; exact y60
  refine ⟨by rw [← x9, (Wr hW9).2.1]; exact y9, by decide, by decide, ?_⟩
  generalize (S5.2.2 + 1) = r7 at *
  have hU9 : Wv c9 S9 (up V9 r0 3 r7) = up N9 60 3 r7 := by rw [← x9, Wv_up hc9 (by decide), hW9]
  intro S11 V11 r11 mc11 ms11 q1 q2 q3 q4 q5
  subst q1 q2 q3 q4 q5
  obtain ⟨c11, hc11, h11, hW11, e11, f11⟩ := al (L := 30) (t := 11) (n := 0) hc9 h9 hU9
  have x11 : c11 60 = r0 := (f11 60 (by decide)).trans x9
  refine ⟨by omega, CT.of (d - 1) 4 1038 (ct_wkInit (Q := fun _ S13 V13 => ∃ c13 N13, Cn c13 S13 ∧ 0 ≤ S13.2.2 ∧ Wv c13 S13 V13 = N13 ∧ (∀ L, ¬ (31 ≤ L ∧ L ≤ 34) → c13 L = c11 L) ∧ (∀ L k, ¬ (30 ≤ L ∧ L ≤ 34) → N13 L k = nwl (up N9 60 3 r7) 30 11 0 L k) ∧ N13 30 8 = nwl (up N9 60 3 r7) 30 11 0 30 8 ∧ WkF c13 N13) hc11 h11 hW11 e11 nwl_tag (by omega) (fun c' S' V' N' a1 a2 a3 a4 a5 a6 a7 => ⟨c', N', a1, a2, a3, a4, a5, a6, a7⟩)) (by omega) (by decide) (by decide) (fun z13 S13 V13 hq => ?_)⟩
  obtain ⟨c13, N13, hc13, h13, hW13, f13, g13, n8, k13⟩ := hq
  have x13 : c13 60 = r0 := (f13 60 (by omega)).trans x11
  have y13 : N13 60 (-1) = 12 := by rw [g13 _ _ (by omega), nwl_ne (by omega), up_ne (by omega)]; exact y9
  refine ⟨by rw [← x13, (Wr hW13).2.1]; exact y13, by decide, by decide, by decide, by decide, ?_⟩
  generalize (S9.2.2 + 1) = r11 at *

  have hU13 : Wv c13 S13 (up V13 r0 4 r11) = up N13 60 4 r11 := by rw [← x13, Wv_up hc13 (by decide), hW13]
  intro S15 V15 r15 mc15 ms15 q1 q2 q3 q4 q5
  subst q1 q2 q3 q4 q5
  obtain ⟨c15, hc15, h15, hW15, e15, f15⟩ := al (L := 62) (t := 30) (n := 10) hc13 h13 hU13
  have x15 : c15 60 = r0 := (f15 60 (by decide)).trans x13
  have y15 : nwl (up N13 60 4 r11) 62 30 10 60 (-1) = 12 := by rw [nwl_ne (by omega), up_ne (by omega)]; exact y13
  refine ⟨by rw [← x15, (Wr hW15).2.1]; exact y15, by decide, by decide, by decide, by decide, ?_⟩
  generalize nw S13 30 10 = S15 at *
  generalize clr (up V13 r0 4 r11) (S13.2.2 + 1) = V15 at *
  generalize (S13.2.2 + 1) = r15 at *
  generalize hN15 : nwl (up N13 60 4 r11) 62 30 10 = N15 at *
  have g15 : ∀ L k, ¬ (L = 60 ∧ k = 4) → L ≠ 62 → N15 L k = N13 L k := fun L k a q => by rw [← hN15, nwl_ne q, up_ne (by omega)]
  have u15 : N15 60 4 = r11 := by rw [← hN15, nwl_ne (by omega), up_eq]
  have w15 : N15 62 (-1) = 30 := by rw [← hN15, nwl_tag]
  have v15 : N15 62 (-2) = 10 := by rw [← hN15, nwl_len]

  have hU15 : Wv c15 S15 (up V15 r0 5 r15) = up N15 60 5 r15 := by rw [← x15, Wv_up hc15 (by decide), hW15]
  intro S17 V17 r17 mc17 ms17 q1 q2 q3 q4 q5
  subst q1 q2 q3 q4 q5
  obtain ⟨c17, hc17, h17, hW17, e17, f17⟩ := al (L := 63) (t := 36) (n := 40) hc15 h15 hU15
  have x17 : c17 60 = r0 := (f17 60 (by decide)).trans x15
  have y17 : nwl (up N15 60 5 r15) 63 36 40 60 (-1) = 12 := by rw [nwl_ne (by omega), up_ne (by omega)]; exact y15
  refine ⟨by rw [← x17, (Wr hW17).2.1]; exact y17, by decide, by decide, by decide, by decide, ?_⟩
  generalize nw S15 36 40 = S17 at *
  generalize clr (up V15 r0 5 r15) (S15.2.2 + 1) = V17 at *
  generalize (S15.2.2 + 1) = r17 at *
  generalize hN17 : nwl (up N15 60 5 r15) 63 36 40 = N17 at *
  have g17 : ∀ L k, ¬ (L = 60 ∧ k = 5) → L ≠ 63 → N17 L k = N15 L k := fun L k a q => by rw [← hN17, nwl_ne q, up_ne (by omega)]
  have u17 : N17 60 5 = r15 := by rw [← hN17, nwl_ne (by omega), up_eq]
  have w17 : N17 63 (-1) = 36 := by rw [← hN17, nwl_tag]
  have v17 : N17 63 (-2) = 40 := by rw [← hN17, nwl_len]

  have hU17 : Wv c17 S17 (up V17 r0 9 r17) = up N17 60 9 r17 := by rw [← x17, Wv_up hc17 (by decide), hW17]
  intro S19 V19 r19 mc19 ms19 q1 q2 q3 q4 q5
  subst q1 q2 q3 q4 q5
  obtain ⟨c19, hc19, h19, hW19, e19, f19⟩ := al (L := 64) (t := 36) (n := 10) hc17 h17 hU17
  have x19 : c19 60 = r0 := (f19 60 (by decide)).trans x17
  have y19 : nwl (up N17 60 9 r17) 64 36 10 60 (-1) = 12 := by rw [nwl_ne (by omega), up_ne (by omega)]; exact y17
  refine ⟨by rw [← x19, (Wr hW19).2.1]; exact y19, by decide, by decide, by decide, by decide, ?_⟩
  generalize nw S17 36 10 = S19 at *
  generalize clr (up V17 r0 9 r17) (S17.2.2 + 1) = V19 at *
  generalize (S17.2.2 + 1) = r19 at *
  generalize hN19 : nwl (up N17 60 9 r17) 64 36 10 = N19 at *
  have g19 : ∀ L k, ¬ (L = 60 ∧ k = 9) → L ≠ 64 → N19 L k = N17 L k := fun L k a q => by rw [← hN19, nwl_ne q, up_ne (by omega)]
  have u19 : N19 60 9 = r17 := by rw [← hN19, nwl_ne (by omega), up_eq]
  have w19 : N19 64 (-1) = 36 := by rw [← hN19, nwl_tag]
  have v19 : N19 64 (-2) = 10 := by rw [← hN19, nwl_len]

  have hU19 : Wv c19 S19 (up V19 r0 11 r19) = up N19 60 11 r19 := by rw [← x19, Wv_up hc19 (by decide), hW19]
  intro S21 V21 r21 mc21 ms21 q1 q2 q3 q4 q5
  subst q1 q2 q3 q4 q5
  obtain ⟨c21, hc21, h21, hW21, e21, f21⟩ := al (L := 65) (t := 34) (n := 20) hc19 h19 hU19
  have x21 : c21 60 = r0 := (f21 60 (by decide)).trans x19
  have y21 : nwl (up N19 60 11 r19) 65 34 20 60 (-1) = 12 := by rw [nwl_ne (by omega), up_ne (by omega)]; exact y19
  refine ⟨by rw [← x21, (Wr hW21).2.1]; exact y21, by decide, by decide, ?_⟩
  generalize nw S19 34 20 = S21 at *
  generalize clr (up V19 r0 11 r19) (S19.2.2 + 1) = V21 at *
  generalize (S19.2.2 + 1) = r21 at *
  generalize hN21 : nwl (up N19 60 11 r19) 65 34 20 = N21 at *
  have g21 : ∀ L k, ¬ (L = 60 ∧ k = 11) → L ≠ 65 → N21 L k = N19 L k := fun L k a q => by rw [← hN21, nwl_ne q, up_ne (by omega)]
  have u21 : N21 60 11 = r19 := by rw [← hN21, nwl_ne (by omega), up_eq]
  have w21 : N21 65 (-1) = 34 := by rw [← hN21, nwl_tag]
  have v21 : N21 65 (-2) = 20 := by rw [← hN21, nwl_len]

  have hU21 : Wv c21 S21 (up V21 r0 13 r21) = up N21 60 13 r21 := by rw [← x21, Wv_up hc21 (by decide), hW21]
  intro S23 V23 r23 mc23 ms23 q1 q2 q3 q4 q5
  subst q1 q2 q3 q4 q5
  obtain ⟨c23, hc23, h23, hW23, e23, f23⟩ := al (L := 70) (t := 5) (n := 0) hc21 h21 hU21
  have x23 : c23 60 = r0 := (f23 60 (by decide)).trans x21
  refine ⟨by omega, CT.of (d - 1) 3 180 (ct_msgInit0 (Q := fun _ S25 V25 => ∃ c25, Cn c25 S25 ∧ (∀ L, ¬ (71 ≤ L ∧ L ≤ 73) → c25 L = c23 L) ∧ (∀ L k, ¬ (71 ≤ L ∧ L ≤ 73) → ¬ (L = 70 ∧ (k = 2 ∨ k = 3 ∨ k = 4)) → Wv c25 S25 V25 L k = nwl (up N21 60 13 r21) 70 5 0 L k) ∧ (∀ M', Rdr c25 (Wv c25 S25 V25) M' 0)) hc23 h23 hW23 e23 nwl_tag (by omega) (fun c' S' V' a1 a2 a3 a4 => ⟨c', a1, a2, a3, a4⟩)) (by omega) (by decide) (by decide) (fun z25 S25 V25 hq => ?_)⟩
  obtain ⟨c25, hc25, f25, g25, k25⟩ := hq
  have x25 : c25 60 = r0 := (f25 60 (by omega)).trans x23
  generalize (S21.2.2 + 1) = r23 at *
  have hU25 : Wv c25 S25 (up V25 r0 15 r23) = up (Wv c25 S25 V25) 60 15 r23 := by rw [← x25, Wv_up hc25 (by decide)]
  refine ⟨by rw [← x25]; exact (by have q := (Wr (c := c25) (S := S25) (V := V25) rfl).2.1 60; rw [q, g25 _ _ (by omega) (by omega), nwl_ne (by omega), up_ne (by omega)]; exact y21), ?_⟩
  have h25 : 0 ≤ S25.2.2 := by have := (hc25.2 60).2; omega
  refine hk c25 S25 _ _ hc25 h25 hU25 x25 (fun M hM => ?_)
  obtain ⟨p1, p2, p3, p4, p5, p6, p7, p8, p9, p10, p11, p12, p13, p14⟩ := k5
  obtain ⟨o1, o2, o3, o4, o5, o6, o7⟩ := k9
  obtain ⟨b1, b2, b3, b4, b5, b6, b7, b8, b9, b10, b11, b12, b13⟩ := k13
  have kk0 : N5 44 0 = 1369421 := p14 0 (by decide)
  have kk1 : N5 44 1 = 4308 := p14 1 (by decide)
  have kk2 : N5 44 2 = 335815429 := p14 2 (by decide)
  have kk3 : N5 44 3 = 52449483 := p14 3 (by decide)
  have kk4 : N5 44 4 = 8844755282 := p14 4 (by decide)
  have kk5 : N5 44 5 = 20789412040 := p14 5 (by decide)
  have kk6 : N5 44 6 = 791749 := p14 6 (by decide)
  have kk7 : N5 44 7 = 1361093 := p14 7 (by decide)
  have kk8 : N5 44 8 = 369411397 := p14 8 (by decide)
  have kk9 : N5 44 9 = 62596 := p14 9 (by decide)
  have kk10 : N5 44 10 = 5019269 := p14 10 (by decide)
  have kk11 : N5 44 11 = 17364357 := p14 11 (by decide)
  have z1 : N 60 1 = 0 := z _ (by decide)
  have z6 : N 60 6 = 0 := z _ (by decide)
  have z7 : N 60 7 = 0 := z _ (by decide)
  have z8 : N 60 8 = 0 := z _ (by decide)
  have z10 : N 60 10 = 0 := z _ (by decide)
  have z12 : N 60 12 = 0 := z _ (by decide)
  have z14 : N 60 14 = 0 := z _ (by decide)
  have n8' : N13 30 8 = 0 := by rw [n8]; unfold nwl; rw [if_pos rfl, if_neg (by decide), if_neg (by decide)]
  refine ⟨?_, ?_, ?_, fun s s0 s1 => ?_, fun s s0 s1 => ?_, fun s s0 s1 => ?_, fun s s0 s1 => ?_, fun s s0 s1 => ?_⟩
  · refine ⟨?_, ?_, ?_, ?_, ?_, ?_, ?_, ?_, ?_, ?_, ?_, ?_, ?_, ?_, ?_, ?_, ?_, ?_, ?_, ?_, ?_, ?_, ?_, ?_, ?_, ?_, ?_, ?_, ?_, ?_, ?_, ?_, ?_, ?_, ?_, ?_, ?_, ?_, ?_⟩
    · simp (disch := omega) only [up_ne, nwl_ne, up_eq, nwl_tag, nwl_len, g25, g21, g19, g17, g15, g13, g9, g5, u15, u17, u19, u21, w15, w17, w19, w21, v15, v17, v19, v21, f25, f23, f21, f19, f17, f15, f13, f11, f9, f7, f5, f3, f1, e1, e3, e7, e11, e15, e17, e19, e21, e23] <;> assumption
    · simp (disch := omega) only [up_ne, nwl_ne, up_eq, nwl_tag, nwl_len, g25, g21, g19, g17, g15, g13, g9, g5, u15, u17, u19, u21, w15, w17, w19, w21, v15, v17, v19, v21, f25, f23, f21, f19, f17, f15, f13, f11, f9, f7, f5, f3, f1, e1, e3, e7, e11, e15, e17, e19, e21, e23] <;> assumption
    · simp (disch := omega) only [up_ne, nwl_ne, up_eq, nwl_tag, nwl_len, g25, g21, g19, g17, g15, g13, g9, g5, u15, u17, u19, u21, w15, w17, w19, w21, v15, v17, v19, v21, f25, f23, f21, f19, f17, f15, f13, f11, f9, f7, f5, f3, f1, e1, e3, e7, e11, e15, e17, e19, e21, e23] <;> assumption
    · simp (disch := omega) only [up_ne, nwl_ne, up_eq, nwl_tag, nwl_len, g25, g21, g19, g17, g15, g13, g9, g5, u15, u17, u19, u21, w15, w17, w19, w21, v15, v17, v19, v21, f25, f23, f21, f19, f17, f15, f13, f11, f9, f7, f5, f3, f1, e1, e3, e7, e11, e15, e17, e19, e21, e23] <;> assumption
    · simp (disch := omega) only [up_ne, nwl_ne, up_eq, nwl_tag, nwl_len, g25, g21, g19, g17, g15, g13, g9, g5, u15, u17, u19, u21, w15, w17, w19, w21, v15, v17, v19, v21, f25, f23, f21, f19, f17, f15, f13, f11, f9, f7, f5, f3, f1, e1, e3, e7, e11, e15, e17, e19, e21, e23] <;> assumption
    · simp (disch := omega) only [up_ne, nwl_ne, up_eq, nwl_tag, nwl_len, g25, g21, g19, g17, g15, g13, g9, g5, u15, u17, u19, u21, w15, w17, w19, w21, v15, v17, v19, v21, f25, f23, f21, f19, f17, f15, f13, f11, f9, f7, f5, f3, f1, e1, e3, e7, e11, e15, e17, e19, e21, e23] <;> assumption
    · simp (disch := omega) only [up_ne, nwl_ne, up_eq, nwl_tag, nwl_len, g25, g21, g19, g17, g15, g13, g9, g5, u15, u17, u19, u21, w15, w17, w19, w21, v15, v17, v19, v21, f25, f23, f21, f19, f17, f15, f13, f11, f9, f7, f5, f3, f1, e1, e3, e7, e11, e15, e17, e19, e21, e23] <;> assumption
    · simp (disch := omega) only [up_ne, nwl_ne, up_eq, nwl_tag, nwl_len, g25, g21, g19, g17, g15, g13, g9, g5, u15, u17, u19, u21, w15, w17, w19, w21, v15, v17, v19, v21, f25, f23, f21, f19, f17, f15, f13, f11, f9, f7, f5, f3, f1, e1, e3, e7, e11, e15, e17, e19, e21, e23] <;> assumption
    · simp (disch := omega) only [up_ne, nwl_ne, up_eq, nwl_tag, nwl_len, g25, g21, g19, g17, g15, g13, g9, g5, u15, u17, u19, u21, w15, w17, w19, w21, v15, v17, v19, v21, f25, f23, f21, f19, f17, f15, f13, f11, f9, f7, f5, f3, f1, e1, e3, e7, e11, e15, e17, e19, e21, e23] <;> assumption
    · simp (disch := omega) only [up_ne, nwl_ne, up_eq, nwl_tag, nwl_len, g25, g21, g19, g17, g15, g13, g9, g5, u15, u17, u19, u21, w15, w17, w19, w21, v15, v17, v19, v21, f25, f23, f21, f19, f17, f15, f13, f11, f9, f7, f5, f3, f1, e1, e3, e7, e11, e15, e17, e19, e21, e23] <;> assumption
    · simp (disch := omega) only [up_ne, nwl_ne, up_eq, nwl_tag, nwl_len, g25, g21, g19, g17, g15, g13, g9, g5, u15, u17, u19, u21, w15, w17, w19, w21, v15, v17, v19, v21, f25, f23, f21, f19, f17, f15, f13, f11, f9, f7, f5, f3, f1, e1, e3, e7, e11, e15, e17, e19, e21, e23] <;> assumption
    · simp (disch := omega) only [up_ne, nwl_ne, up_eq, nwl_tag, nwl_len, g25, g21, g19, g17, g15, g13, g9, g5, u15, u17, u19, u21, w15, w17, w19, w21, v15, v17, v19, v21, f25, f23, f21, f19, f17, f15, f13, f11, f9, f7, f5, f3, f1, e1, e3, e7, e11, e15, e17, e19, e21, e23] <;> assumption
    · simp (disch := omega) only [up_ne, nwl_ne, up_eq, nwl_tag, nwl_len, g25, g21, g19, g17, g15, g13, g9, g5, u15, u17, u19, u21, w15, w17, w19, w21, v15, v17, v19, v21, f25, f23, f21, f19, f17, f15, f13, f11, f9, f7, f5, f3, f1, e1, e3, e7, e11, e15, e17, e19, e21, e23] <;> assumption
    · simp (disch := omega) only [up_ne, nwl_ne, up_eq, nwl_tag, nwl_len, g25, g21, g19, g17, g15, g13, g9, g5, u15, u17, u19, u21, w15, w17, w19, w21, v15, v17, v19, v21, f25, f23, f21, f19, f17, f15, f13, f11, f9, f7, f5, f3, f1, e1, e3, e7, e11, e15, e17, e19, e21, e23] <;> assumption
    · simp (disch := omega) only [up_ne, nwl_ne, up_eq, nwl_tag, nwl_len, g25, g21, g19, g17, g15, g13, g9, g5, u15, u17, u19, u21, w15, w17, w19, w21, v15, v17, v19, v21, f25, f23, f21, f19, f17, f15, f13, f11, f9, f7, f5, f3, f1, e1, e3, e7, e11, e15, e17, e19, e21, e23] <;> assumption
    · simp (disch := omega) only [up_ne, nwl_ne, up_eq, nwl_tag, nwl_len, g25, g21, g19, g17, g15, g13, g9, g5, u15, u17, u19, u21, w15, w17, w19, w21, v15, v17, v19, v21, f25, f23, f21, f19, f17, f15, f13, f11, f9, f7, f5, f3, f1, e1, e3, e7, e11, e15, e17, e19, e21, e23] <;> assumption
    · simp (disch := omega) only [up_ne, nwl_ne, up_eq, nwl_tag, nwl_len, g25, g21, g19, g17, g15, g13, g9, g5, u15, u17, u19, u21, w15, w17, w19, w21, v15, v17, v19, v21, f25, f23, f21, f19, f17, f15, f13, f11, f9, f7, f5, f3, f1, e1, e3, e7, e11, e15, e17, e19, e21, e23] <;> assumption
    · simp (disch := omega) only [up_ne, nwl_ne, up_eq, nwl_tag, nwl_len, g25, g21, g19, g17, g15, g13, g9, g5, u15, u17, u19, u21, w15, w17, w19, w21, v15, v17, v19, v21, f25, f23, f21, f19, f17, f15, f13, f11, f9, f7, f5, f3, f1, e1, e3, e7, e11, e15, e17, e19, e21, e23] <;> assumption
    · simp (disch := omega) only [up_ne, nwl_ne, up_eq, nwl_tag, nwl_len, g25, g21, g19, g17, g15, g13, g9, g5, u15, u17, u19, u21, w15, w17, w19, w21, v15, v17, v19, v21, f25, f23, f21, f19, f17, f15, f13, f11, f9, f7, f5, f3, f1, e1, e3, e7, e11, e15, e17, e19, e21, e23] <;> assumption
    · rw [hM, show (128 * 0 + 70 : Int) = 70 from rfl]; simp (disch := omega) only [up_ne, nwl_ne, up_eq, nwl_tag, nwl_len, g25, g21, g19, g17, g15, g13, g9, g5, u15, u17, u19, u21, w15, w17, w19, w21, v15, v17, v19, v21, f25, f23, f21, f19, f17, f15, f13, f11, f9, f7, f5, f3, f1, e1, e3, e7, e11, e15, e17, e19, e21, e23] <;> assumption
    · rw [hM]; simp (disch := omega) only [up_ne, nwl_ne, up_eq, nwl_tag, nwl_len, g25, g21, g19, g17, g15, g13, g9, g5, u15, u17, u19, u21, w15, w17, w19, w21, v15, v17, v19, v21, f25, f23, f21, f19, f17, f15, f13, f11, f9, f7, f5, f3, f1, e1, e3, e7, e11, e15, e17, e19, e21, e23] <;> assumption
    · rw [hM]; decide
    · rw [hM]; decide
    · intro j a q; rw [hM] at q; omega
    · intro j a q; rw [hM] at q; omega
    · rw [hM]; simp (disch := omega) only [up_ne, nwl_ne, up_eq, nwl_tag, nwl_len, g25, g21, g19, g17, g15, g13, g9, g5, u15, u17, u19, u21, w15, w17, w19, w21, v15, v17, v19, v21, f25, f23, f21, f19, f17, f15, f13, f11, f9, f7, f5, f3, f1, e1, e3, e7, e11, e15, e17, e19, e21, e23] <;> assumption
    · rw [hM]; decide
    · rw [hM]; decide
    · rw [hM]; simp (disch := omega) only [up_ne, nwl_ne, up_eq, nwl_tag, nwl_len, g25, g21, g19, g17, g15, g13, g9, g5, u15, u17, u19, u21, w15, w17, w19, w21, v15, v17, v19, v21, f25, f23, f21, f19, f17, f15, f13, f11, f9, f7, f5, f3, f1, e1, e3, e7, e11, e15, e17, e19, e21, e23] <;> assumption
    · rw [hM]; simp (disch := omega) only [up_ne, nwl_ne, up_eq, nwl_tag, nwl_len, g25, g21, g19, g17, g15, g13, g9, g5, u15, u17, u19, u21, w15, w17, w19, w21, v15, v17, v19, v21, f25, f23, f21, f19, f17, f15, f13, f11, f9, f7, f5, f3, f1, e1, e3, e7, e11, e15, e17, e19, e21, e23] <;> assumption
    · rw [hM]; simp (disch := omega) only [up_ne, nwl_ne, up_eq, nwl_tag, nwl_len, g25, g21, g19, g17, g15, g13, g9, g5, u15, u17, u19, u21, w15, w17, w19, w21, v15, v17, v19, v21, f25, f23, f21, f19, f17, f15, f13, f11, f9, f7, f5, f3, f1, e1, e3, e7, e11, e15, e17, e19, e21, e23] <;> assumption
    · rw [hM]; decide
    · rw [hM]; decide
    · rw [hM]; simp (disch := omega) only [up_ne, nwl_ne, up_eq, nwl_tag, nwl_len, g25, g21, g19, g17, g15, g13, g9, g5, u15, u17, u19, u21, w15, w17, w19, w21, v15, v17, v19, v21, f25, f23, f21, f19, f17, f15, f13, f11, f9, f7, f5, f3, f1, e1, e3, e7, e11, e15, e17, e19, e21, e23] <;> assumption
    · rw [hM]; decide
    · rw [hM]; decide
    · rw [hM]; simp (disch := omega) only [up_ne, nwl_ne, up_eq, nwl_tag, nwl_len, g25, g21, g19, g17, g15, g13, g9, g5, u15, u17, u19, u21, w15, w17, w19, w21, v15, v17, v19, v21, f25, f23, f21, f19, f17, f15, f13, f11, f9, f7, f5, f3, f1, e1, e3, e7, e11, e15, e17, e19, e21, e23] <;> assumption
    · rw [hM]; decide
    · exact ⟨by rw [hM]; decide, by unfold Xe; rw [hM, hM]; exact ⟨by decide, by decide, fun x a q => by omega, fun b e a q => by omega⟩⟩
  · refine ⟨?_, ?_, ?_, ?_, ?_, ?_, ?_, ?_, ?_, ?_, ?_, ?_, ?_, ?_, ?_, ?_, ?_, ?_⟩
    · simp (disch := omega) only [up_ne, nwl_ne, up_eq, nwl_tag, nwl_len, g25, g21, g19, g17, g15, g13, g9, g5, u15, u17, u19, u21, w15, w17, w19, w21, v15, v17, v19, v21, f25, f23, f21, f19, f17, f15, f13, f11, f9, f7, f5, f3, f1, e1, e3, e7, e11, e15, e17, e19, e21, e23] <;> assumption
    · simp (disch := omega) only [up_ne, nwl_ne, up_eq, nwl_tag, nwl_len, g25, g21, g19, g17, g15, g13, g9, g5, u15, u17, u19, u21, w15, w17, w19, w21, v15, v17, v19, v21, f25, f23, f21, f19, f17, f15, f13, f11, f9, f7, f5, f3, f1, e1, e3, e7, e11, e15, e17, e19, e21, e23] <;> assumption
    · simp (disch := omega) only [up_ne, nwl_ne, up_eq, nwl_tag, nwl_len, g25, g21, g19, g17, g15, g13, g9, g5, u15, u17, u19, u21, w15, w17, w19, w21, v15, v17, v19, v21, f25, f23, f21, f19, f17, f15, f13, f11, f9, f7, f5, f3, f1, e1, e3, e7, e11, e15, e17, e19, e21, e23] <;> assumption
    · simp (disch := omega) only [up_ne, nwl_ne, up_eq, nwl_tag, nwl_len, g25, g21, g19, g17, g15, g13, g9, g5, u15, u17, u19, u21, w15, w17, w19, w21, v15, v17, v19, v21, f25, f23, f21, f19, f17, f15, f13, f11, f9, f7, f5, f3, f1, e1, e3, e7, e11, e15, e17, e19, e21, e23] <;> assumption
    · simp (disch := omega) only [up_ne, nwl_ne, up_eq, nwl_tag, nwl_len, g25, g21, g19, g17, g15, g13, g9, g5, u15, u17, u19, u21, w15, w17, w19, w21, v15, v17, v19, v21, f25, f23, f21, f19, f17, f15, f13, f11, f9, f7, f5, f3, f1, e1, e3, e7, e11, e15, e17, e19, e21, e23] <;> assumption
    · simp (disch := omega) only [up_ne, nwl_ne, up_eq, nwl_tag, nwl_len, g25, g21, g19, g17, g15, g13, g9, g5, u15, u17, u19, u21, w15, w17, w19, w21, v15, v17, v19, v21, f25, f23, f21, f19, f17, f15, f13, f11, f9, f7, f5, f3, f1, e1, e3, e7, e11, e15, e17, e19, e21, e23] <;> assumption
    · simp (disch := omega) only [up_ne, nwl_ne, up_eq, nwl_tag, nwl_len, g25, g21, g19, g17, g15, g13, g9, g5, u15, u17, u19, u21, w15, w17, w19, w21, v15, v17, v19, v21, f25, f23, f21, f19, f17, f15, f13, f11, f9, f7, f5, f3, f1, e1, e3, e7, e11, e15, e17, e19, e21, e23] <;> assumption
    · simp (disch := omega) only [up_ne, nwl_ne, up_eq, nwl_tag, nwl_len, g25, g21, g19, g17, g15, g13, g9, g5, u15, u17, u19, u21, w15, w17, w19, w21, v15, v17, v19, v21, f25, f23, f21, f19, f17, f15, f13, f11, f9, f7, f5, f3, f1, e1, e3, e7, e11, e15, e17, e19, e21, e23] <;> assumption
    · simp (disch := omega) only [up_ne, nwl_ne, up_eq, nwl_tag, nwl_len, g25, g21, g19, g17, g15, g13, g9, g5, u15, u17, u19, u21, w15, w17, w19, w21, v15, v17, v19, v21, f25, f23, f21, f19, f17, f15, f13, f11, f9, f7, f5, f3, f1, e1, e3, e7, e11, e15, e17, e19, e21, e23] <;> assumption
    · simp (disch := omega) only [up_ne, nwl_ne, up_eq, nwl_tag, nwl_len, g25, g21, g19, g17, g15, g13, g9, g5, u15, u17, u19, u21, w15, w17, w19, w21, v15, v17, v19, v21, f25, f23, f21, f19, f17, f15, f13, f11, f9, f7, f5, f3, f1, e1, e3, e7, e11, e15, e17, e19, e21, e23] <;> assumption
    · simp (disch := omega) only [up_ne, nwl_ne, up_eq, nwl_tag, nwl_len, g25, g21, g19, g17, g15, g13, g9, g5, u15, u17, u19, u21, w15, w17, w19, w21, v15, v17, v19, v21, f25, f23, f21, f19, f17, f15, f13, f11, f9, f7, f5, f3, f1, e1, e3, e7, e11, e15, e17, e19, e21, e23] <;> assumption
    · simp (disch := omega) only [up_ne, nwl_ne, up_eq, nwl_tag, nwl_len, g25, g21, g19, g17, g15, g13, g9, g5, u15, u17, u19, u21, w15, w17, w19, w21, v15, v17, v19, v21, f25, f23, f21, f19, f17, f15, f13, f11, f9, f7, f5, f3, f1, e1, e3, e7, e11, e15, e17, e19, e21, e23] <;> assumption
    · simp (disch := omega) only [up_ne, nwl_ne, up_eq, nwl_tag, nwl_len, g25, g21, g19, g17, g15, g13, g9, g5, u15, u17, u19, u21, w15, w17, w19, w21, v15, v17, v19, v21, f25, f23, f21, f19, f17, f15, f13, f11, f9, f7, f5, f3, f1, e1, e3, e7, e11, e15, e17, e19, e21, e23] <;> assumption
    · rw [hM]; simp (disch := omega) only [up_ne, nwl_ne, up_eq, nwl_tag, nwl_len, g25, g21, g19, g17, g15, g13, g9, g5, u15, u17, u19, u21, w15, w17, w19, w21, v15, v17, v19, v21, f25, f23, f21, f19, f17, f15, f13, f11, f9, f7, f5, f3, f1, e1, e3, e7, e11, e15, e17, e19, e21, e23] <;> assumption
    · rw [hM]; decide
    · rw [hM]; decide
    · intro j a q; rw [hM] at q; omega
    · intro j a q; rw [hM] at q; omega
  · refine ⟨?_, ?_, ?_, ?_, ?_, ?_, ?_, ?_, ?_, ?_, ?_, ?_, ?_, ?_, ?_, ?_, ?_, ?_, ?_, ?_, ?_, ?_, ?_, ?_, ?_, ?_, ?_, ?_, ?_, ?_, ?_, ?_, ?_, ?_, ?_, ?_, ?_, ?_⟩
    · simp (disch := omega) only [up_ne, nwl_ne, up_eq, nwl_tag, nwl_len, g25, g21, g19, g17, g15, g13, g9, g5, u15, u17, u19, u21, w15, w17, w19, w21, v15, v17, v19, v21, f25, f23, f21, f19, f17, f15, f13, f11, f9, f7, f5, f3, f1, e1, e3, e7, e11, e15, e17, e19, e21, e23] <;> assumption
    · simp (disch := omega) only [up_ne, nwl_ne, up_eq, nwl_tag, nwl_len, g25, g21, g19, g17, g15, g13, g9, g5, u15, u17, u19, u21, w15, w17, w19, w21, v15, v17, v19, v21, f25, f23, f21, f19, f17, f15, f13, f11, f9, f7, f5, f3, f1, e1, e3, e7, e11, e15, e17, e19, e21, e23] <;> assumption
    · simp (disch := omega) only [up_ne, nwl_ne, up_eq, nwl_tag, nwl_len, g25, g21, g19, g17, g15, g13, g9, g5, u15, u17, u19, u21, w15, w17, w19, w21, v15, v17, v19, v21, f25, f23, f21, f19, f17, f15, f13, f11, f9, f7, f5, f3, f1, e1, e3, e7, e11, e15, e17, e19, e21, e23] <;> assumption
    · simp (disch := omega) only [up_ne, nwl_ne, up_eq, nwl_tag, nwl_len, g25, g21, g19, g17, g15, g13, g9, g5, u15, u17, u19, u21, w15, w17, w19, w21, v15, v17, v19, v21, f25, f23, f21, f19, f17, f15, f13, f11, f9, f7, f5, f3, f1, e1, e3, e7, e11, e15, e17, e19, e21, e23] <;> assumption
    · simp (disch := omega) only [up_ne, nwl_ne, up_eq, nwl_tag, nwl_len, g25, g21, g19, g17, g15, g13, g9, g5, u15, u17, u19, u21, w15, w17, w19, w21, v15, v17, v19, v21, f25, f23, f21, f19, f17, f15, f13, f11, f9, f7, f5, f3, f1, e1, e3, e7, e11, e15, e17, e19, e21, e23] <;> assumption
    · simp (disch := omega) only [up_ne, nwl_ne, up_eq, nwl_tag, nwl_len, g25, g21, g19, g17, g15, g13, g9, g5, u15, u17, u19, u21, w15, w17, w19, w21, v15, v17, v19, v21, f25, f23, f21, f19, f17, f15, f13, f11, f9, f7, f5, f3, f1, e1, e3, e7, e11, e15, e17, e19, e21, e23] <;> assumption
    · simp (disch := omega) only [up_ne, nwl_ne, up_eq, nwl_tag, nwl_len, g25, g21, g19, g17, g15, g13, g9, g5, u15, u17, u19, u21, w15, w17, w19, w21, v15, v17, v19, v21, f25, f23, f21, f19, f17, f15, f13, f11, f9, f7, f5, f3, f1, e1, e3, e7, e11, e15, e17, e19, e21, e23] <;> assumption
    · simp (disch := omega) only [up_ne, nwl_ne, up_eq, nwl_tag, nwl_len, g25, g21, g19, g17, g15, g13, g9, g5, u15, u17, u19, u21, w15, w17, w19, w21, v15, v17, v19, v21, f25, f23, f21, f19, f17, f15, f13, f11, f9, f7, f5, f3, f1, e1, e3, e7, e11, e15, e17, e19, e21, e23] <;> assumption
    · simp (disch := omega) only [up_ne, nwl_ne, up_eq, nwl_tag, nwl_len, g25, g21, g19, g17, g15, g13, g9, g5, u15, u17, u19, u21, w15, w17, w19, w21, v15, v17, v19, v21, f25, f23, f21, f19, f17, f15, f13, f11, f9, f7, f5, f3, f1, e1, e3, e7, e11, e15, e17, e19, e21, e23] <;> assumption
    · simp (disch := omega) only [up_ne, nwl_ne, up_eq, nwl_tag, nwl_len, g25, g21, g19, g17, g15, g13, g9, g5, u15, u17, u19, u21, w15, w17, w19, w21, v15, v17, v19, v21, f25, f23, f21, f19, f17, f15, f13, f11, f9, f7, f5, f3, f1, e1, e3, e7, e11, e15, e17, e19, e21, e23] <;> assumption
    · simp (disch := omega) only [up_ne, nwl_ne, up_eq, nwl_tag, nwl_len, g25, g21, g19, g17, g15, g13, g9, g5, u15, u17, u19, u21, w15, w17, w19, w21, v15, v17, v19, v21, f25, f23, f21, f19, f17, f15, f13, f11, f9, f7, f5, f3, f1, e1, e3, e7, e11, e15, e17, e19, e21, e23] <;> assumption
    · simp (disch := omega) only [up_ne, nwl_ne, up_eq, nwl_tag, nwl_len, g25, g21, g19, g17, g15, g13, g9, g5, u15, u17, u19, u21, w15, w17, w19, w21, v15, v17, v19, v21, f25, f23, f21, f19, f17, f15, f13, f11, f9, f7, f5, f3, f1, e1, e3, e7, e11, e15, e17, e19, e21, e23] <;> assumption
    · simp (disch := omega) only [up_ne, nwl_ne, up_eq, nwl_tag, nwl_len, g25, g21, g19, g17, g15, g13, g9, g5, u15, u17, u19, u21, w15, w17, w19, w21, v15, v17, v19, v21, f25, f23, f21, f19, f17, f15, f13, f11, f9, f7, f5, f3, f1, e1, e3, e7, e11, e15, e17, e19, e21, e23] <;> assumption
    · simp (disch := omega) only [up_ne, nwl_ne, up_eq, nwl_tag, nwl_len, g25, g21, g19, g17, g15, g13, g9, g5, u15, u17, u19, u21, w15, w17, w19, w21, v15, v17, v19, v21, f25, f23, f21, f19, f17, f15, f13, f11, f9, f7, f5, f3, f1, e1, e3, e7, e11, e15, e17, e19, e21, e23] <;> assumption
    · simp (disch := omega) only [up_ne, nwl_ne, up_eq, nwl_tag, nwl_len, g25, g21, g19, g17, g15, g13, g9, g5, u15, u17, u19, u21, w15, w17, w19, w21, v15, v17, v19, v21, f25, f23, f21, f19, f17, f15, f13, f11, f9, f7, f5, f3, f1, e1, e3, e7, e11, e15, e17, e19, e21, e23] <;> assumption
    · simp (disch := omega) only [up_ne, nwl_ne, up_eq, nwl_tag, nwl_len, g25, g21, g19, g17, g15, g13, g9, g5, u15, u17, u19, u21, w15, w17, w19, w21, v15, v17, v19, v21, f25, f23, f21, f19, f17, f15, f13, f11, f9, f7, f5, f3, f1, e1, e3, e7, e11, e15, e17, e19, e21, e23] <;> assumption
    · simp (disch := omega) only [up_ne, nwl_ne, up_eq, nwl_tag, nwl_len, g25, g21, g19, g17, g15, g13, g9, g5, u15, u17, u19, u21, w15, w17, w19, w21, v15, v17, v19, v21, f25, f23, f21, f19, f17, f15, f13, f11, f9, f7, f5, f3, f1, e1, e3, e7, e11, e15, e17, e19, e21, e23] <;> assumption
    · simp (disch := omega) only [up_ne, nwl_ne, up_eq, nwl_tag, nwl_len, g25, g21, g19, g17, g15, g13, g9, g5, u15, u17, u19, u21, w15, w17, w19, w21, v15, v17, v19, v21, f25, f23, f21, f19, f17, f15, f13, f11, f9, f7, f5, f3, f1, e1, e3, e7, e11, e15, e17, e19, e21, e23] <;> assumption
    · simp (disch := omega) only [up_ne, nwl_ne, up_eq, nwl_tag, nwl_len, g25, g21, g19, g17, g15, g13, g9, g5, u15, u17, u19, u21, w15, w17, w19, w21, v15, v17, v19, v21, f25, f23, f21, f19, f17, f15, f13, f11, f9, f7, f5, f3, f1, e1, e3, e7, e11, e15, e17, e19, e21, e23] <;> assumption
    · simp (disch := omega) only [up_ne, nwl_ne, up_eq, nwl_tag, nwl_len, g25, g21, g19, g17, g15, g13, g9, g5, u15, u17, u19, u21, w15, w17, w19, w21, v15, v17, v19, v21, f25, f23, f21, f19, f17, f15, f13, f11, f9, f7, f5, f3, f1, e1, e3, e7, e11, e15, e17, e19, e21, e23] <;> assumption
    · simp (disch := omega) only [up_ne, nwl_ne, up_eq, nwl_tag, nwl_len, g25, g21, g19, g17, g15, g13, g9, g5, u15, u17, u19, u21, w15, w17, w19, w21, v15, v17, v19, v21, f25, f23, f21, f19, f17, f15, f13, f11, f9, f7, f5, f3, f1, e1, e3, e7, e11, e15, e17, e19, e21, e23] <;> assumption
    · simp (disch := omega) only [up_ne, nwl_ne, up_eq, nwl_tag, nwl_len, g25, g21, g19, g17, g15, g13, g9, g5, u15, u17, u19, u21, w15, w17, w19, w21, v15, v17, v19, v21, f25, f23, f21, f19, f17, f15, f13, f11, f9, f7, f5, f3, f1, e1, e3, e7, e11, e15, e17, e19, e21, e23] <;> assumption
    · simp (disch := omega) only [up_ne, nwl_ne, up_eq, nwl_tag, nwl_len, g25, g21, g19, g17, g15, g13, g9, g5, u15, u17, u19, u21, w15, w17, w19, w21, v15, v17, v19, v21, f25, f23, f21, f19, f17, f15, f13, f11, f9, f7, f5, f3, f1, e1, e3, e7, e11, e15, e17, e19, e21, e23] <;> assumption
    · simp (disch := omega) only [up_ne, nwl_ne, up_eq, nwl_tag, nwl_len, g25, g21, g19, g17, g15, g13, g9, g5, u15, u17, u19, u21, w15, w17, w19, w21, v15, v17, v19, v21, f25, f23, f21, f19, f17, f15, f13, f11, f9, f7, f5, f3, f1, e1, e3, e7, e11, e15, e17, e19, e21, e23] <;> assumption
    · simp (disch := omega) only [up_ne, nwl_ne, up_eq, nwl_tag, nwl_len, g25, g21, g19, g17, g15, g13, g9, g5, u15, u17, u19, u21, w15, w17, w19, w21, v15, v17, v19, v21, f25, f23, f21, f19, f17, f15, f13, f11, f9, f7, f5, f3, f1, e1, e3, e7, e11, e15, e17, e19, e21, e23] <;> assumption
    · simp (disch := omega) only [up_ne, nwl_ne, up_eq, nwl_tag, nwl_len, g25, g21, g19, g17, g15, g13, g9, g5, u15, u17, u19, u21, w15, w17, w19, w21, v15, v17, v19, v21, f25, f23, f21, f19, f17, f15, f13, f11, f9, f7, f5, f3, f1, e1, e3, e7, e11, e15, e17, e19, e21, e23] <;> assumption
    · simp (disch := omega) only [up_ne, nwl_ne, up_eq, nwl_tag, nwl_len, g25, g21, g19, g17, g15, g13, g9, g5, u15, u17, u19, u21, w15, w17, w19, w21, v15, v17, v19, v21, f25, f23, f21, f19, f17, f15, f13, f11, f9, f7, f5, f3, f1, e1, e3, e7, e11, e15, e17, e19, e21, e23] <;> assumption
    · simp (disch := omega) only [up_ne, nwl_ne, up_eq, nwl_tag, nwl_len, g25, g21, g19, g17, g15, g13, g9, g5, u15, u17, u19, u21, w15, w17, w19, w21, v15, v17, v19, v21, f25, f23, f21, f19, f17, f15, f13, f11, f9, f7, f5, f3, f1, e1, e3, e7, e11, e15, e17, e19, e21, e23] <;> assumption
    · simp (disch := omega) only [up_ne, nwl_ne, up_eq, nwl_tag, nwl_len, g25, g21, g19, g17, g15, g13, g9, g5, u15, u17, u19, u21, w15, w17, w19, w21, v15, v17, v19, v21, f25, f23, f21, f19, f17, f15, f13, f11, f9, f7, f5, f3, f1, e1, e3, e7, e11, e15, e17, e19, e21, e23] <;> assumption
    · simp (disch := omega) only [up_ne, nwl_ne, up_eq, nwl_tag, nwl_len, g25, g21, g19, g17, g15, g13, g9, g5, u15, u17, u19, u21, w15, w17, w19, w21, v15, v17, v19, v21, f25, f23, f21, f19, f17, f15, f13, f11, f9, f7, f5, f3, f1, e1, e3, e7, e11, e15, e17, e19, e21, e23] <;> assumption
    · simp (disch := omega) only [up_ne, nwl_ne, up_eq, nwl_tag, nwl_len, g25, g21, g19, g17, g15, g13, g9, g5, u15, u17, u19, u21, w15, w17, w19, w21, v15, v17, v19, v21, f25, f23, f21, f19, f17, f15, f13, f11, f9, f7, f5, f3, f1, e1, e3, e7, e11, e15, e17, e19, e21, e23] <;> assumption
    · simp (disch := omega) only [up_ne, nwl_ne, up_eq, nwl_tag, nwl_len, g25, g21, g19, g17, g15, g13, g9, g5, u15, u17, u19, u21, w15, w17, w19, w21, v15, v17, v19, v21, f25, f23, f21, f19, f17, f15, f13, f11, f9, f7, f5, f3, f1, e1, e3, e7, e11, e15, e17, e19, e21, e23] <;> assumption
    · simp (disch := omega) only [up_ne, nwl_ne, up_eq, nwl_tag, nwl_len, g25, g21, g19, g17, g15, g13, g9, g5, u15, u17, u19, u21, w15, w17, w19, w21, v15, v17, v19, v21, f25, f23, f21, f19, f17, f15, f13, f11, f9, f7, f5, f3, f1, e1, e3, e7, e11, e15, e17, e19, e21, e23] <;> assumption
    · simp (disch := omega) only [up_ne, nwl_ne, up_eq, nwl_tag, nwl_len, g25, g21, g19, g17, g15, g13, g9, g5, u15, u17, u19, u21, w15, w17, w19, w21, v15, v17, v19, v21, f25, f23, f21, f19, f17, f15, f13, f11, f9, f7, f5, f3, f1, e1, e3, e7, e11, e15, e17, e19, e21, e23] <;> assumption
    · simp (disch := omega) only [up_ne, nwl_ne, up_eq, nwl_tag, nwl_len, g25, g21, g19, g17, g15, g13, g9, g5, u15, u17, u19, u21, w15, w17, w19, w21, v15, v17, v19, v21, f25, f23, f21, f19, f17, f15, f13, f11, f9, f7, f5, f3, f1, e1, e3, e7, e11, e15, e17, e19, e21, e23] <;> assumption
    · simp (disch := omega) only [up_ne, nwl_ne, up_eq, nwl_tag, nwl_len, g25, g21, g19, g17, g15, g13, g9, g5, u15, u17, u19, u21, w15, w17, w19, w21, v15, v17, v19, v21, f25, f23, f21, f19, f17, f15, f13, f11, f9, f7, f5, f3, f1, e1, e3, e7, e11, e15, e17, e19, e21, e23] <;> assumption
    · simp (disch := omega) only [up_ne, nwl_ne, up_eq, nwl_tag, nwl_len, g25, g21, g19, g17, g15, g13, g9, g5, u15, u17, u19, u21, w15, w17, w19, w21, v15, v17, v19, v21, f25, f23, f21, f19, f17, f15, f13, f11, f9, f7, f5, f3, f1, e1, e3, e7, e11, e15, e17, e19, e21, e23] <;> assumption
    · simp (disch := omega) only [up_ne, nwl_ne, up_eq, nwl_tag, nwl_len, g25, g21, g19, g17, g15, g13, g9, g5, u15, u17, u19, u21, w15, w17, w19, w21, v15, v17, v19, v21, f25, f23, f21, f19, f17, f15, f13, f11, f9, f7, f5, f3, f1, e1, e3, e7, e11, e15, e17, e19, e21, e23] <;> assumption
  · rw [hM] at s1; omega
  · rw [hM] at s1; omega
  · rw [hM] at s1
    have e : s = 0 := by omega
    subst e
    apply Rdr.fr (k25 M) <;> intros <;> first | rfl | exact up_ne (by omega)
  · rw [hM] at s1; omega
  · rw [hM] at s1; omega
end INB

