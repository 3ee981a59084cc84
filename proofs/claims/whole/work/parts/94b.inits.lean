/-! ===== book: the constructor of an enum ===== -/
section ENI
variable {l : Launch} {G : GT} {c : Int → Int} {S : Sh} {V N : Mem} {Q : Int → Sh → Mem → Prop} {d : Nat} {r0 w : Int}
theorem ct_enuInit {g : Int} (hc : Cn c S) (h0 : 0 ≤ S.2.2) (hW : Wv c S V = N) (x : c (128 * g + 3) = r0) (tg : N (128 * g + 3) (-1) = 4) (hd : 1 ≤ d) (hk : ∀ c' S' V' N', Cn c' S' → 0 ≤ S'.2.2 → Wv c' S' V' = N' → (∀ L, ¬ (L = 128 * g + 4 ∨ L = 128 * g + 7 ∨ L = 128 * g + 8 ∨ (128 * g + 12 ≤ L ∧ L ≤ 128 * g + 16)) → c' L = c L) → (∀ L k, ¬ (L = 128 * g + 4 ∨ L = 128 * g + 7 ∨ L = 128 * g + 8 ∨ (128 * g + 12 ≤ L ∧ L ≤ 128 * g + 16)) → ¬ (L = 128 * g + 3 ∧ (k = 0 ∨ k = 3 ∨ k = 6 ∨ k = 7 ∨ k = 9 ∨ k = 11 ∨ k = 12 ∨ k = 13 ∨ k = 15)) → N' L k = N L k) → N' (128 * g + 3) 0 = w → N' (128 * g + 3) 3 = c' (128 * g + 4) → N' (128 * g + 4) (-1) = 32 → N' (128 * g + 4) (-2) = 24 → N' (128 * g + 3) 6 = c' (128 * g + 7) → N' (128 * g + 7) (-1) = 20 → N' (128 * g + 7) (-2) = 4 → N' (128 * g + 3) 7 = c' (128 * g + 8) → N' (128 * g + 8) (-1) = 38 → N' (128 * g + 8) (-2) = 4 → N' (128 * g + 3) 9 = c' (128 * g + 12) → N' (128 * g + 12) (-1) = 20 → N' (128 * g + 12) (-2) = 3 → N' (128 * g + 3) 11 = c' (128 * g + 13) → N' (128 * g + 13) (-1) = 22 → N' (128 * g + 13) (-2) = 4 → N' (128 * g + 3) 12 = c' (128 * g + 14) → N' (128 * g + 14) (-1) = 20 → N' (128 * g + 14) (-2) = 4 → N' (128 * g + 3) 13 = c' (128 * g + 15) → N' (128 * g + 15) (-1) = 20 → N' (128 * g + 15) (-2) = 4 → N' (128 * g + 3) 15 = c' (128 * g + 16) → N' (128 * g + 16) (-1) = 37 → N' (128 * g + 16) (-2) = 3 → (∀ a, 0 ≤ a → a < 4 → N' (128 * g + 7) a = -1) → Q 0 S' V') : Ct l G bX3_init Q d 8 50 [vr r0, vl w] S V := by
  refine qX3_init fun _ _ => vX3_init_0 ⟨by rw [← x]; exact (hc.2 _).1, hd, by decide, by decide, by decide, by decide, ?_⟩
  intro S1 V1 r1 mc1 ms1 q1 q2 q3 q4 q5
  subst q1 q2 q3 q4 q5
  obtain ⟨c1, hc1, h1, hW1, e1, f1⟩ := al (L := 128 * g + 4) (t := 32) (n := 24) hc h0 hW
  have x1 : c1 (128 * g + 3) = r0 := (f1 _ (by omega)).trans x
  have hU1 : Wv c1 (nw S 32 24) (up (clr V (S.2.2 + 1)) r0 3 (S.2.2 + 1)) = up (nwl N (128 * g + 4) 32 24) (128 * g + 3) 3 (S.2.2 + 1) := by rw [← x1, Wv_up hc1 (by decide), hW1]
  refine ⟨by rw [← x1, (Wr hW1).2.1, nwl_ne (by omega)]; exact tg, by decide, by decide, by decide, by decide, ?_⟩
  generalize hr1 : (S.2.2 + 1) = r1 at *
  generalize hv1 : up (clr V r1) r0 3 r1 = U1 at *
  generalize hs1 : nw S 32 24 = T1 at *
  intro S2 V2 r2 mc2 ms2 q1 q2 q3 q4 q5
  subst q1 q2 q3 q4 q5
  obtain ⟨c2, hc2, h2, hW2, e2, f2⟩ := al (L := 128 * g + 7) (t := 20) (n := 4) hc1 h1 hU1
  have x2 : c2 (128 * g + 3) = r0 := (f2 _ (by omega)).trans x1
  have hU2 : Wv c2 (nw T1 20 4) (up (clr U1 (T1.2.2 + 1)) r0 6 (T1.2.2 + 1)) = up (nwl (up (nwl N (128 * g + 4) 32 24) (128 * g + 3) 3 r1) (128 * g + 7) 20 4) (128 * g + 3) 6 (T1.2.2 + 1) := by rw [← x2, Wv_up hc2 (by decide), hW2]
  refine ⟨by rw [← x2, (Wr hW2).2.1, nwl_ne (by omega), up_ne (by omega), nwl_ne (by omega)]; exact tg, by decide, by decide, by decide, by decide, ?_⟩
  generalize hr2 : (T1.2.2 + 1) = r2 at *
  generalize hv2 : up (clr U1 r2) r0 6 r2 = U2 at *
  generalize hs2 : nw T1 20 4 = T2 at *
  intro S3 V3 r3 mc3 ms3 q1 q2 q3 q4 q5
  subst q1 q2 q3 q4 q5
  obtain ⟨c3, hc3, h3, hW3, e3, f3⟩ := al (L := 128 * g + 8) (t := 38) (n := 4) hc2 h2 hU2
  have x3 : c3 (128 * g + 3) = r0 := (f3 _ (by omega)).trans x2
  have hU3 : Wv c3 (nw T2 38 4) (up (clr U2 (T2.2.2 + 1)) r0 7 (T2.2.2 + 1)) = up (nwl (up (nwl (up (nwl N (128 * g + 4) 32 24) (128 * g + 3) 3 r1) (128 * g + 7) 20 4) (128 * g + 3) 6 r2) (128 * g + 8) 38 4) (128 * g + 3) 7 (T2.2.2 + 1) := by rw [← x3, Wv_up hc3 (by decide), hW3]
  refine ⟨by rw [← x3, (Wr hW3).2.1, nwl_ne (by omega), up_ne (by omega), nwl_ne (by omega), up_ne (by omega), nwl_ne (by omega)]; exact tg, by decide, by decide, by decide, by decide, ?_⟩
  generalize hr3 : (T2.2.2 + 1) = r3 at *
  generalize hv3 : up (clr U2 r3) r0 7 r3 = U3 at *
  generalize hs3 : nw T2 38 4 = T3 at *
  intro S4 V4 r4 mc4 ms4 q1 q2 q3 q4 q5
  subst q1 q2 q3 q4 q5
  obtain ⟨c4, hc4, h4, hW4, e4, f4⟩ := al (L := 128 * g + 12) (t := 20) (n := 3) hc3 h3 hU3
  have x4 : c4 (128 * g + 3) = r0 := (f4 _ (by omega)).trans x3
  have hU4 : Wv c4 (nw T3 20 3) (up (clr U3 (T3.2.2 + 1)) r0 9 (T3.2.2 + 1)) = up (nwl (up (nwl (up (nwl (up (nwl N (128 * g + 4) 32 24) (128 * g + 3) 3 r1) (128 * g + 7) 20 4) (128 * g + 3) 6 r2) (128 * g + 8) 38 4) (128 * g + 3) 7 r3) (128 * g + 12) 20 3) (128 * g + 3) 9 (T3.2.2 + 1) := by rw [← x4, Wv_up hc4 (by decide), hW4]
  refine ⟨by rw [← x4, (Wr hW4).2.1, nwl_ne (by omega), up_ne (by omega), nwl_ne (by omega), up_ne (by omega), nwl_ne (by omega), up_ne (by omega), nwl_ne (by omega)]; exact tg, by decide, by decide, by decide, by decide, ?_⟩
  generalize hr4 : (T3.2.2 + 1) = r4 at *
  generalize hv4 : up (clr U3 r4) r0 9 r4 = U4 at *
  generalize hs4 : nw T3 20 3 = T4 at *
  intro S5 V5 r5 mc5 ms5 q1 q2 q3 q4 q5
  subst q1 q2 q3 q4 q5
  obtain ⟨c5, hc5, h5, hW5, e5, f5⟩ := al (L := 128 * g + 13) (t := 22) (n := 4) hc4 h4 hU4
  have x5 : c5 (128 * g + 3) = r0 := (f5 _ (by omega)).trans x4
  have hU5 : Wv c5 (nw T4 22 4) (up (clr U4 (T4.2.2 + 1)) r0 11 (T4.2.2 + 1)) = up (nwl (up (nwl (up (nwl (up (nwl (up (nwl N (128 * g + 4) 32 24) (128 * g + 3) 3 r1) (128 * g + 7) 20 4) (128 * g + 3) 6 r2) (128 * g + 8) 38 4) (128 * g + 3) 7 r3) (128 * g + 12) 20 3) (128 * g + 3) 9 r4) (128 * g + 13) 22 4) (128 * g + 3) 11 (T4.2.2 + 1) := by rw [← x5, Wv_up hc5 (by decide), hW5]
  refine ⟨by rw [← x5, (Wr hW5).2.1, nwl_ne (by omega), up_ne (by omega), nwl_ne (by omega), up_ne (by omega), nwl_ne (by omega), up_ne (by omega), nwl_ne (by omega), up_ne (by omega), nwl_ne (by omega)]; exact tg, by decide, by decide, by decide, by decide, ?_⟩
  generalize hr5 : (T4.2.2 + 1) = r5 at *
  generalize hv5 : up (clr U4 r5) r0 11 r5 = U5 at *
  generalize hs5 : nw T4 22 4 = T5 at *
  intro S6 V6 r6 mc6 ms6 q1 q2 q3 q4 q5
  subst q1 q2 q3 q4 q5
  obtain ⟨c6, hc6, h6, hW6, e6, f6⟩ := al (L := 128 * g + 14) (t := 20) (n := 4) hc5 h5 hU5
  have x6 : c6 (128 * g + 3) = r0 := (f6 _ (by omega)).trans x5
  have hU6 : Wv c6 (nw T5 20 4) (up (clr U5 (T5.2.2 + 1)) r0 12 (T5.2.2 + 1)) = up (nwl (up (nwl (up (nwl (up (nwl (up (nwl (up (nwl N (128 * g + 4) 32 24) (128 * g + 3) 3 r1) (128 * g + 7) 20 4) (128 * g + 3) 6 r2) (128 * g + 8) 38 4) (128 * g + 3) 7 r3) (128 * g + 12) 20 3) (128 * g + 3) 9 r4) (128 * g + 13) 22 4) (128 * g + 3) 11 r5) (128 * g + 14) 20 4) (128 * g + 3) 12 (T5.2.2 + 1) := by rw [← x6, Wv_up hc6 (by decide), hW6]
  refine ⟨by rw [← x6, (Wr hW6).2.1, nwl_ne (by omega), up_ne (by omega), nwl_ne (by omega), up_ne (by omega), nwl_ne (by omega), up_ne (by omega), nwl_ne (by omega), up_ne (by omega), nwl_ne (by omega), up_ne (by omega), nwl_ne (by omega)]; exact tg, by decide, by decide, by decide, by decide, ?_⟩
  generalize hr6 : (T5.2.2 + 1) = r6 at *
  generalize hv6 : up (clr U5 r6) r0 12 r6 = U6 at *
  generalize hs6 : nw T5 20 4 = T6 at *
  intro S7 V7 r7 mc7 ms7 q1 q2 q3 q4 q5
  subst q1 q2 q3 q4 q5
  obtain ⟨c7, hc7, h7, hW7, e7, f7⟩ := al (L := 128 * g + 15) (t := 20) (n := 4) hc6 h6 hU6
  have x7 : c7 (128 * g + 3) = r0 := (f7 _ (by omega)).trans x6
  have hU7 : Wv c7 (nw T6 20 4) (up (clr U6 (T6.2.2 + 1)) r0 13 (T6.2.2 + 1)) = up (nwl (up (nwl (up (nwl (up (nwl (up (nwl (up (nwl (up (nwl N (128 * g + 4) 32 24) (128 * g + 3) 3 r1) (128 * g + 7) 20 4) (128 * g + 3) 6 r2) (128 * g + 8) 38 4) (128 * g + 3) 7 r3) (128 * g + 12) 20 3) (128 * g + 3) 9 r4) (128 * g + 13) 22 4) (128 * g + 3) 11 r5) (128 * g + 14) 20 4) (128 * g + 3) 12 r6) (128 * g + 15) 20 4) (128 * g + 3) 13 (T6.2.2 + 1) := by rw [← x7, Wv_up hc7 (by decide), hW7]
  refine ⟨by rw [← x7, (Wr hW7).2.1, nwl_ne (by omega), up_ne (by omega), nwl_ne (by omega), up_ne (by omega), nwl_ne (by omega), up_ne (by omega), nwl_ne (by omega), up_ne (by omega), nwl_ne (by omega), up_ne (by omega), nwl_ne (by omega), up_ne (by omega), nwl_ne (by omega)]; exact tg, by decide, by decide, by decide, by decide, ?_⟩
  generalize hr7 : (T6.2.2 + 1) = r7 at *
  generalize hv7 : up (clr U6 r7) r0 13 r7 = U7 at *
  generalize hs7 : nw T6 20 4 = T7 at *
  intro S8 V8 r8 mc8 ms8 q1 q2 q3 q4 q5
  subst q1 q2 q3 q4 q5
  obtain ⟨c8, hc8, h8, hW8, e8, f8⟩ := al (L := 128 * g + 16) (t := 37) (n := 3) hc7 h7 hU7
  have x8 : c8 (128 * g + 3) = r0 := (f8 _ (by omega)).trans x7
  have hU8 : Wv c8 (nw T7 37 3) (up (up (clr U7 (T7.2.2 + 1)) r0 15 (T7.2.2 + 1)) r0 0 w) = up (up (nwl (up (nwl (up (nwl (up (nwl (up (nwl (up (nwl (up (nwl (up (nwl N (128 * g + 4) 32 24) (128 * g + 3) 3 r1) (128 * g + 7) 20 4) (128 * g + 3) 6 r2) (128 * g + 8) 38 4) (128 * g + 3) 7 r3) (128 * g + 12) 20 3) (128 * g + 3) 9 r4) (128 * g + 13) 22 4) (128 * g + 3) 11 r5) (128 * g + 14) 20 4) (128 * g + 3) 12 r6) (128 * g + 15) 20 4) (128 * g + 3) 13 r7) (128 * g + 16) 37 3) (128 * g + 3) 15 (T7.2.2 + 1)) (128 * g + 3) 0 w := by rw [← x8, Wv_up hc8 (by decide), Wv_up hc8 (by decide), hW8]
  have b6 : clr U7 (T7.2.2 + 1) r0 6 = c8 (128 * g + 7) := by
    rw [← x8, (Wr hW8).1 _ _ (by decide)]
    simp (disch := omega) only [up_ne, nwl_ne, up_eq, f8, f7, f6, f5, f4, f3, e2]
  refine ⟨by rw [← x8, (Wr hW8).2.1, nwl_ne (by omega), up_ne (by omega), nwl_ne (by omega), up_ne (by omega), nwl_ne (by omega), up_ne (by omega), nwl_ne (by omega), up_ne (by omega), nwl_ne (by omega), up_ne (by omega), nwl_ne (by omega), up_ne (by omega), nwl_ne (by omega), up_ne (by omega), nwl_ne (by omega)]; exact tg, ?_⟩
  rw [b6]
  refine CT.im hd (fun d1 hd1 => ct_fill hc8 hU8 (by simp (disch := omega) only [up_ne, nwl_ne, nwl_tag]) (by simp (disch := omega) only [up_ne, nwl_ne, nwl_len]) (fun V' N' hW' f' z' => hk c8 _ V' N' hc8 h8 hW' (fun L q => ?_) (fun L k q1 q2 => ?_) ?_ ?_ ?_ ?_ ?_ ?_ ?_ ?_ ?_ ?_ ?_ ?_ ?_ ?_ ?_ ?_ ?_ ?_ ?_ ?_ ?_ ?_ ?_ ?_ ?_ z'))
  · rw [f8 _ (by omega), f7 _ (by omega), f6 _ (by omega), f5 _ (by omega), f4 _ (by omega), f3 _ (by omega), f2 _ (by omega), f1 _ (by omega)]
  · rw [f' _ _ (by omega)]
    simp (disch := omega) only [up_ne, nwl_ne]
  · rw [f' _ _ (by omega), up_eq]
  · rw [f' _ _ (by omega)]
    simp (disch := omega) only [up_ne, nwl_ne, up_eq, f8, f7, f6, f5, f4, f3, f2, e1]
  · rw [f' _ _ (by omega)]
    simp (disch := omega) only [up_ne, nwl_ne, nwl_tag]
  · rw [f' _ _ (by omega)]
    simp (disch := omega) only [up_ne, nwl_ne, nwl_len]
  · rw [f' _ _ (by omega)]
    simp (disch := omega) only [up_ne, nwl_ne, up_eq, f8, f7, f6, f5, f4, f3, e2]
  · rw [f' _ _ (by omega)]
    simp (disch := omega) only [up_ne, nwl_ne, nwl_tag]
  · rw [f' _ _ (by omega)]
    simp (disch := omega) only [up_ne, nwl_ne, nwl_len]
  · rw [f' _ _ (by omega)]
    simp (disch := omega) only [up_ne, nwl_ne, up_eq, f8, f7, f6, f5, f4, e3]
  · rw [f' _ _ (by omega)]
    simp (disch := omega) only [up_ne, nwl_ne, nwl_tag]
  · rw [f' _ _ (by omega)]
    simp (disch := omega) only [up_ne, nwl_ne, nwl_len]
  · rw [f' _ _ (by omega)]
    simp (disch := omega) only [up_ne, nwl_ne, up_eq, f8, f7, f6, f5, e4]
  · rw [f' _ _ (by omega)]
    simp (disch := omega) only [up_ne, nwl_ne, nwl_tag]
  · rw [f' _ _ (by omega)]
    simp (disch := omega) only [up_ne, nwl_ne, nwl_len]
  · rw [f' _ _ (by omega)]
    simp (disch := omega) only [up_ne, nwl_ne, up_eq, f8, f7, f6, e5]
  · rw [f' _ _ (by omega)]
    simp (disch := omega) only [up_ne, nwl_ne, nwl_tag]
  · rw [f' _ _ (by omega)]
    simp (disch := omega) only [up_ne, nwl_ne, nwl_len]
  · rw [f' _ _ (by omega)]
    simp (disch := omega) only [up_ne, nwl_ne, up_eq, f8, f7, e6]
  · rw [f' _ _ (by omega)]
    simp (disch := omega) only [up_ne, nwl_ne, nwl_tag]
  · rw [f' _ _ (by omega)]
    simp (disch := omega) only [up_ne, nwl_ne, nwl_len]
  · rw [f' _ _ (by omega)]
    simp (disch := omega) only [up_ne, nwl_ne, up_eq, f8, e7]
  · rw [f' _ _ (by omega)]
    simp (disch := omega) only [up_ne, nwl_ne, nwl_tag]
  · rw [f' _ _ (by omega)]
    simp (disch := omega) only [up_ne, nwl_ne, nwl_len]
  · rw [f' _ _ (by omega)]
    simp (disch := omega) only [up_ne, nwl_ne, up_eq, e8]
  · rw [f' _ _ (by omega)]
    simp (disch := omega) only [up_ne, nwl_ne, nwl_tag]
  · rw [f' _ _ (by omega)]
    simp (disch := omega) only [up_ne, nwl_ne, nwl_len]
theorem ct_bokInit {b : Int} (hc : Cn c S) (h0 : 0 ≤ S.2.2) (hW : Wv c S V = N) (x : c (128 * b + 1) = r0) (tg : N (128 * b + 1) (-1) = 1) (hd : 1 ≤ d) (hk : ∀ c' S' V' N', Cn c' S' → 0 ≤ S'.2.2 → Wv c' S' V' = N' → (∀ L, L ≠ 128 * b + 2 → c' L = c L) → (∀ L k, L ≠ 128 * b + 2 → ¬ (L = 128 * b + 1 ∧ k = 0) → N' L k = N L k) → N' (128 * b + 1) 0 = c' (128 * b + 2) → N' (128 * b + 2) (-1) = 33 → N' (128 * b + 2) (-2) = 12 → Q 0 S' V') : Ct l G bX0_init Q d 1 12 [vr r0] S V := by
  refine qX0_init fun _ => vX0_init_0 ⟨by rw [← x]; exact (hc.2 _).1, hd, by decide, by decide, by decide, by decide, ?_⟩
  intro S1 V1 r1 mc1 ms1 q1 q2 q3 q4 q5
  subst q1 q2 q3 q4 q5
  obtain ⟨c1, hc1, h1, hW1, e1, f1⟩ := al (L := 128 * b + 2) (t := 33) (n := 12) hc h0 hW
  have x1 : c1 (128 * b + 1) = r0 := (f1 _ (by omega)).trans x
  have hU1 : Wv c1 (nw S 33 12) (up (clr V (S.2.2 + 1)) r0 0 (S.2.2 + 1)) = up (nwl N (128 * b + 2) 33 12) (128 * b + 1) 0 (S.2.2 + 1) := by rw [← x1, Wv_up hc1 (by decide), hW1]
  refine ⟨by rw [← x1, (Wr hW1).2.1, nwl_ne (by omega)]; exact tg, hk c1 _ _ _ hc1 h1 hU1 (fun L q => f1 L q) (fun L k q1 q2 => ?_) ?_ ?_ ?_⟩
  · rw [up_ne (by omega), nwl_ne (by omega)]
  · rw [up_eq, e1]
  · rw [up_ne (by omega), nwl_tag]
  · rw [up_ne (by omega), nwl_len]
end ENI
