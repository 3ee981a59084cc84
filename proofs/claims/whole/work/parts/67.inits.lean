/-! ===== the constructors: code, reader, worker ===== -/
section INJ
variable {l : Launch} {G : GT} {c : Int → Int} {S : Sh} {V N : Mem} {Q : Int → Sh → Mem → Prop} {d : Nat} {r0 : Int}
theorem ct_codInit (hc : Cn c S) (h0 : 0 ≤ S.2.2) (hW : Wv c S V = N) (x : c 120 = r0) (g : N 120 (-1) = 2) (hd : 1 ≤ d) (hk : ∀ c' S' V' N', Cn c' S' → 0 ≤ S'.2.2 → Wv c' S' V' = N' → (∀ L, ¬ (121 ≤ L ∧ L ≤ 122) → c' L = c L) → (∀ L k, ¬ (120 ≤ L ∧ L ≤ 122) → N' L k = N L k) → CodF c' N' → Q 0 S' V') : Ct l G bX1_init Q d 2 6000 [vr r0, vi 3000] S V := by
  have im : imax 3000 0 = 3000 := rfl
  refine qX1_init fun _ _ => vX1_init_0 ⟨by rw [← x]; exact (hc.2 _).1, by omega, by decide, by decide, by decide, by decide, ?_⟩
  rw [im]
  intro S1 V1 r1 mc1 ms1 q1 q2 q3 q4 q5
  subst q1 q2 q3 q4 q5
  obtain ⟨c1, hc1, h1, hW1, e1, f1⟩ := al (L := 121) (t := 20) (n := 3000) hc h0 hW
  have x1 : c1 120 = r0 := (f1 120 (by decide)).trans x
  have t1 := (Wr hW1).2.1
  refine ⟨by rw [← x1, t1, nwl_ne (by omega)]; exact g, by omega, by decide, by decide, by decide, by decide, ?_⟩
  have hU1 : Wv c1 (nw S 20 3000) (up (clr V (S.2.2 + 1)) r0 0 (S.2.2 + 1)) = up (nwl N 121 20 3000) 120 0 (S.2.2 + 1) := by rw [← x1, Wv_up hc1 (by decide), hW1]
  intro S3 V3 r3 mc3 ms3 q1 q2 q3 q4 q5
  subst q1 q2 q3 q4 q5
  obtain ⟨c3, hc3, h3, hW3, e3, f3⟩ := al (L := 122) (t := 20) (n := 3000) hc1 h1 hU1
  have x3 : c3 120 = r0 := (f3 120 (by decide)).trans x1
  have t3 := (Wr hW3).2.1
  refine ⟨by rw [← x3, t3, nwl_ne (by omega), up_ne (by omega), nwl_ne (by omega)]; exact g, ?_⟩
  generalize (S.2.2 + 1) = r1 at *
  generalize nw S 20 3000 = S1 at *
  have hU3 : ∀ r3, Wv c3 (nw S1 20 3000) (up (clr (up (clr V r1) r0 0 r1) (S1.2.2 + 1)) r0 1 r3) = up (nwl (up (nwl N 121 20 3000) 120 0 r1) 122 20 3000) 120 1 r3 := fun r3 => by rw [← x3, Wv_up hc3 (by decide), x3, hW3]
  refine hk c3 _ _ _ hc3 h3 (hU3 _) (fun L q => by rw [f3 _ (by omega), f1 _ (by omega)]) (fun L k q => by simp (disch := omega) only [up_ne, nwl_ne]) ⟨?_, ?_, ?_, ?_, ?_, ?_, ?_⟩
  · simp (disch := omega) only [up_ne, nwl_ne]; exact g
  · simp (disch := omega) only [up_ne, nwl_ne, nwl_tag]
  · simp (disch := omega) only [up_ne, nwl_ne, nwl_len]
  · simp (disch := omega) only [up_ne, nwl_ne, nwl_tag]
  · simp (disch := omega) only [up_ne, nwl_ne, nwl_len]
  · rw [f3 _ (by decide), e1]; simp (disch := omega) only [up_ne, nwl_ne, up_eq]
  · rw [e3, up_eq]
theorem ct_rdInit {r9 : Int} (hc : Cn c S) (h0 : 0 ≤ S.2.2) (hW : Wv c S V = N) (x : c 50 = r0) (g : N 50 (-1) = 6) (hd : 2 ≤ d) (hk : ∀ c' S' V' N', Cn c' S' → 0 ≤ S'.2.2 → Wv c' S' V' = N' → (∀ L, ¬ (L = 51 ∨ (120 ≤ L ∧ L ≤ 122)) → c' L = c L) → (∀ L k, ¬ (L = 50 ∨ L = 51 ∨ (120 ≤ L ∧ L ≤ 122)) → N' L k = N L k) → CodF c' N' → N' 50 (-1) = 6 → N' 51 (-1) = 22 → N' 51 (-2) = 4 → N' 50 0 = r9 → N' 50 1 = c' 120 → N' 50 2 = c' 51 → Q 0 S' V') : Ct l G bX5_init Q d 4 6007 [vr r0, vr r9] S V := by
  refine qX5_init fun _ _ => vX5_init_0 ⟨by rw [← x]; exact (hc.2 _).1, by omega, by decide, by decide, ?_⟩
  intro S1 V1 r1 mc1 ms1 q1 q2 q3 q4 q5
  subst q1 q2 q3 q4 q5
  obtain ⟨c1, hc1, h1, hW1, e1, f1⟩ := al (L := 120) (t := 2) (n := 0) hc h0 hW
  have x1 : c1 50 = r0 := (f1 50 (by decide)).trans x
  refine ⟨by omega, CT.of (d - 1) 2 6000 (ct_codInit (Q := fun _ S3 V3 => ∃ c3 N3, Cn c3 S3 ∧ 0 ≤ S3.2.2 ∧ Wv c3 S3 V3 = N3 ∧ (∀ L, ¬ (121 ≤ L ∧ L ≤ 122) → c3 L = c1 L) ∧ (∀ L k, ¬ (120 ≤ L ∧ L ≤ 122) → N3 L k = nwl N 120 2 0 L k) ∧ CodF c3 N3) hc1 h1 hW1 e1 nwl_tag (by omega) (fun c' S' V' N' a1 a2 a3 a4 a5 a6 => ⟨c', N', a1, a2, a3, a4, a5, a6⟩)) (by omega) (by decide) (by decide) (fun z S3 V3 hq => ?_)⟩
  obtain ⟨c3, N3, hc3, h3, hW3, f3, g3, k3⟩ := hq
  have x3 : c3 50 = r0 := (f3 50 (by omega)).trans x1
  have y3 : c3 120 = S.2.2 + 1 := (f3 120 (by omega)).trans e1
  have t3 := (Wr hW3).2.1
  refine ⟨by rw [← x3, t3, g3 _ _ (by omega), nwl_ne (by omega)]; exact g, by decide, by decide, by decide, by decide, ?_⟩
  generalize (S.2.2 + 1) = r1 at *
  have hU3 : Wv c3 S3 (up V3 r0 1 r1) = up N3 50 1 r1 := by rw [← x3, Wv_up hc3 (by decide), hW3]
  intro S5 V5 r5 mc5 ms5 q1 q2 q3 q4 q5
  subst q1 q2 q3 q4 q5
  obtain ⟨c5, hc5, h5, hW5, e5, f5⟩ := al (L := 51) (t := 22) (n := 4) hc3 h3 hU3
  have x5 : c5 50 = r0 := (f5 50 (by decide)).trans x3
  have t5 := (Wr hW5).2.1
  refine ⟨by rw [← x5, t5, nwl_ne (by omega), up_ne (by omega), g3 _ _ (by omega), nwl_ne (by omega)]; exact g, ?_⟩
  have hU5 : ∀ r5, Wv c5 (nw S3 22 4) (up (up (clr (up V3 r0 1 r1) (S3.2.2 + 1)) r0 2 r5) r0 0 r9) = up (up (nwl (up N3 50 1 r1) 51 22 4) 50 2 r5) 50 0 r9 := fun r5 => by rw [← x5, Wv_up hc5 (by decide), Wv_up hc5 (by decide), x5, hW5]
  obtain ⟨b1, b2, b3, b4, b5, b6, b7⟩ := k3
  refine hk c5 _ _ _ hc5 h5 (hU5 _) (fun L q => by rw [f5 _ (by omega), f3 _ (by omega), f1 _ (by omega)]) (fun L k q => ?_) ⟨?_, ?_, ?_, ?_, ?_, ?_, ?_⟩ ?_ ?_ ?_ ?_ ?_ ?_
  · simp (disch := omega) only [up_ne, nwl_ne]; rw [g3 _ _ (by omega), nwl_ne (by omega)]
  · simp (disch := omega) only [up_ne, nwl_ne]; exact b1
  · simp (disch := omega) only [up_ne, nwl_ne]; exact b2
  · simp (disch := omega) only [up_ne, nwl_ne]; exact b3
  · simp (disch := omega) only [up_ne, nwl_ne]; exact b4
  · simp (disch := omega) only [up_ne, nwl_ne]; exact b5
  · rw [f5 _ (by decide)]; simp (disch := omega) only [up_ne, nwl_ne]; exact b6
  · rw [f5 _ (by decide)]; simp (disch := omega) only [up_ne, nwl_ne]; exact b7
  · simp (disch := omega) only [up_ne, nwl_ne]; rw [g3 _ _ (by omega), nwl_ne (by omega)]; exact g
  · simp (disch := omega) only [up_ne, nwl_ne, nwl_tag]
  · simp (disch := omega) only [up_ne, nwl_ne, nwl_len]
  · rw [up_eq]
  · rw [f5 _ (by decide), y3]; simp (disch := omega) only [up_ne, nwl_ne, up_eq]
  · rw [e5, up_ne (by omega), up_eq]
theorem ct_wkInit (hc : Cn c S) (h0 : 0 ≤ S.2.2) (hW : Wv c S V = N) (x : c 30 = r0) (g : N 30 (-1) = 11) (hd : 1 ≤ d) (hk : ∀ c' S' V' N', Cn c' S' → 0 ≤ S'.2.2 → Wv c' S' V' = N' → (∀ L, ¬ (31 ≤ L ∧ L ≤ 34) → c' L = c L) → (∀ L k, ¬ (30 ≤ L ∧ L ≤ 34) → N' L k = N L k) → N' 30 8 = N 30 8 → WkF c' N' → Q 0 S' V') : Ct l G bX10_init Q d 4 1038 [vr r0] S V := by
  refine qX10_init fun _ => vX10_init_0 ⟨by rw [← x]; exact (hc.2 _).1, by omega, by decide, by decide, by decide, by decide, ?_⟩
  intro S1 V1 r1 mc1 ms1 q1 q2 q3 q4 q5
  subst q1 q2 q3 q4 q5
  obtain ⟨c1, hc1, h1, hW1, e1, f1⟩ := al (L := 31) (t := 20) (n := 1000) hc h0 hW
  have x1 : c1 30 = r0 := (f1 30 (by decide)).trans x
  have t1 := (Wr hW1).2.1
  refine ⟨by rw [← x1, t1, nwl_ne (by omega)]; exact g, by decide, by decide, by decide, by decide, ?_⟩
  have hU1 : Wv c1 (nw S 20 1000) (up (clr V (S.2.2 + 1)) r0 2 (S.2.2 + 1)) = up (nwl N 31 20 1000) 30 2 (S.2.2 + 1) := by rw [← x1, Wv_up hc1 (by decide), hW1]
  intro S3 V3 r3 mc3 ms3 q1 q2 q3 q4 q5
  subst q1 q2 q3 q4 q5
  obtain ⟨c3, hc3, h3, hW3, e3, f3⟩ := al (L := 32) (t := 20) (n := 12) hc1 h1 hU1
  have x3 : c3 30 = r0 := (f3 30 (by decide)).trans x1
  have t3 := (Wr hW3).2.1
  refine ⟨by rw [← x3, t3, nwl_ne (by omega), up_ne (by omega), nwl_ne (by omega)]; exact g, by decide, by decide, by decide, by decide, ?_⟩
  generalize (S.2.2 + 1) = r1 at *
  generalize nw S 20 1000 = S1 at *
  have hU3 : ∀ r3, Wv c3 (nw S1 20 12) (up (clr (up (clr V r1) r0 2 r1) (S1.2.2 + 1)) r0 4 r3) = up (nwl (up (nwl N 31 20 1000) 30 2 r1) 32 20 12) 30 4 r3 := fun r3 => by rw [← x3, Wv_up hc3 (by decide), x3, hW3]
  intro S5 V5 r5 mc5 ms5 q1 q2 q3 q4 q5
  subst q1 q2 q3 q4 q5
  obtain ⟨c5, hc5, h5, hW5, e5, f5⟩ := al (L := 33) (t := 20) (n := 13) hc3 h3 (hU3 (S1.2.2 + 1))
  have x5 : c5 30 = r0 := (f5 30 (by decide)).trans x3
  have t5 := (Wr hW5).2.1
  refine ⟨by rw [← x5, t5, nwl_ne (by omega), up_ne (by omega), nwl_ne (by omega), up_ne (by omega), nwl_ne (by omega)]; exact g, by decide, by decide, by decide, by decide, ?_⟩
  generalize (S1.2.2 + 1) = r3 at *
  generalize nw S1 20 12 = S3 at *
  have hU5 : ∀ r5, Wv c5 (nw S3 20 13) (up (clr (up (clr (up (clr V r1) r0 2 r1) r3) r0 4 r3) (S3.2.2 + 1)) r0 6 r5) = up (nwl (up (nwl (up (nwl N 31 20 1000) 30 2 r1) 32 20 12) 30 4 r3) 33 20 13) 30 6 r5 := fun r5 => by rw [← x5, Wv_up hc5 (by decide), x5, hW5]
  intro S7 V7 r7 mc7 ms7 q1 q2 q3 q4 q5
  subst q1 q2 q3 q4 q5
  obtain ⟨c7, hc7, h7, hW7, e7, f7⟩ := al (L := 34) (t := 20) (n := 13) hc5 h5 (hU5 (S3.2.2 + 1))
  have x7 : c7 30 = r0 := (f7 30 (by decide)).trans x5
  have t7 := (Wr hW7).2.1
  generalize (S3.2.2 + 1) = r5 at *
  generalize nw S3 20 13 = S5 at *
  refine ⟨by rw [← x7, t7, nwl_ne (by omega), up_ne (by omega), nwl_ne (by omega), up_ne (by omega), nwl_ne (by omega), up_ne (by omega), nwl_ne (by omega)]; exact g, ?_⟩
  have hU7 : ∀ r7, Wv c7 (nw S5 20 13) (up (clr (up (clr (up (clr (up (clr V r1) r0 2 r1) r3) r0 4 r3) r5) r0 6 r5) (S5.2.2 + 1)) r0 7 r7) = up (nwl (up (nwl (up (nwl (up (nwl N 31 20 1000) 30 2 r1) 32 20 12) 30 4 r3) 33 20 13) 30 6 r5) 34 20 13) 30 7 r7 := fun r7 => by rw [← x7, Wv_up hc7 (by decide), x7, hW7]
  refine hk c7 _ _ _ hc7 h7 (hU7 _) (fun L q => by rw [f7 _ (by omega), f5 _ (by omega), f3 _ (by omega), f1 _ (by omega)]) (fun L k q => by simp (disch := omega) only [up_ne, nwl_ne]) (by simp (disch := omega) only [up_ne, nwl_ne]) ⟨?_, ?_, ?_, ?_, ?_, ?_, ?_, ?_, ?_, ?_, ?_, ?_, ?_⟩
  · simp (disch := omega) only [up_ne, nwl_ne]; exact g
  · simp (disch := omega) only [up_ne, nwl_ne, nwl_tag]
  · simp (disch := omega) only [up_ne, nwl_ne, nwl_len]
  · simp (disch := omega) only [up_ne, nwl_ne, nwl_tag]
  · simp (disch := omega) only [up_ne, nwl_ne, nwl_len]
  · simp (disch := omega) only [up_ne, nwl_ne, nwl_tag]
  · simp (disch := omega) only [up_ne, nwl_ne, nwl_len]
  · simp (disch := omega) only [up_ne, nwl_ne, nwl_tag]
  · simp (disch := omega) only [up_ne, nwl_ne, nwl_len]
  · rw [f7 _ (by decide), f5 _ (by decide), f3 _ (by decide), e1]; simp (disch := omega) only [up_ne, nwl_ne, up_eq]
  · rw [f7 _ (by decide), f5 _ (by decide), e3]; simp (disch := omega) only [up_ne, nwl_ne, up_eq]
  · rw [f7 _ (by decide), e5]; simp (disch := omega) only [up_ne, nwl_ne, up_eq]
  · rw [e7, up_eq]
end INJ
