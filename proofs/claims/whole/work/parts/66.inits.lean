/-! ===== the constructors: tokens, code, reader, worker ===== -/
def TokF (c : Int → Int) (N : Mem) : Prop := N 40 (-1) = 10 ∧ N 41 (-1) = 20 ∧ N 41 (-2) = 3001 ∧ N 42 (-1) = 20 ∧ N 42 (-2) = 3001 ∧ N 43 (-1) = 22 ∧ N 43 (-2) = 3001 ∧ N 44 (-1) = 22 ∧ N 44 (-2) = 12 ∧ N 40 0 = c 41 ∧ N 40 1 = c 42 ∧ N 40 2 = c 43 ∧ N 40 4 = c 44 ∧ (∀ i : Nat, i < 12 → N 44 i = [1369421, 4308, 335815429, 52449483, 8844755282, 20789412040, 791749, 1361093, 369411397, 62596, 5019269, 17364357].getD i 0)
def CodF (c : Int → Int) (N : Mem) : Prop := N 120 (-1) = 2 ∧ N 121 (-1) = 20 ∧ N 121 (-2) = 3000 ∧ N 122 (-1) = 20 ∧ N 122 (-2) = 3000 ∧ N 120 0 = c 121 ∧ N 120 1 = c 122
def WkF (c : Int → Int) (N : Mem) : Prop := N 30 (-1) = 11 ∧ N 31 (-1) = 20 ∧ N 31 (-2) = 1000 ∧ N 32 (-1) = 20 ∧ N 32 (-2) = 12 ∧ N 33 (-1) = 20 ∧ N 33 (-2) = 13 ∧ N 34 (-1) = 20 ∧ N 34 (-2) = 13 ∧ N 30 2 = c 31 ∧ N 30 4 = c 32 ∧ N 30 6 = c 33 ∧ N 30 7 = c 34
section INI
variable {l : Launch} {G : GT} {c : Int → Int} {S : Sh} {V N : Mem} {Q : Int → Sh → Mem → Prop} {d : Nat} {r0 : Int}
theorem ct_tokInit (hc : Cn c S) (h0 : 0 ≤ S.2.2) (hW : Wv c S V = N) (x : c 40 = r0) (g : N 40 (-1) = 10) (hd : 7 ≤ d) (hk : ∀ c' S' V' N', Cn c' S' → 0 ≤ S'.2.2 → Wv c' S' V' = N' → (∀ L, ¬ (41 ≤ L ∧ L ≤ 44) → c' L = c L) → (∀ L k, ¬ (40 ≤ L ∧ L ≤ 44) → N' L k = N L k) → TokF c' N' → Q 0 S' V') : Ct l G bX9_init Q d 4 9015 [vr r0] S V := by
  refine qX9_init fun _ => vX9_init_0 ⟨by rw [← x]; exact (hc.2 _).1, by omega, by decide, by decide, by decide, by decide, ?_⟩
  intro S1 V1 r1 mc1 ms1 q1 q2 q3 q4 q5
  subst q1 q2 q3 q4 q5
  obtain ⟨c1, hc1, h1, hW1, e1, f1⟩ := al (L := 41) (t := 20) (n := 3001) hc h0 hW
  have x1 : c1 40 = r0 := (f1 40 (by decide)).trans x
  have t1 := (Wr hW1).2.1
  refine ⟨by rw [← x1, t1, nwl_ne (by omega)]; exact g, by decide, by decide, by decide, by decide, ?_⟩
  have hU1 : Wv c1 (nw S 20 3001) (up (clr V (S.2.2 + 1)) r0 0 (S.2.2 + 1)) = up (nwl N 41 20 3001) 40 0 (S.2.2 + 1) := by rw [← x1, Wv_up hc1 (by decide), hW1]
  intro S3 V3 r3 mc3 ms3 q1 q2 q3 q4 q5
  subst q1 q2 q3 q4 q5
  obtain ⟨c3, hc3, h3, hW3, e3, f3⟩ := al (L := 42) (t := 20) (n := 3001) hc1 h1 hU1
  have x3 : c3 40 = r0 := (f3 40 (by decide)).trans x1
  have t3 := (Wr hW3).2.1
  refine ⟨by rw [← x3, t3, nwl_ne (by omega), up_ne (by omega), nwl_ne (by omega)]; exact g, by decide, by decide, by decide, by decide, ?_⟩
  generalize (S.2.2 + 1) = r1 at *
  generalize nw S 20 3001 = S1 at *
  have hU3 : ∀ r3, Wv c3 (nw S1 20 3001) (up (clr (up (clr V r1) r0 0 r1) (S1.2.2 + 1)) r0 1 r3) = up (nwl (up (nwl N 41 20 3001) 40 0 r1) 42 20 3001) 40 1 r3 := fun r3 => by rw [← x3, Wv_up hc3 (by decide), x3, hW3]
  intro S5 V5 r5 mc5 ms5 q1 q2 q3 q4 q5
  subst q1 q2 q3 q4 q5
  obtain ⟨c5, hc5, h5, hW5, e5, f5⟩ := al (L := 43) (t := 22) (n := 3001) hc3 h3 (hU3 (S1.2.2 + 1))
  have x5 : c5 40 = r0 := (f5 40 (by decide)).trans x3
  have t5 := (Wr hW5).2.1
  refine ⟨by rw [← x5, t5, nwl_ne (by omega), up_ne (by omega), nwl_ne (by omega), up_ne (by omega), nwl_ne (by omega)]; exact g, by decide, by decide, by decide, by decide, ?_⟩
  generalize (S1.2.2 + 1) = r3 at *
  generalize nw S1 20 3001 = S3 at *
  have hU5 : ∀ r5, Wv c5 (nw S3 22 3001) (up (up (clr (up (clr (up (clr V r1) r0 0 r1) r3) r0 1 r3) (S3.2.2 + 1)) r0 2 r5) r0 3 1) = up (up (nwl (up (nwl (up (nwl N 41 20 3001) 40 0 r1) 42 20 3001) 40 1 r3) 43 22 3001) 40 2 r5) 40 3 1 := fun r5 => by rw [← x5, Wv_up hc5 (by decide), Wv_up hc5 (by decide), x5, hW5]
  intro S7 V7 r7 mc7 ms7 q1 q2 q3 q4 q5
  subst q1 q2 q3 q4 q5
  obtain ⟨c7, hc7, h7, hW7, e7, f7⟩ := al (L := 44) (t := 22) (n := 12) hc5 h5 (hU5 (S3.2.2 + 1))
  have x7 : c7 40 = r0 := (f7 40 (by decide)).trans x5
  have t7 := (Wr hW7).2.1
  generalize (S3.2.2 + 1) = r5 at *
  generalize nw S3 22 3001 = S5 at *
  refine ⟨by rw [← x7, t7, nwl_ne (by omega), up_ne (by omega), up_ne (by omega), nwl_ne (by omega), up_ne (by omega), nwl_ne (by omega), up_ne (by omega), nwl_ne (by omega)]; exact g, ?_⟩
  have hU7 : ∀ r7, Wv c7 (nw S5 22 12) (up (clr (up (up (clr (up (clr (up (clr V r1) r0 0 r1) r3) r0 1 r3) r5) r0 2 r5) r0 3 1) (S5.2.2 + 1)) r0 4 r7) = up (nwl (up (up (nwl (up (nwl (up (nwl N 41 20 3001) 40 0 r1) 42 20 3001) 40 1 r3) 43 22 3001) 40 2 r5) 40 3 1) 44 22 12) 40 4 r7 := fun r7 => by rw [← x7, Wv_up hc7 (by decide), x7, hW7]
  have hU := hU7 (S5.2.2 + 1)
  generalize (S5.2.2 + 1) = r7 at *
  generalize nw S5 22 12 = S7 at *
  refine kw_loop (r0 := r0) (N0 := up (nwl (up (up (nwl (up (nwl (up (nwl N 41 20 3001) 40 0 r1) 42 20 3001) 40 1 r3) 43 22 3001) 40 2 r5) 40 3 1) 44 22 12) 40 4 r7) hc7 x7 hd ?_ ?_ ?_ ?_ (fun V' N' hW' fk hl => hk c7 S7 V' N' hc7 h7 hW' (fun L q => ?_) (fun L k q => ?_) ?_) 66 0 _ _ rfl hU (fun _ _ _ => rfl) (fun i hi => absurd hi (by show ¬ i < 0; omega))
  · simp (disch := omega) only [up_ne, nwl_ne]; exact g
  · rw [up_eq, e7]
  · simp (disch := omega) only [up_ne, nwl_ne, nwl_tag]
  · simp (disch := omega) only [up_ne, nwl_ne, nwl_len]
  · rw [f7 _ (by omega), f5 _ (by omega), f3 _ (by omega), f1 _ (by omega)]
  · rw [fk _ _ (by omega)]; simp (disch := omega) only [up_ne, nwl_ne]
  · refine ⟨?_, ?_, ?_, ?_, ?_, ?_, ?_, ?_, ?_, ?_, ?_, ?_, ?_, ?_⟩
    · rw [fk _ _ (by omega)]; simp (disch := omega) only [up_ne, nwl_ne]; exact g
    · rw [fk _ _ (by omega)]; simp (disch := omega) only [up_ne, nwl_ne, nwl_tag]
    · rw [fk _ _ (by omega)]; simp (disch := omega) only [up_ne, nwl_ne, nwl_len]
    · rw [fk _ _ (by omega)]; simp (disch := omega) only [up_ne, nwl_ne, nwl_tag]
    · rw [fk _ _ (by omega)]; simp (disch := omega) only [up_ne, nwl_ne, nwl_len]
    · rw [fk _ _ (by omega)]; simp (disch := omega) only [up_ne, nwl_ne, nwl_tag]
    · rw [fk _ _ (by omega)]; simp (disch := omega) only [up_ne, nwl_ne, nwl_len]
    · rw [fk _ _ (by omega)]; simp (disch := omega) only [up_ne, nwl_ne, nwl_tag]
    · rw [fk _ _ (by omega)]; simp (disch := omega) only [up_ne, nwl_ne, nwl_len]
    · rw [fk _ _ (by omega), f7 _ (by decide), f5 _ (by decide), f3 _ (by decide), e1]; simp (disch := omega) only [up_ne, nwl_ne, up_eq]
    · rw [fk _ _ (by omega), f7 _ (by decide), f5 _ (by decide), e3]; simp (disch := omega) only [up_ne, nwl_ne, up_eq]
    · rw [fk _ _ (by omega), f7 _ (by decide), e5]; simp (disch := omega) only [up_ne, nwl_ne, up_eq]
    · rw [fk _ _ (by omega), e7, up_eq]
    · intro i hi
      have := hl i (by rw [kst_end]; exact hi)
      rw [kst_end] at this
      exact this
end INI
