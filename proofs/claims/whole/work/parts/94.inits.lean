/-! ===== book: the constructors of what is told ===== -/
section BIN
variable {l : Launch} {G : GT} {c : Int → Int} {S : Sh} {V N : Mem} {Q : Int → Sh → Mem → Prop} {d mc ms : Nat} {r0 w : Int}
theorem ct_fill {L : Int} (hc : Cn c S) (hW : Wv c S V = N) (t : N L (-1) = 20) (n : N L (-2) = 4) (hk : ∀ V' N', Wv c S V' = N' → (∀ L' k, ¬ (L' = L ∧ 0 ≤ k ∧ k < 4) → N' L' k = N L' k) → (∀ k, 0 ≤ k → k < 4 → N' L k = -1) → Q 0 S V') : Ct l G bJ7_fill_53178 Q d mc ms [vr (c L), vi (-1)] S V := by
  have lp : ∀ (r : Nat) (i : Int) (V1 N1 : Mem), 4 - i = r → 0 ≤ i → Wv c S V1 = N1 → (∀ L' k, ¬ (L' = L ∧ 0 ≤ k ∧ k < 4) → N1 L' k = N L' k) → (∀ k, 0 ≤ k → k < i → N1 L k = -1) → XJ l G bJ7_fill_53178 Q d 5 [vr (c L), vi (-1), vi i, vi 4] [] S V1 mc ms := by
    intro r
    induction r with
    | zero =>
      intro i V1 N1 hr i0 hW1 f1 z1
      exact vJ7_fill_53178_5 ⟨fun _ => hk V1 N1 hW1 f1 (fun k k0 k1 => z1 k k0 (by omega)), fun y => absurd (by omega) y⟩
    | succ r ih =>
      intro i V1 N1 hr i0 hW1 f1 z1
      obtain ⟨v1, tg1, ln1⟩ := Wr hW1
      refine vJ7_fill_53178_5 ⟨fun y => absurd y (by omega), fun _ => ⟨by rw [tg1, f1 _ _ (by omega)]; exact t, i0, by rw [ln1, f1 _ _ (by omega), n]; omega, by omega, by omega, ih (i + 1) _ (up N1 L i (-1)) (by omega) (by omega) (by rw [Wv_up hc i0, hW1]) (fun L' k q => (up_ne' (by omega)).trans (f1 L' k q)) (fun k k0 k1 => ?_)⟩⟩
      by_cases y : k = i
      · rw [y, up_eq]
      · rw [up_ne' (by omega)]; exact z1 k k0 (by omega)
  obtain ⟨v, tg, lnn⟩ := Wr hW
  refine qJ7_fill_53178 fun _ _ => vJ7_fill_53178_0 ⟨(tg _).trans t, ?_⟩
  rw [lnn, n]
  exact lp 4 0 V N (by omega) (by decide) hW (fun _ _ _ => rfl) (fun k k0 k1 => by omega)
theorem ct_conInit {q : Int} (hc : Cn c S) (h0 : 0 ≤ S.2.2) (hW : Wv c S V = N) (x : c (128 * q + 5) = r0) (tg : N (128 * q + 5) (-1) = 3) (z2 : N (128 * q + 5) 2 = 0) (hd : 1 ≤ d) (hk : ∀ c' S' V' N', Cn c' S' → 0 ≤ S'.2.2 → Wv c' S' V' = N' → (∀ L, L ≠ 128 * q + 6 → c' L = c L) → (∀ L k, L ≠ 128 * q + 5 → L ≠ 128 * q + 6 → N' L k = N L k) → N' (128 * q + 5) (-1) = 3 → N' (128 * q + 5) 0 = w → N' (128 * q + 5) 1 = -1 → N' (128 * q + 5) 2 = 0 → N' (128 * q + 5) 3 = c' (128 * q + 6) → N' (128 * q + 6) (-1) = 20 → N' (128 * q + 6) (-2) = 4 → (∀ a, 0 ≤ a → a < 4 → N' (128 * q + 6) a = -1) → Q 0 S' V') : Ct l G bX2_init Q d 1 4 [vr r0, vl w] S V := by
  have hU0 : Wv c S (up V r0 1 (-1)) = up N (128 * q + 5) 1 (-1) := by rw [← x, Wv_up hc (by decide), hW]
  refine qX2_init fun _ _ => vX2_init_0 ⟨by rw [← x]; exact (hc.2 _).1, hd, by rw [← x, (Wr hW).2.1]; exact tg, by decide, by decide, by decide, by decide, ?_⟩
  intro S1 V1 r1 mc1 ms1 q1 q2 q3 q4 q5
  subst q1 q2 q3 q4 q5
  obtain ⟨c1, hc1, h1, hW1, e1, f1⟩ := al (L := 128 * q + 6) (t := 20) (n := 4) hc h0 hU0
  have x1 : c1 (128 * q + 5) = r0 := (f1 _ (by omega)).trans x
  have hU1 : Wv c1 (nw S 20 4) (up (up (clr (up V r0 1 (-1)) (S.2.2 + 1)) r0 3 (S.2.2 + 1)) r0 0 w) = up (up (nwl (up N (128 * q + 5) 1 (-1)) (128 * q + 6) 20 4) (128 * q + 5) 3 (S.2.2 + 1)) (128 * q + 5) 0 w := by rw [← x1, Wv_up hc1 (by decide), Wv_up hc1 (by decide), x1, hW1]
  refine ⟨by rw [← x1, (Wr hW1).2.1, nwl_ne (by omega), up_ne (by omega)]; exact tg, ?_⟩
  generalize up (up (clr (up V r0 1 (-1)) (S.2.2 + 1)) r0 3 (S.2.2 + 1)) r0 0 w = U1 at *
  generalize nw S 20 4 = S1 at *
  rw [← e1]
  refine CT.im hd (fun d1 hd1 => ct_fill hc1 hU1 (by rw [up_ne (by omega), up_ne (by omega), nwl_tag]) (by rw [up_ne (by omega), up_ne (by omega), nwl_len]) (fun V' N' hW' f' z' => hk c1 S1 V' N' hc1 h1 hW' f1 (fun L k q1 q2 => ?_) ?_ ?_ ?_ ?_ ?_ ?_ ?_ z'))
  · rw [f' _ _ (by omega), up_ne (by omega), up_ne (by omega), nwl_ne (by omega), up_ne (by omega)]
  · rw [f' _ _ (by omega), up_ne (by omega), up_ne (by omega), nwl_ne (by omega), up_ne (by omega)]; exact tg
  · rw [f' _ _ (by omega), up_eq]
  · rw [f' _ _ (by omega), up_ne (by omega), up_ne (by omega), nwl_ne (by omega), up_eq]
  · rw [f' _ _ (by omega), up_ne (by omega), up_ne (by omega), nwl_ne (by omega), up_ne (by omega)]; exact z2
  · rw [f' _ _ (by omega), up_ne (by omega), up_eq, e1]
  · rw [f' _ _ (by omega), up_ne (by omega), up_ne (by omega), nwl_tag]
  · rw [f' _ _ (by omega), up_ne (by omega), up_ne (by omega), nwl_len]
theorem ct_tabInit {t : Int} (hc : Cn c S) (h0 : 0 ≤ S.2.2) (hW : Wv c S V = N) (x : c (128 * t + 9) = r0) (tg : N (128 * t + 9) (-1) = 9) (hd : 1 ≤ d) (hk : ∀ c' S' V' N', Cn c' S' → 0 ≤ S'.2.2 → Wv c' S' V' = N' → (∀ L, L ≠ 128 * t + 10 → L ≠ 128 * t + 11 → c' L = c L) → (∀ L k, ¬ (L = 128 * t + 9 ∧ (k = 0 ∨ k = 1 ∨ k = 2)) → L ≠ 128 * t + 10 → L ≠ 128 * t + 11 → N' L k = N L k) → N' (128 * t + 9) 0 = w → N' (128 * t + 9) 1 = c' (128 * t + 10) → N' (128 * t + 9) 2 = c' (128 * t + 11) → N' (128 * t + 10) (-1) = 20 → N' (128 * t + 10) (-2) = 12 → N' (128 * t + 11) (-1) = 20 → N' (128 * t + 11) (-2) = 12 → Q 0 S' V') : Ct l G bX8_init Q d 2 24 [vr r0, vl w] S V := by
  refine qX8_init fun _ _ => vX8_init_0 ⟨by rw [← x]; exact (hc.2 _).1, hd, by decide, by decide, by decide, by decide, ?_⟩
  intro S1 V1 r1 mc1 ms1 q1 q2 q3 q4 q5
  subst q1 q2 q3 q4 q5
  obtain ⟨c1, hc1, h1, hW1, e1, f1⟩ := al (L := 128 * t + 10) (t := 20) (n := 12) hc h0 hW
  have x1 : c1 (128 * t + 9) = r0 := (f1 _ (by omega)).trans x
  have hU1 : Wv c1 (nw S 20 12) (up (clr V (S.2.2 + 1)) r0 1 (S.2.2 + 1)) = up (nwl N (128 * t + 10) 20 12) (128 * t + 9) 1 (S.2.2 + 1) := by rw [← x1, Wv_up hc1 (by decide), hW1]
  refine ⟨by rw [← x1, (Wr hW1).2.1, nwl_ne (by omega)]; exact tg, by decide, by decide, by decide, by decide, ?_⟩
  intro S3 V3 r3 mc3 ms3 q1 q2 q3 q4 q5
  subst q1 q2 q3 q4 q5
  generalize (S.2.2 + 1) = r1 at *
  generalize up (clr V r1) r0 1 r1 = U1 at *
  generalize nw S 20 12 = S1 at *
  obtain ⟨c3, hc3, h3, hW3, e3, f3⟩ := al (L := 128 * t + 11) (t := 20) (n := 12) hc1 h1 hU1
  have x3 : c3 (128 * t + 9) = r0 := (f3 _ (by omega)).trans x1
  have hU3 : Wv c3 (nw S1 20 12) (up (up (clr U1 (S1.2.2 + 1)) r0 2 (S1.2.2 + 1)) r0 0 w) = up (up (nwl (up (nwl N (128 * t + 10) 20 12) (128 * t + 9) 1 r1) (128 * t + 11) 20 12) (128 * t + 9) 2 (S1.2.2 + 1)) (128 * t + 9) 0 w := by rw [← x3, Wv_up hc3 (by decide), Wv_up hc3 (by decide), hW3]
  refine ⟨by rw [← x3, (Wr hW3).2.1, nwl_ne (by omega), up_ne (by omega), nwl_ne (by omega)]; exact tg, hk c3 _ _ _ hc3 h3 hU3 (fun L q1 q2 => (f3 L q2).trans (f1 L q1)) (fun L k q1 q2 q3 => ?_) up_eq ?_ ?_ ?_ ?_ ?_ ?_⟩
  · rw [up_ne (by omega), up_ne (by omega), nwl_ne (by omega), up_ne (by omega), nwl_ne (by omega)]
  · rw [up_ne (by omega), up_ne (by omega), nwl_ne (by omega), up_eq, f3 _ (by omega), e1]
  · rw [up_ne (by omega), up_eq, e3]
  · rw [up_ne (by omega), up_ne (by omega), nwl_ne (by omega), up_ne (by omega), nwl_tag]
  · rw [up_ne (by omega), up_ne (by omega), nwl_ne (by omega), up_ne (by omega), nwl_len]
  · rw [up_ne (by omega), up_ne (by omega), nwl_tag]
  · rw [up_ne (by omega), up_ne (by omega), nwl_len]
theorem ct_swiInit {t : Int} (hc : Cn c S) (h0 : 0 ≤ S.2.2) (hW : Wv c S V = N) (x : c (128 * t + 17) = r0) (tg : N (128 * t + 17) (-1) = 8) (hd : 1 ≤ d) (hk : ∀ c' S' V' N', Cn c' S' → 0 ≤ S'.2.2 → Wv c' S' V' = N' → (∀ L, L ≠ 128 * t + 18 → L ≠ 128 * t + 19 → c' L = c L) → (∀ L k, ¬ (L = 128 * t + 17 ∧ (k = 0 ∨ k = 1 ∨ k = 2)) → L ≠ 128 * t + 18 → L ≠ 128 * t + 19 → N' L k = N L k) → N' (128 * t + 17) 0 = w → N' (128 * t + 17) 1 = c' (128 * t + 18) → N' (128 * t + 17) 2 = c' (128 * t + 19) → N' (128 * t + 18) (-1) = 22 → N' (128 * t + 18) (-2) = 12 → N' (128 * t + 19) (-1) = 20 → N' (128 * t + 19) (-2) = 12 → Q 0 S' V') : Ct l G bX7_init Q d 2 24 [vr r0, vl w] S V := by
  refine qX7_init fun _ _ => vX7_init_0 ⟨by rw [← x]; exact (hc.2 _).1, hd, by decide, by decide, by decide, by decide, ?_⟩
  intro S1 V1 r1 mc1 ms1 q1 q2 q3 q4 q5
  subst q1 q2 q3 q4 q5
  obtain ⟨c1, hc1, h1, hW1, e1, f1⟩ := al (L := 128 * t + 18) (t := 22) (n := 12) hc h0 hW
  have x1 : c1 (128 * t + 17) = r0 := (f1 _ (by omega)).trans x
  have hU1 : Wv c1 (nw S 22 12) (up (clr V (S.2.2 + 1)) r0 1 (S.2.2 + 1)) = up (nwl N (128 * t + 18) 22 12) (128 * t + 17) 1 (S.2.2 + 1) := by rw [← x1, Wv_up hc1 (by decide), hW1]
  refine ⟨by rw [← x1, (Wr hW1).2.1, nwl_ne (by omega)]; exact tg, by decide, by decide, by decide, by decide, ?_⟩
  intro S3 V3 r3 mc3 ms3 q1 q2 q3 q4 q5
  subst q1 q2 q3 q4 q5
  generalize (S.2.2 + 1) = r1 at *
  generalize up (clr V r1) r0 1 r1 = U1 at *
  generalize nw S 22 12 = S1 at *
  obtain ⟨c3, hc3, h3, hW3, e3, f3⟩ := al (L := 128 * t + 19) (t := 20) (n := 12) hc1 h1 hU1
  have x3 : c3 (128 * t + 17) = r0 := (f3 _ (by omega)).trans x1
  have hU3 : Wv c3 (nw S1 20 12) (up (up (clr U1 (S1.2.2 + 1)) r0 2 (S1.2.2 + 1)) r0 0 w) = up (up (nwl (up (nwl N (128 * t + 18) 22 12) (128 * t + 17) 1 r1) (128 * t + 19) 20 12) (128 * t + 17) 2 (S1.2.2 + 1)) (128 * t + 17) 0 w := by rw [← x3, Wv_up hc3 (by decide), Wv_up hc3 (by decide), hW3]
  refine ⟨by rw [← x3, (Wr hW3).2.1, nwl_ne (by omega), up_ne (by omega), nwl_ne (by omega)]; exact tg, hk c3 _ _ _ hc3 h3 hU3 (fun L q1 q2 => (f3 L q2).trans (f1 L q1)) (fun L k q1 q2 q3 => ?_) up_eq ?_ ?_ ?_ ?_ ?_ ?_⟩
  · rw [up_ne (by omega), up_ne (by omega), nwl_ne (by omega), up_ne (by omega), nwl_ne (by omega)]
  · rw [up_ne (by omega), up_ne (by omega), nwl_ne (by omega), up_eq, f3 _ (by omega), e1]
  · rw [up_ne (by omega), up_eq, e3]
  · rw [up_ne (by omega), up_ne (by omega), nwl_ne (by omega), up_ne (by omega), nwl_tag]
  · rw [up_ne (by omega), up_ne (by omega), nwl_ne (by omega), up_ne (by omega), nwl_len]
  · rw [up_ne (by omega), up_ne (by omega), nwl_tag]
  · rw [up_ne (by omega), up_ne (by omega), nwl_len]
end BIN
