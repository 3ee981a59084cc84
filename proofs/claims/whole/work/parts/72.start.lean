/-! ===== the law out of its calls ===== -/
def cst0 (L : Int) : Int := if 0 ≤ L then -(2 * L + 1) else 2 * L
theorem cst0_ok {S : Sh} (h : 0 ≤ S.2.2) : Cn cst0 S := by
  refine ⟨fun A B e => ?_, fun A => ?_⟩
  · unfold cst0 at e
    split at e <;> split at e <;> omega
  · unfold cst0
    split <;> exact ⟨by omega, by omega⟩
theorem law_from (hA : AllCalls CI) : LawOK := by
  intro l G hG
  have g0 : (0 : Int) ≤ (G.1 : Int) := by omega
  refine vL_law_0 ⟨by decide, by decide, ?_⟩
  generalize hS : (((fun _ => 0), (fun _ => 0), (G.1 : Int)) : Sh) = S0
  have s0 : 0 ≤ S0.2.2 := by rw [← hS]; exact g0
  intro S1 V1 r1 mc1 ms1 q1 q2 q3 q4 q5
  subst q1 q2 q3 q4 q5
  obtain ⟨c1, hc1, h1, hW1, e1, f1⟩ := al (L := 60) (t := 12) (n := 0) (cst0_ok s0) s0 (rfl : Wv cst0 S0 (fun _ _ => 0) = _)
  refine ⟨by omega, CT.of 2047 24 19353 (ct_bookInit (Q := fun _ S V => ∃ c N, Cn c S ∧ 0 ≤ S.2.2 ∧ Wv c S V = N ∧ c 60 = S0.2.2 + 1 ∧ ∀ M : Mem, (∀ k, M 0 k = 0) → Rel c N M) hc1 h1 hW1 e1 nwl_tag (fun j j0 => by unfold nwl; rw [if_pos rfl, if_neg (by omega), if_neg (by omega)]) (by decide) (fun c' S' V' N' a1 a2 a3 a4 a5 => ⟨c', N', a1, a2, a3, a4, a5⟩)) (by decide) (by decide) (by decide) (fun z S3 V3 hq => ?_)⟩
  obtain ⟨c3, N3, hc3, h3, hW3, x3, R3⟩ := hq
  refine ⟨by decide, by decide, ?_⟩
  intro S5 V5 r5 mc5 ms5 q1 q2 q3 q4 q5
  subst q1 q2 q3 q4 q5
  obtain ⟨c5, hc5, h5, hW5, e5, f5⟩ := al (L := 80) (t := 13) (n := 0) hc3 h3 hW3
  have mi : MI [] [] c5 (Wv c5 (nw S3 13 0) (clr V3 (S3.2.2 + 1))) (S3.2.2 + 1) c5 (nw S3 13 0) (clr V3 (S3.2.2 + 1)) := by
    refine ⟨hc5, h5, e5, by rw [hW5, nwl_tag], fun k hk => absurd hk (by simp), fun k hk => absurd hk (by simp), fun k k1 k2 _ => ?_, fun _ _ => rfl, fun _ _ _ _ => rfl⟩
    rw [hW5]; unfold nwl; rw [if_pos rfl, if_neg k1, if_neg k2]
  refine ⟨by omega, CT.of 2047 59 318773 (ct_modInit (Q := fun _ S V => ∃ c, MI mks mks c5 (Wv c5 (nw S3 13 0) (clr V3 (S3.2.2 + 1))) (S3.2.2 + 1) c S V) mi (by decide) (fun c' S' V' a => ⟨c', a⟩)) (by decide) (by decide) (by decide) (fun z S7 V7 hq => ?_)⟩
  obtain ⟨c7, m7⟩ := hq
  have mr := m7.mr
  obtain ⟨a1, a2, a3, a4, a5, a6, a7, a8, a9⟩ := m7
  have R7 : Rel c7 (Wv c7 S7 V7) (fun _ _ => 0) := (R3 (fun _ _ => 0) (fun _ => rfl)).vc (fun L q => (a8 L (by omega)).trans (f5 L (by omega))) (fun L j q => by rw [a9 L j (by omega) (by omega), hW5, nwl_ne (by omega)])
  have x7 : c7 60 = S0.2.2 + 1 := ((a8 60 (by omega)).trans (f5 60 (by omega))).trans x3
  have v1 : V7 (S0.2.2 + 1) 1 = 0 := by rw [← x7]; exact R7.top.vtl
  exact law_loop ci_ok hA hG 512 0 S7 V7 (fun _ _ => 0) _ _ (by decide) (by decide) (by omega) mr ⟨c7, a1, x7, a3, fun k _ => rfl, R7⟩ ⟨by decide, by rw [v1]; decide⟩
