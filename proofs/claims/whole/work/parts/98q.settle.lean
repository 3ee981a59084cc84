/-! ===== book: the code copied, the book settled ===== -/
theorem Wv_swp {c : Int → Int} {S : Sh} {V : Mem} {L : Int} {f : Int → Int} (hc : Cn c S) (hf : ∀ i, i < 0 → f i = V (c L) i) (L' j : Int) : Wv c S (swp V (c L) f) L' j = if L' = L ∧ 0 ≤ j then f j else Wv c S V L' j := by
  by_cases l : L' = L
  · subst l
    by_cases j0 : 0 ≤ j
    · have a1 : j ≠ -1 := by omega
      have a2 : j ≠ -2 := by omega
      have a3 : ¬ j < 0 := by omega
      rw [if_pos ⟨rfl, j0⟩]
      unfold Wv swp
      rw [if_neg a1, if_neg a2, if_neg a3, if_pos rfl]
    · have a3 : j < 0 := by omega
      rw [if_neg (by omega)]
      unfold Wv swp
      by_cases a1 : j = -1
      · rw [if_pos a1, if_pos a1]
      · rw [if_neg a1, if_neg a1]
        by_cases a2 : j = -2
        · rw [if_pos a2, if_pos a2]
        · rw [if_neg a2, if_neg a2, if_pos a3, if_pos rfl]
          exact hf (j + 2) (by omega)
  · have lc : c L' ≠ c L := fun y => l (hc.1 _ _ y)
    rw [if_neg (fun y => l y.1)]
    unfold Wv swp
    rw [if_neg lc]
section COD
variable {l : Launch} {G : GT} {c : Int → Int} {S : Sh} {V N M : Mem} {Q : Int → Sh → Mem → Prop} {d mc ms : Nat} {r0 b ln : Int}
theorem ct_codb (hc : Cn c S) (h0 : 0 ≤ S.2.2) (hW : Wv c S V = N) (x : c (128 * b + 20) = r0) (tg : N (128 * b + 20) (-1) = 2) (n0 : 0 ≤ ln) (n1 : ln ≤ 3000) (hd : 1 ≤ d) (hk : ∀ c' S' V' N', Cn c' S' → 0 ≤ S'.2.2 → Wv c' S' V' = N' → (∀ L, L ≠ 128 * b + 21 → L ≠ 128 * b + 22 → c' L = c L) → (∀ L k, ¬ (L = 128 * b + 20 ∧ (k = 0 ∨ k = 1)) → L ≠ 128 * b + 21 → L ≠ 128 * b + 22 → N' L k = N L k) → N' (128 * b + 20) 0 = c' (128 * b + 21) → N' (128 * b + 20) 1 = c' (128 * b + 22) → N' (128 * b + 21) (-1) = 20 → N' (128 * b + 21) (-2) = ln → N' (128 * b + 22) (-1) = 20 → N' (128 * b + 22) (-2) = ln → Q 0 S' V') : Ct l G bX1_init Q d 2 (2 * ln.toNat) [vr r0, vi ln] S V := by
  have im : imax ln 0 = ln := by unfold imax; split <;> omega
  refine qX1_init fun _ _ => vX1_init_0 ?_
  rw [im]
  refine ⟨by rw [← x]; exact (hc.2 _).1, hd, n0, by omega, by decide, by omega, ?_⟩
  intro S1 V1 r1 mc1 ms1 q1 q2 q3 q4 q5
  subst q1 q2 q3 q4 q5
  obtain ⟨c1, hc1, h1, hW1, e1, f1⟩ := al (L := 128 * b + 21) (t := 20) (n := ln) hc h0 hW
  have x1 : c1 (128 * b + 20) = r0 := (f1 _ (by omega)).trans x
  have hU1 : Wv c1 (nw S 20 ln) (up (clr V (S.2.2 + 1)) r0 0 (S.2.2 + 1)) = up (nwl N (128 * b + 21) 20 ln) (128 * b + 20) 0 (S.2.2 + 1) := by rw [← x1, Wv_up hc1 (by decide), hW1]
  refine ⟨by rw [← x1, (Wr hW1).2.1, nwl_ne (by omega)]; exact tg, hd, n0, by omega, by decide, by omega, ?_⟩
  intro S3 V3 r3 mc3 ms3 q1 q2 q3 q4 q5
  subst q1 q2 q3 q4 q5
  generalize (S.2.2 + 1) = r1 at *
  generalize up (clr V r1) r0 0 r1 = U1 at *
  generalize nw S 20 ln = S1 at *
  obtain ⟨c3, hc3, h3, hW3, e3, f3⟩ := al (L := 128 * b + 22) (t := 20) (n := ln) hc1 h1 hU1
  have x3 : c3 (128 * b + 20) = r0 := (f3 _ (by omega)).trans x1
  have hU3 : Wv c3 (nw S1 20 ln) (up (clr U1 (S1.2.2 + 1)) r0 1 (S1.2.2 + 1)) = up (nwl (up (nwl N (128 * b + 21) 20 ln) (128 * b + 20) 0 r1) (128 * b + 22) 20 ln) (128 * b + 20) 1 (S1.2.2 + 1) := by rw [← x3, Wv_up hc3 (by decide), hW3]
  refine ⟨by rw [← x3, (Wr hW3).2.1, nwl_ne (by omega), up_ne (by omega), nwl_ne (by omega)]; exact tg, hk c3 _ _ _ hc3 h3 hU3 (fun L q1 q2 => (f3 L q2).trans (f1 L q1)) (fun L k q1 q2 q3 => ?_) ?_ ?_ ?_ ?_ ?_ ?_⟩
  · rw [up_ne (by omega), nwl_ne (by omega), up_ne (by omega), nwl_ne (by omega)]
  · rw [up_ne (by omega), nwl_ne (by omega), up_eq, f3 _ (by omega), e1]
  · rw [up_eq, e3]
  · rw [up_ne (by omega), nwl_ne (by omega), up_ne (by omega), nwl_tag]
  · rw [up_ne (by omega), nwl_ne (by omega), up_ne (by omega), nwl_len]
  · rw [up_ne (by omega), nwl_tag]
  · rw [up_ne (by omega), nwl_len]
set_option maxHeartbeats 1000000 in
theorem ct_copy (hc : Cn c S) (h0 : 0 ≤ S.2.2) (hW : Wv c S V = N) (rd : Rrd c N M) (lv : N 120 2 = ln) (b0 : 0 ≤ b) (b1 : b < 10) (n0 : 0 ≤ ln) (n1 : ln ≤ 3000) (hd : 3 ≤ d) (hk : ∀ c' S' V' N', Cn c' S' → 0 ≤ S'.2.2 → Wv c' S' V' = N' → (∀ L, L ≠ 128 * b + 20 → L ≠ 128 * b + 21 → L ≠ 128 * b + 22 → c' L = c L) → (∀ L k, L ≠ 128 * b + 20 → L ≠ 128 * b + 21 → L ≠ 128 * b + 22 → N' L k = N L k) → N' (128 * b + 20) (-1) = 2 → N' (128 * b + 20) 0 = c' (128 * b + 21) → N' (128 * b + 20) 1 = c' (128 * b + 22) → N' (128 * b + 20) 2 = ln → (N' (128 * b + 21) (-1) = 20 ∧ N' (128 * b + 21) (-2) = ln) → (N' (128 * b + 22) (-1) = 20 ∧ N' (128 * b + 22) (-2) = ln) → (∀ q, 0 ≤ q → q < ln → N' (128 * b + 21) q = N 121 q ∧ N' (128 * b + 22) q = N 122 q) → Q (c' (128 * b + 20)) S' V') : Ct l G bX1_copy Q d 3 (3 + 2 * ln.toNat) [vr (c 120)] S V := by
  refine qX1_copy fun _ => vX1_copy_0 ⟨by decide, by omega, ?_⟩
  intro S1 V1 r1 mc1 ms1 q1 q2 q3 q4 q5
  subst q1 q2 q3 q4 q5
  obtain ⟨c1, hc1, h1, hW1, e1, f1⟩ := al (L := 128 * b + 20) (t := 2) (n := 0) hc h0 hW
  have x120 : c 120 = c1 120 := (f1 120 (by omega)).symm
  have hl : clr V (S.2.2 + 1) (c 120) 2 = ln := by rw [x120, (Wr hW1).1 _ _ (by decide), nwl_ne (by omega)]; exact lv
  generalize nw S 2 0 = S1 at *
  generalize clr V (S.2.2 + 1) = V1 at *
  generalize hr1 : S.2.2 + 1 = r1 at *
  rw [hl]
  refine ⟨by rw [x120, (Wr hW1).2.1, nwl_ne (by omega)]; exact rd.g120, by rw [← e1]; exact (hc1.2 _).1, ?_⟩
  refine CT.of (d - 1) 2 (2 * ln.toNat) (ct_codb (b := b) (ln := ln) (Q := fun _ S3 V3 => ∃ c3 N3, (Cn c3 S3 ∧ 0 ≤ S3.2.2 ∧ Wv c3 S3 V3 = N3) ∧ (∀ L, L ≠ 128 * b + 21 → L ≠ 128 * b + 22 → c3 L = c1 L) ∧ (∀ L k, ¬ (L = 128 * b + 20 ∧ (k = 0 ∨ k = 1)) → L ≠ 128 * b + 21 → L ≠ 128 * b + 22 → N3 L k = nwl N (128 * b + 20) 2 0 L k) ∧ N3 (128 * b + 20) 0 = c3 (128 * b + 21) ∧ N3 (128 * b + 20) 1 = c3 (128 * b + 22) ∧ N3 (128 * b + 21) (-1) = 20 ∧ N3 (128 * b + 21) (-2) = ln ∧ N3 (128 * b + 22) (-1) = 20 ∧ N3 (128 * b + 22) (-2) = ln) hc1 h1 hW1 e1 nwl_tag n0 n1 (by omega) (fun c' S' V' N' a1 a2 a3 a4 a5 a6 a7 a8 a9 a10 a11 => ⟨c', N', ⟨a1, a2, a3⟩, a4, a5, a6, a7, a8, a9, a10, a11⟩)) (by omega) (by decide) (by omega) (fun z S3 V3 hq => ?_)
  obtain ⟨c3, N3, ⟨hc3, h3, hW3⟩, f3, n3, k0, k1, t1, l1, t2, l2⟩ := hq
  obtain ⟨v3, tg3, ln3⟩ := Wr hW3
  have fc : ∀ L, L ≠ 128 * b + 20 → L ≠ 128 * b + 21 → L ≠ 128 * b + 22 → c3 L = c L := fun L q1 q2 q3 => (f3 L q2 q3).trans (f1 L q1)
  have nn : ∀ L k, L ≠ 128 * b + 20 → L ≠ 128 * b + 21 → L ≠ 128 * b + 22 → N3 L k = N L k := fun L k q1 q2 q3 => (n3 L k (by omega) q2 q3).trans (nwl_ne q1)
  have y120 : c 120 = c3 120 := (fc _ (by omega) (by omega) (by omega)).symm
  have yr : r1 = c3 (128 * b + 20) := by rw [f3 _ (by omega) (by omega)]; exact e1.symm
  have d0 : V3 (c 120) 0 = c3 121 := by rw [y120, v3 _ _ (by decide), nn _ _ (by omega) (by omega) (by omega), fc _ (by omega) (by omega) (by omega)]; exact rd.c0
  have d1 : V3 (c 120) 1 = c3 122 := by rw [y120, v3 _ _ (by decide), nn _ _ (by omega) (by omega) (by omega), fc _ (by omega) (by omega) (by omega)]; exact rd.c1
  have d2 : V3 (c 120) 2 = ln := by rw [y120, v3 _ _ (by decide), nn _ _ (by omega) (by omega) (by omega)]; exact lv
  have dr0 : V3 (c3 (128 * b + 20)) 0 = c3 (128 * b + 21) := (v3 _ _ (by decide)).trans k0
  have dr1 : V3 (c3 (128 * b + 20)) 1 = c3 (128 * b + 22) := (v3 _ _ (by decide)).trans k1
  have tgo : N3 (128 * b + 20) (-1) = 2 := by rw [n3 _ _ (by omega) (by omega) (by omega), nwl_tag]
  rw [yr, d0, d1, d2, dr0, dr1]
  refine ⟨by rw [y120, tg3, nn _ _ (by omega) (by omega) (by omega)]; exact rd.g120, (tg3 _).trans tgo, by rw [tg3, nn _ _ (by omega) (by omega) (by omega)]; exact rd.g121, (tg3 _).trans t1, n0, by rw [ln3, nn _ _ (by omega) (by omega) (by omega), rd.n121]; exact n1, by rw [ln3, l1]; exact Int.le_refl _, by omega, by rw [tg3, nn _ _ (by omega) (by omega) (by omega)]; exact rd.g122, (tg3 _).trans t2, by rw [ln3, nn _ _ (by omega) (by omega) (by omega), rd.n122]; exact n1, by rw [ln3, l2]; exact Int.le_refl _, ?_⟩
  generalize hf1 : (fun b_1 => if 0 ≤ b_1 ∧ b_1 < ln then V3 (c3 121) b_1 else V3 (c3 (128 * b + 21)) b_1) = fa
  have fa1 : ∀ i, 0 ≤ i → i < ln → fa i = N 121 i := fun i i0 i1 => by rw [← hf1]; show (if 0 ≤ i ∧ i < ln then V3 (c3 121) i else V3 (c3 (128 * b + 21)) i) = _; rw [if_pos ⟨i0, i1⟩, v3 _ _ i0]; exact nn _ _ (by omega) (by omega) (by omega)
  have fa0 : ∀ i, i < 0 → fa i = V3 (c3 (128 * b + 21)) i := fun i i0 => by rw [← hf1]; show (if 0 ≤ i ∧ i < ln then V3 (c3 121) i else V3 (c3 (128 * b + 21)) i) = _; rw [if_neg (by omega)]
  clear hf1
  have s122 : ∀ i, swp V3 (c3 (128 * b + 21)) fa (c3 122) i = V3 (c3 122) i := fun i => if_neg (fun y => absurd (hc3.1 _ _ y) (by omega))
  have s22 : ∀ i, swp V3 (c3 (128 * b + 21)) fa (c3 (128 * b + 22)) i = V3 (c3 (128 * b + 22)) i := fun i => if_neg (fun y => absurd (hc3.1 _ _ y) (by omega))
  generalize hf2 : (fun b_1 => if 0 ≤ b_1 ∧ b_1 < ln then swp V3 (c3 (128 * b + 21)) fa (c3 122) b_1 else swp V3 (c3 (128 * b + 21)) fa (c3 (128 * b + 22)) b_1) = fb
  have fb1 : ∀ i, 0 ≤ i → i < ln → fb i = N 122 i := fun i i0 i1 => by rw [← hf2]; show (if 0 ≤ i ∧ i < ln then swp V3 (c3 (128 * b + 21)) fa (c3 122) i else swp V3 (c3 (128 * b + 21)) fa (c3 (128 * b + 22)) i) = _; rw [if_pos ⟨i0, i1⟩, s122, v3 _ _ i0]; exact nn _ _ (by omega) (by omega) (by omega)
  have fb0 : ∀ i, i < 0 → fb i = swp V3 (c3 (128 * b + 21)) fa (c3 (128 * b + 22)) i := fun i i0 => by rw [← hf2]; show (if 0 ≤ i ∧ i < ln then swp V3 (c3 (128 * b + 21)) fa (c3 122) i else swp V3 (c3 (128 * b + 21)) fa (c3 (128 * b + 22)) i) = _; rw [if_neg (by omega)]
  clear hf2
  have pt : ∀ L k, Wv c3 S3 (up (swp (swp V3 (c3 (128 * b + 21)) fa) (c3 (128 * b + 22)) fb) (c3 (128 * b + 20)) 2 ln) L k = up (fun L k => if L = 128 * b + 22 ∧ 0 ≤ k then fb k else if L = 128 * b + 21 ∧ 0 ≤ k then fa k else N3 L k) (128 * b + 20) 2 ln L k := fun L k => by
    rw [Wv_up hc3 (by decide)]
    by_cases y : L = 128 * b + 20 ∧ k = 2
    · rw [y.1, y.2, up_eq, up_eq]
    · rw [up_ne' y, up_ne' y, Wv_swp hc3 fb0, Wv_swp hc3 fa0, hW3]
  have po : ∀ L k, L ≠ 128 * b + 21 → L ≠ 128 * b + 22 → ¬ (L = 128 * b + 20 ∧ k = 2) → Wv c3 S3 (up (swp (swp V3 (c3 (128 * b + 21)) fa) (c3 (128 * b + 22)) fb) (c3 (128 * b + 20)) 2 ln) L k = N3 L k := fun L k q1 q2 q3 => by
    rw [pt, up_ne' q3]
    show (if L = 128 * b + 22 ∧ 0 ≤ k then fb k else if L = 128 * b + 21 ∧ 0 ≤ k then fa k else N3 L k) = _
    rw [if_neg (by omega), if_neg (by omega)]
  have pn : ∀ L k, k < 0 → Wv c3 S3 (up (swp (swp V3 (c3 (128 * b + 21)) fa) (c3 (128 * b + 22)) fb) (c3 (128 * b + 20)) 2 ln) L k = N3 L k := fun L k q => by
    rw [pt, up_ne' (by omega)]
    show (if L = 128 * b + 22 ∧ 0 ≤ k then fb k else if L = 128 * b + 21 ∧ 0 ≤ k then fa k else N3 L k) = _
    rw [if_neg (by omega), if_neg (by omega)]
  refine hk c3 S3 _ _ hc3 h3 rfl fc (fun L k q1 q2 q3 => (po L k q2 q3 (by omega)).trans (nn L k q1 q2 q3)) ((pn _ _ (by decide)).trans tgo) ((po _ _ (by omega) (by omega) (by omega)).trans k0) ((po _ _ (by omega) (by omega) (by omega)).trans k1) (by rw [pt, up_eq]) ⟨(pn _ _ (by decide)).trans t1, (pn _ _ (by decide)).trans l1⟩ ⟨(pn _ _ (by decide)).trans t2, (pn _ _ (by decide)).trans l2⟩ (fun q q0 q1 => ⟨?_, ?_⟩)
  · rw [pt, up_ne' (by omega)]
    show (if 128 * b + 21 = 128 * b + 22 ∧ 0 ≤ q then fb q else if 128 * b + 21 = 128 * b + 21 ∧ 0 ≤ q then fa q else N3 (128 * b + 21) q) = _
    rw [if_neg (by omega), if_pos ⟨rfl, q0⟩]
    exact fa1 q q0 q1
  · rw [pt, up_ne' (by omega)]
    show (if 128 * b + 22 = 128 * b + 22 ∧ 0 ≤ q then fb q else if 128 * b + 22 = 128 * b + 21 ∧ 0 ≤ q then fa q else N3 (128 * b + 22) q) = _
    rw [if_pos ⟨rfl, q0⟩]
    exact fb1 q q0 q1
end COD
section STB
variable {l : Launch} {G : GT} {c : Int → Int} {S : Sh} {V N : Mem} {Q : Int → Sh → Mem → Prop} {d mc ms : Nat} {b ln : Int}
set_option maxRecDepth 20000 in
set_option maxHeartbeats 1000000 in
theorem ct_settle (hc : Cn c S) (h0 : 0 ≤ S.2.2) (hW : Wv c S V = N) (tg : N (128 * b + 1) (-1) = 1) (t20 : N (128 * b + 20) (-1) = 2) (lv : N (128 * b + 20) 2 = ln) (n0 : 0 ≤ ln) (n1 : ln ≤ 3000) (hk : ∀ c' S' V' N', Cn c' S' → 0 ≤ S'.2.2 → Wv c' S' V' = N' → (∀ L, ¬ (128 * b + 23 ≤ L ∧ L ≤ 128 * b + 26) → c' L = c L) → (∀ L k, ¬ (128 * b + 23 ≤ L ∧ L ≤ 128 * b + 26) → ¬ (L = 128 * b + 1 ∧ (k = 3 ∨ k = 4 ∨ k = 5 ∨ k = 7 ∨ k = 8)) → N' L k = N L k) → N' (128 * b + 1) 3 = c' (128 * b + 20) → N' (128 * b + 1) 4 = c' (128 * b + 23) → N' (128 * b + 1) 5 = c' (128 * b + 24) → N' (128 * b + 1) 7 = c' (128 * b + 25) → N' (128 * b + 1) 8 = c' (128 * b + 26) → (N' (128 * b + 23) (-1) = 20 ∧ N' (128 * b + 23) (-2) = 148 ∧ ∀ i, 0 ≤ i → N' (128 * b + 23) i = 0) → (N' (128 * b + 24) (-1) = 20 ∧ N' (128 * b + 24) (-2) = 60) → (N' (128 * b + 25) (-1) = 20 ∧ N' (128 * b + 25) (-2) = ln) → (N' (128 * b + 26) (-1) = 20 ∧ N' (128 * b + 26) (-2) = ln) → Q 0 S' V') : Ct l G bX0_settle Q d 4 (208 + 2 * ln.toNat) [vr (c (128 * b + 1)), vr (c (128 * b + 20))] S V := by
  have g1 : S.1 (c (128 * b + 1)) = 1 := (Wr hW).2.1 _ |>.trans tg
  have hW0 : Wv c S (up V (c (128 * b + 1)) 3 (c (128 * b + 20))) = up N (128 * b + 1) 3 (c (128 * b + 20)) := by rw [Wv_up hc (by decide), hW]
  refine qX0_settle fun _ _ => vX0_settle_0 ⟨g1, by decide, by decide, by decide, by show 148 ≤ 208 + 2 * ln.toNat; omega, ?_⟩
  intro S1 V1 r1 mc1 ms1 q1 q2 q3 q4 q5
  subst q1 q2 q3 q4 q5
  obtain ⟨c1, hc1, h1, hW1, e1, f1⟩ := al (L := 128 * b + 23) (t := 20) (n := 148) hc h0 hW0
  have x1 : c (128 * b + 1) = c1 (128 * b + 1) := (f1 _ (by omega)).symm
  have x20 : c (128 * b + 20) = c1 (128 * b + 20) := (f1 _ (by omega)).symm
  refine ⟨by rw [x1, (Wr hW1).2.1, nwl_ne (by omega), up_ne' (by omega)]; exact tg, by decide, by decide, by decide, by show 60 ≤ 208 + 2 * ln.toNat - 148; omega, ?_⟩
  intro S3 V3 r3 mc3 ms3 q1 q2 q3 q4 q5
  subst q1 q2 q3 q4 q5
  have hU1 : Wv c1 (nw S 20 148) (up (clr (up V (c (128 * b + 1)) 3 (c (128 * b + 20))) (S.2.2 + 1)) (c (128 * b + 1)) 4 (S.2.2 + 1)) = up (nwl (up N (128 * b + 1) 3 (c (128 * b + 20))) (128 * b + 23) 20 148) (128 * b + 1) 4 (S.2.2 + 1) := by rw [show (up (clr (up V (c (128 * b + 1)) 3 (c (128 * b + 20))) (S.2.2 + 1)) (c (128 * b + 1)) 4 (S.2.2 + 1)) = (up (clr (up V (c (128 * b + 1)) 3 (c (128 * b + 20))) (S.2.2 + 1)) (c1 (128 * b + 1)) 4 (S.2.2 + 1)) from by rw [← x1], Wv_up hc1 (by decide), hW1]
  generalize hr1 : S.2.2 + 1 = r1 at *
  generalize hU1e : up (clr (up V (c (128 * b + 1)) 3 (c (128 * b + 20))) r1) (c (128 * b + 1)) 4 r1 = U1 at *
  generalize hS1 : nw S 20 148 = S1 at *
  obtain ⟨c3, hc3, h3, hW3, e3, f3⟩ := al (L := 128 * b + 24) (t := 20) (n := 60) hc1 h1 hU1
  have y1 : c (128 * b + 1) = c3 (128 * b + 1) := x1.trans (f3 _ (by omega)).symm
  have y20 : c (128 * b + 20) = c3 (128 * b + 20) := x20.trans (f3 _ (by omega)).symm
  have pk3 : ∀ L k, L ≠ 128 * b + 23 → L ≠ 128 * b + 24 → ¬ (L = 128 * b + 1 ∧ (k = 3 ∨ k = 4)) → nwl (up (nwl (up N (128 * b + 1) 3 (c (128 * b + 20))) (128 * b + 23) 20 148) (128 * b + 1) 4 r1) (128 * b + 24) 20 60 L k = N L k := fun L k q1 q2 q3 => by rw [nwl_ne q2, up_ne' (by omega), nwl_ne q1, up_ne' (by omega)]
  have hl3 : clr U1 (S1.2.2 + 1) (c (128 * b + 20)) 2 = ln := by rw [y20, (Wr hW3).1 _ _ (by decide), pk3 _ _ (by omega) (by omega) (by omega)]; exact lv
  rw [hl3]
  refine ⟨by rw [y1, (Wr hW3).2.1, pk3 _ _ (by omega) (by omega) (by omega)]; exact tg, by rw [y20, (Wr hW3).2.1, pk3 _ _ (by omega) (by omega) (by omega)]; exact t20, n0, by omega, by decide, by show ln.toNat ≤ 208 + 2 * ln.toNat - 148 - 60; omega, ?_⟩
  intro S5 V5 r5 mc5 ms5 q1 q2 q3 q4 q5
  subst q1 q2 q3 q4 q5
  have hU3 : Wv c3 (nw S1 20 60) (up (clr U1 (S1.2.2 + 1)) (c (128 * b + 1)) 5 (S1.2.2 + 1)) = up (nwl (up (nwl (up N (128 * b + 1) 3 (c (128 * b + 20))) (128 * b + 23) 20 148) (128 * b + 1) 4 r1) (128 * b + 24) 20 60) (128 * b + 1) 5 (S1.2.2 + 1) := by rw [y1, Wv_up hc3 (by decide), hW3]
  have n3a : up (nwl (up (nwl (up N (128 * b + 1) 3 (c (128 * b + 20))) (128 * b + 23) 20 148) (128 * b + 1) 4 r1) (128 * b + 24) 20 60) (128 * b + 1) 5 (S1.2.2 + 1) (128 * b + 1) 3 = c (128 * b + 20) := by rw [up_ne' (by omega), nwl_ne (by omega), up_ne' (by omega), nwl_ne (by omega), up_eq]
  have n3b : up (nwl (up (nwl (up N (128 * b + 1) 3 (c (128 * b + 20))) (128 * b + 23) 20 148) (128 * b + 1) 4 r1) (128 * b + 24) 20 60) (128 * b + 1) 5 (S1.2.2 + 1) (128 * b + 1) 4 = r1 := by rw [up_ne' (by omega), nwl_ne (by omega), up_eq]
  have n3c : up (nwl (up (nwl (up N (128 * b + 1) 3 (c (128 * b + 20))) (128 * b + 23) 20 148) (128 * b + 1) 4 r1) (128 * b + 24) 20 60) (128 * b + 1) 5 (S1.2.2 + 1) (128 * b + 1) 5 = S1.2.2 + 1 := up_eq
  have n3d : up (nwl (up (nwl (up N (128 * b + 1) 3 (c (128 * b + 20))) (128 * b + 23) 20 148) (128 * b + 1) 4 r1) (128 * b + 24) 20 60) (128 * b + 1) 5 (S1.2.2 + 1) (128 * b + 23) (-1) = 20 ∧ up (nwl (up (nwl (up N (128 * b + 1) 3 (c (128 * b + 20))) (128 * b + 23) 20 148) (128 * b + 1) 4 r1) (128 * b + 24) 20 60) (128 * b + 1) 5 (S1.2.2 + 1) (128 * b + 23) (-2) = 148 ∧ ∀ i, 0 ≤ i → up (nwl (up (nwl (up N (128 * b + 1) 3 (c (128 * b + 20))) (128 * b + 23) 20 148) (128 * b + 1) 4 r1) (128 * b + 24) 20 60) (128 * b + 1) 5 (S1.2.2 + 1) (128 * b + 23) i = 0 := by
    refine ⟨?_, ?_, fun i i0 => ?_⟩
    · rw [up_ne' (by omega), nwl_ne (by omega), up_ne' (by omega), nwl_tag]
    · rw [up_ne' (by omega), nwl_ne (by omega), up_ne' (by omega), nwl_len]
    · rw [up_ne' (by omega), nwl_ne (by omega), up_ne' (by omega)]
      unfold nwl
      rw [if_pos rfl, if_neg (by omega), if_neg (by omega)]
  have n3e : up (nwl (up (nwl (up N (128 * b + 1) 3 (c (128 * b + 20))) (128 * b + 23) 20 148) (128 * b + 1) 4 r1) (128 * b + 24) 20 60) (128 * b + 1) 5 (S1.2.2 + 1) (128 * b + 24) (-1) = 20 ∧ up (nwl (up (nwl (up N (128 * b + 1) 3 (c (128 * b + 20))) (128 * b + 23) 20 148) (128 * b + 1) 4 r1) (128 * b + 24) 20 60) (128 * b + 1) 5 (S1.2.2 + 1) (128 * b + 24) (-2) = 60 := ⟨by rw [up_ne' (by omega), nwl_tag], by rw [up_ne' (by omega), nwl_len]⟩
  have n3f : ∀ L k, ¬ (128 * b + 23 ≤ L ∧ L ≤ 128 * b + 24) → ¬ (L = 128 * b + 1 ∧ (k = 3 ∨ k = 4 ∨ k = 5)) → up (nwl (up (nwl (up N (128 * b + 1) 3 (c (128 * b + 20))) (128 * b + 23) 20 148) (128 * b + 1) 4 r1) (128 * b + 24) 20 60) (128 * b + 1) 5 (S1.2.2 + 1) L k = N L k := fun L k q1 q2 => by rw [up_ne' (by omega)]; exact pk3 L k (by omega) (by omega) (by omega)
  generalize up (nwl (up (nwl (up N (128 * b + 1) 3 (c (128 * b + 20))) (128 * b + 23) 20 148) (128 * b + 1) 4 r1) (128 * b + 24) 20 60) (128 * b + 1) 5 (S1.2.2 + 1) = N3 at *
  generalize hr3 : S1.2.2 + 1 = r3 at *
  generalize hU3e : up (clr U1 r3) (c (128 * b + 1)) 5 r3 = U3 at *
  generalize hS3 : nw S1 20 60 = S3 at *
  obtain ⟨c5, hc5, h5, hW5, e5, f5⟩ := al (L := 128 * b + 25) (t := 20) (n := ln) hc3 h3 hU3
  have w1 : c (128 * b + 1) = c5 (128 * b + 1) := y1.trans (f5 _ (by omega)).symm
  have w20 : c (128 * b + 20) = c5 (128 * b + 20) := y20.trans (f5 _ (by omega)).symm
  have hl5 : clr U3 (S3.2.2 + 1) (c (128 * b + 20)) 2 = ln := by rw [w20, (Wr hW5).1 _ _ (by decide), nwl_ne (by omega), n3f _ _ (by omega) (by omega)]; exact lv
  rw [hl5]
  refine ⟨by rw [w1, (Wr hW5).2.1, nwl_ne (by omega), n3f _ _ (by omega) (by omega)]; exact tg, by rw [w20, (Wr hW5).2.1, nwl_ne (by omega), n3f _ _ (by omega) (by omega)]; exact t20, n0, by omega, by decide, by show ln.toNat ≤ 208 + 2 * ln.toNat - 148 - 60 - ln.toNat; omega, ?_⟩
  intro S7 V7 r7 mc7 ms7 q1 q2 q3 q4 q5
  subst q1 q2 q3 q4 q5
  have hU5 : Wv c5 (nw S3 20 ln) (up (clr U3 (S3.2.2 + 1)) (c (128 * b + 1)) 7 (S3.2.2 + 1)) = up (nwl N3 (128 * b + 25) 20 ln) (128 * b + 1) 7 (S3.2.2 + 1) := by rw [w1, Wv_up hc5 (by decide), hW5]
  generalize hr5 : S3.2.2 + 1 = r5 at *
  generalize hU5e : up (clr U3 r5) (c (128 * b + 1)) 7 r5 = U5 at *
  generalize hS5 : nw S3 20 ln = S5 at *
  obtain ⟨c7, hc7, h7, hW7, e7, f7⟩ := al (L := 128 * b + 26) (t := 20) (n := ln) hc5 h5 hU5
  have v1 : c (128 * b + 1) = c7 (128 * b + 1) := w1.trans (f7 _ (by omega)).symm
  have v20 : c7 (128 * b + 20) = c (128 * b + 20) := (f7 _ (by omega)).trans w20.symm
  have hU7 : Wv c7 (nw S5 20 ln) (up (clr U5 (S5.2.2 + 1)) (c (128 * b + 1)) 8 (S5.2.2 + 1)) = up (nwl (up (nwl N3 (128 * b + 25) 20 ln) (128 * b + 1) 7 r5) (128 * b + 26) 20 ln) (128 * b + 1) 8 (S5.2.2 + 1) := by rw [v1, Wv_up hc7 (by decide), hW7]
  have n7f : ∀ L k, L ≠ 128 * b + 25 → L ≠ 128 * b + 26 → ¬ (L = 128 * b + 1 ∧ (k = 7 ∨ k = 8)) → up (nwl (up (nwl N3 (128 * b + 25) 20 ln) (128 * b + 1) 7 r5) (128 * b + 26) 20 ln) (128 * b + 1) 8 (S5.2.2 + 1) L k = N3 L k := fun L k q1 q2 q3 => by rw [up_ne' (by omega), nwl_ne q2, up_ne' (by omega), nwl_ne q1]
  refine ⟨by rw [v1, (Wr hW7).2.1, nwl_ne (by omega), up_ne' (by omega), nwl_ne (by omega), n3f _ _ (by omega) (by omega)]; exact tg, hk c7 _ _ _ hc7 h7 hU7 (fun L q => (f7 L (by omega)).trans ((f5 L (by omega)).trans ((f3 L (by omega)).trans (f1 L (by omega))))) (fun L k q1 q2 => (n7f L k (by omega) (by omega) (by omega)).trans (n3f L k (by omega) (by omega))) ?_ ?_ ?_ ?_ ?_ ⟨?_, ?_, fun i i0 => ?_⟩ ⟨?_, ?_⟩ ⟨?_, ?_⟩ ⟨?_, ?_⟩⟩
  · rw [n7f _ _ (by omega) (by omega) (by omega), n3a, v20]
  · rw [n7f _ _ (by omega) (by omega) (by omega), n3b, f7 _ (by omega), f5 _ (by omega), f3 _ (by omega), e1]
  · rw [n7f _ _ (by omega) (by omega) (by omega), n3c, f7 _ (by omega), f5 _ (by omega), e3]
  · rw [up_ne' (by omega), nwl_ne (by omega), up_eq, f7 _ (by omega), e5]
  · rw [up_eq, e7]
  · rw [n7f _ _ (by omega) (by omega) (by omega)]; exact n3d.1
  · rw [n7f _ _ (by omega) (by omega) (by omega)]; exact n3d.2.1
  · rw [n7f _ _ (by omega) (by omega) (by omega)]; exact n3d.2.2 i i0
  · rw [n7f _ _ (by omega) (by omega) (by omega)]; exact n3e.1
  · rw [n7f _ _ (by omega) (by omega) (by omega)]; exact n3e.2
  · rw [up_ne' (by omega), nwl_ne (by omega), up_ne' (by omega), nwl_tag]
  · rw [up_ne' (by omega), nwl_ne (by omega), up_ne' (by omega), nwl_len]
  · rw [up_ne' (by omega), nwl_tag]
  · rw [up_ne' (by omega), nwl_len]
end STB
