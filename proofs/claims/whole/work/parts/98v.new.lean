/-! ===== book: the new book stands: headers, roots, states ===== -/
section BKV
variable {c : Int → Int} {N M N1 M1 gm : Mem} {ow eo cs K P W E : Int → Int} {nt b B j ln ne p x : Int}
theorem NBK.rt {lv sl : Int} (h : NBK c N M N1 M1 gm ow eo cs K P W E nt b B j ln ne) (r : RTr N1 gm ow B (M1 0 40) ln p x lv sl) : Rt N (gmN gm ow B (M1 0 40)) b x p lv sl := by
  obtain ⟨r1, r2, r3, r4, r5, r6, r7, r8, r9⟩ := r
  have o := ((h.op (P := P) (p := gm 2 x) (by omega) r6).1 (by omega) (by omega) (by omega) (by omega)).1
  unfold Rt
  rw [gmN_k (k := 1) (by decide) (by decide), gmN_k (k := 4) (by decide) (by decide), gmN_k (k := 2) (by decide) (by decide), o]
  exact ⟨gmN_0 r1 r2, r3, r7, r8, fun i i0 i1 => gmN_5.trans (r9 i i0 i1)⟩
/-- the new book's labels -/
theorem NBK.nb (h : NBK c N M N1 M1 gm ow eo cs K P W E nt b B j ln ne) {L k : Int} (q : bkL b L) (q2 : L % 128 ≠ 21) (q3 : L % 128 ≠ 22) : N L k = N1 L k := h.2.1 L k q (by omega)
theorem NBK.mm (h : NBK c N M N1 M1 gm ow eo cs K P W E nt b B j ln ne) {k i : Int} (q : k ≠ 0) (q1 : k ≠ 35) (q2 : k ≠ 36) (q3 : k ≠ 32) (q4 : k < 52) : M k i = M1 k i := h.2.2.2.1 k i (by omega) q1 q2 q3 (by omega) (by omega) (by omega) (by omega) (by omega)
set_option maxHeartbeats 4000000 in
theorem NBK.te (h : NBK c N M N1 M1 gm ow eo cs K P W E nt b B j ln ne) {e : Int} (e0 : 0 ≤ e) (e1 : e < ne) : BkTe N M (gmN gm ow B (M1 0 40)) b e := by
  have hI := h.1.1
  have ne12 : ne ≤ 12 ∧ 0 ≤ b ∧ b < 10 := ⟨hI.2.2.2.2.2.2.2.2.2.2.1, hI.2.2.2.2.2.2.2.2.2.2.2.1, hI.2.2.2.2.2.2.2.2.2.2.2.2.1⟩
  obtain ⟨hE, -, -, ⟨E1, E2, E3, E4, E5, E6⟩, -⟩ := hI.2.2.2.2.2.2.1 e e0 e1
  have wd := hI.2.2.2.2.2.2.2.1
  have n14 := hE.nc1
  have n15 := hE.nt1
  have n16 := hE.nk1
  have n17 := hE.nh1
  have n18 := hE.nw1
  have mm : ∀ k i, k ≠ 0 → k ≠ 35 → k ≠ 36 → k ≠ 32 → k < 52 → M k i = M1 k i := fun k i a1 a2 a3 a4 a5 => h.mm a1 a2 a3 a4 a5
  have b5 : ∀ i k, 0 ≤ i → i < 24 → N (128 * (24 * (12 * b + e) + i) + 5) k = N1 (128 * (24 * (12 * b + e) + i) + 5) k ∧ N (128 * (24 * (12 * b + e) + i) + 6) k = N1 (128 * (24 * (12 * b + e) + i) + 6) k := fun i k i0 i1 => ⟨h.nb (by unfold bkL; omega) (by omega) (by omega), h.nb (by unfold bkL; omega) (by omega) (by omega)⟩
  have b10 : ∀ i k, 0 ≤ i → i < 4 → N (128 * (4 * (12 * b + e) + i) + 10) k = N1 (128 * (4 * (12 * b + e) + i) + 10) k := fun i k i0 i1 => h.nb (by unfold bkL; omega) (by omega) (by omega)
  have b17 : ∀ i k, 0 ≤ i → i < 3 → N (128 * (3 * (12 * b + e) + i) + 17) k = N1 (128 * (3 * (12 * b + e) + i) + 17) k ∧ N (128 * (3 * (12 * b + e) + i) + 19) k = N1 (128 * (3 * (12 * b + e) + i) + 19) k := fun i k i0 i1 => ⟨h.nb (by unfold bkL; omega) (by omega) (by omega), h.nb (by unfold bkL; omega) (by omega) (by omega)⟩
  have b7 : ∀ k, N (128 * (12 * b + e) + 7) k = N1 (128 * (12 * b + e) + 7) k ∧ N (128 * (12 * b + e) + 12) k = N1 (128 * (12 * b + e) + 12) k ∧ N (128 * (12 * b + e) + 14) k = N1 (128 * (12 * b + e) + 14) k := fun k => ⟨h.nb (by unfold bkL; omega) (by omega) (by omega), h.nb (by unfold bkL; omega) (by omega) (by omega), h.nb (by unfold bkL; omega) (by omega) (by omega)⟩
  have bod : ∀ L k base a lv, BOD N1 M1 gm ow B (M1 0 40) ln L k base a lv → N L a = N1 L a → M k (base + a) = M1 k (base + a) → M k (base + a) ≠ -1 → Rt N (gmN gm ow B (M1 0 40)) b (M k (base + a)) (N L a) lv (-1) := fun L k base a lv hb hn hm hne => by
    rw [hm] at hne ⊢
    rw [hn]
    rcases hb with q | q
    · exact absurd q.2 hne
    · exact h.rt (P := P) q.2
  have r14 := mm 14 (12 * b + e) (by decide) (by decide) (by decide) (by decide) (by decide)
  have r15 := mm 15 (12 * b + e) (by decide) (by decide) (by decide) (by decide) (by decide)
  have r16 := mm 16 (12 * b + e) (by decide) (by decide) (by decide) (by decide) (by decide)
  have r17 := mm 17 (12 * b + e) (by decide) (by decide) (by decide) (by decide) (by decide)
  have r18 := mm 18 (12 * b + e) (by decide) (by decide) (by decide) (by decide) (by decide)
  -- a case's step
  have cas : ∀ s k, 0 ≤ s → s < M1 18 (12 * b + e) → 0 ≤ k → k < M1 30 (3 * (12 * b + e) + s) → CSE N1 M1 gm ow K P W E nt b B (M1 0 40) ln (3 * (12 * b + e) + s) k ∧ cs (N1 (128 * (3 * (12 * b + e) + s) + 19) k) = 12 * (3 * (12 * b + e) + s) + k ∧ eo (N1 (128 * (3 * (12 * b + e) + s) + 19) k) = e ∧ M 32 (12 * (3 * (12 * b + e) + s) + k) = lcn N1 M1 eo K W b (N1 (128 * (3 * (12 * b + e) + s) + 19) k) := fun s k s0 s1 k0 k1 => by
    have is := E5 s s0 s1
    have k12 := is.2.2.1.2.2
    have cse := is.2.2.2.2 k k0 k1
    obtain ⟨c1, ⟨c2, c3, c4⟩, c5, ⟨c6, c7, c8⟩, c9, c10⟩ := id cse
    have cst : CST N1 M1 eo cs K P E nt b (N1 (128 * (3 * (12 * b + e) + s) + 19) k) := by
      rcases wd.2.1 _ c2 c3 with q | q | q
      · omega
      · have := q.1; omega
      · exact q
    have ec : cs (N1 (128 * (3 * (12 * b + e) + s) + 19) k) = 12 * (3 * (12 * b + e) + s) + k := by
      have := cst.2.1.1
      omega
    have e9 := cst.2.2.2
    rw [ec] at e9
    refine ⟨cse, ec, by omega, ?_⟩
    rw [← ec]
    exact h.2.2.2.2.1.2 _ c2 c3 c4
  refine ⟨?_, ?_, ?_, ?_, ?_, ?_, ?_, ?_, ?_⟩
  · intro i i0 i1 hne
    rw [r14] at i1
    rw [mm 21 _ (by decide) (by decide) (by decide) (by decide) (by decide)] at hne ⊢
    rw [(b5 i 1 i0 (by omega)).1]
    rcases (E1 i i0 i1).2.2.1 with q | q
    · exact absurd q.2 hne
    · exact h.rt (P := P) q.2
  · intro i a i0 i1 a0 a1 hne
    rw [r14] at i1
    exact bod _ 22 _ a 3 ((E1 i i0 i1).2.2.2 a a0 a1) (b5 i a i0 (by omega)).2 (mm _ _ (by decide) (by decide) (by decide) (by decide) (by decide)) hne
  · intro a a0 a1 hne
    exact bod _ 19 _ a 2 (E6 a a0 a1) (b7 a).1 (mm _ _ (by decide) (by decide) (by decide) (by decide) (by decide)) hne
  · intro t k t0 t1 k0 k1
    rw [r15] at t1
    rw [mm 24 _ (by decide) (by decide) (by decide) (by decide) (by decide)] at k1
    rw [mm 25 _ (by decide) (by decide) (by decide) (by decide) (by decide), b10 t k t0 (by omega)]
    exact h.rt (P := P) ((E2 t t0 t1).2.2.2 k k0 k1)
  · intro k k0 k1
    rw [r16] at k1
    rw [mm 26 _ (by decide) (by decide) (by decide) (by decide) (by decide), (b7 k).2.1]
    exact h.rt (P := P) (E3 k k0 k1)
  · intro k k0 k1
    rw [r17] at k1
    rw [mm 28 _ (by decide) (by decide) (by decide) (by decide) (by decide), (b7 k).2.2]
    exact h.rt (P := P) (E4 k k0 k1).2
  · intro s s0 s1
    rw [r18] at s1
    rw [mm 34 _ (by decide) (by decide) (by decide) (by decide) (by decide), (b17 s 4 s0 (by omega)).1]
    exact h.rt (P := P) (E5 s s0 s1).2.2.2.1
  · intro s k s0 s1 k0 k1
    rw [r18] at s1
    rw [mm 30 _ (by decide) (by decide) (by decide) (by decide) (by decide)] at k1
    obtain ⟨cse, ec, ee, m32⟩ := cas s k s0 s1 k0 k1
    obtain ⟨c1, ⟨c2, c3, c4⟩, c5, c6, c9, c10⟩ := cse
    rw [mm 33 _ (by decide) (by decide) (by decide) (by decide) (by decide), (b17 s k s0 (by omega)).2, m32]
    refine ⟨h.rt (P := P) c5, c2, ?_⟩
    exact ((h.op (P := P) c2 c3).1 (by omega) (by omega) (by omega) (by omega)).2.2 c4
  · intro s k k' s0 s1 k0 kk k1
    rw [r18] at s1
    rw [mm 30 _ (by decide) (by decide) (by decide) (by decide) (by decide)] at k1
    obtain ⟨cse, ec, ee, m32⟩ := cas s k s0 s1 (by omega) k1
    obtain ⟨cse', ec', ee', m32'⟩ := cas s k' s0 s1 k0 (by omega)
    rw [m32, m32']
    obtain ⟨c1, ⟨c2, c3, c4⟩, c5, c6, ⟨c9, c9a, c9b, c9c, c9d⟩, c10⟩ := cse
    obtain ⟨c1', ⟨c2', c3', c4'⟩, c5', c6', ⟨c9', c9a', c9b', c9c', c9d'⟩, c10'⟩ := cse'
    intro heq
    have ok := (h.2.2.1 _ c2 c3).2.2.2.2 c4
    have ow1 : own N1 M1 eo K W b (N1 (128 * (3 * (12 * b + e) + s) + 19) k) = e := by unfold own; rw [if_neg (fun y => y.1 c4)]; exact ee
    have ow2 : own N1 M1 eo K W b (N1 (128 * (3 * (12 * b + e) + s) + 19) k') = e := by unfold own; rw [if_neg (fun y => y.1 c4')]; exact ee'
    have tk1 : tkn N1 K (N1 (128 * (3 * (12 * b + e) + s) + 19) k) = N1 122 (N1 (128 * (3 * (12 * b + e) + s) + 19) k) := by unfold tkn; rw [if_neg (fun y => y.1 c4)]
    have tk2 : tkn N1 K (N1 (128 * (3 * (12 * b + e) + s) + 19) k') = N1 122 (N1 (128 * (3 * (12 * b + e) + s) + 19) k') := by unfold tkn; rw [if_neg (fun y => y.1 c4')]
    have l1 : lcn N1 M1 eo K W b (N1 (128 * (3 * (12 * b + e) + s) + 19) k) = fdx (cnm N1 (12 * b + e)) (N1 (128 * (3 * (12 * b + e) + s) + 18) k) (M1 14 (12 * b + e)).toNat 0 := by unfold lcn; rw [ow1, tk1, c9c]
    have l2 : lcn N1 M1 eo K W b (N1 (128 * (3 * (12 * b + e) + s) + 19) k') = fdx (cnm N1 (12 * b + e)) (N1 (128 * (3 * (12 * b + e) + s) + 18) k') (M1 14 (12 * b + e)).toNat 0 := by unfold lcn; rw [ow2, tk2, c9c']
    have f1 := fdx_rng (f := cnm N1 (12 * b + e)) (v := N1 (128 * (3 * (12 * b + e) + s) + 18) k) (M1 14 (12 * b + e)).toNat 0 (Int.le_refl _)
    have f2 := fdx_rng (f := cnm N1 (12 * b + e)) (v := N1 (128 * (3 * (12 * b + e) + s) + 18) k') (M1 14 (12 * b + e)).toNat 0 (Int.le_refl _)
    rw [← l1] at f1
    rw [← l2] at f2
    refine c10 k' k0 kk ?_
    rcases f1 with f1 | f1
    · have := f1.1; omega
    · rcases f2 with f2 | f2
      · have := f2.1; omega
      · rw [← f2.2.2.1, ← f1.2.2.1, heq]
theorem Ren.of {g : Int} (hE : HE c N M g) (n14 : 1 ≤ M 14 g) (bd : ∀ a, 0 ≤ a → a < 4 → (N (128 * g + 7) a = -1 ↔ M 19 (4 * g + a) = -1)) (m53 : M 53 g = 0) : Ren c N M g :=
  ⟨hE.tg, hE.rc, hE.tc, hE.lc, hE.rb, hE.tb, hE.lb, hE.rt, hE.tt, hE.lt, hE.rk, hE.tk, hE.lk, hE.rn, hE.tn, hE.ln, hE.rh, hE.th, hE.lh, hE.rv, hE.tv, hE.lv, hE.rs, hE.ts, hE.ls, hE.nm, hE.nc, n14, hE.nc1, hE.nt, hE.nt0, hE.nt1, hE.nk, hE.nk0, hE.nk1, hE.nh, hE.nh0, hE.nh1, hE.nw, hE.nw0, hE.nw1, bd, hE.md.trans m53.symm, by omega, by omega, fun i i0 i1 => (hE.ci i i0 i1).1, fun i i0 i1 => (hE.ti i i0 i1).1, fun i i0 i1 => (hE.si i i0 i1).1⟩
set_option maxHeartbeats 2000000 in
theorem NBK.be (h : NBK c N M N1 M1 gm ow eo cs K P W E nt b B j ln ne) {e : Int} (e0 : 0 ≤ e) (e1 : e < ne) : BkE c N M (12 * b + e) := by
  have hI := h.1.1
  have ne12 : ne ≤ 12 ∧ 0 ≤ b ∧ b < 10 := ⟨hI.2.2.2.2.2.2.2.2.2.2.1, hI.2.2.2.2.2.2.2.2.2.2.2.1, hI.2.2.2.2.2.2.2.2.2.2.2.2.1⟩
  have B0 : 0 ≤ B := hI.2.2.2.2.2.2.2.2.2.2.2.2.2.1
  obtain ⟨hE, n14, -, ⟨E1, E2, E3, E4, E5, E6⟩, -⟩ := hI.2.2.2.2.2.2.1 e e0 e1
  obtain ⟨z52, z53, z55, z59, z62⟩ := h.2.2.2.2.2.1
  have mm : ∀ k i, k ≠ 0 → k ≠ 35 → k ≠ 36 → k ≠ 32 → k < 52 → M k i = M1 k i := fun k i a1 a2 a3 a4 a5 => h.mm a1 a2 a3 a4 a5
  have m7 : ∀ i, M 7 i = M1 7 i := fun i => mm _ _ (by decide) (by decide) (by decide) (by decide) (by decide)
  have hE' : HE c N M (12 * b + e) := hE.fr (fun L k q => ⟨rfl, h.nb (by unfold hdL at q; unfold bkL; omega) (by unfold hdL at q; omega) (by unfold hdL at q; omega)⟩) (fun L q => ⟨rfl, h.nb (by unfold hiL at q; unfold bkL; omega) (by unfold hiL at q; omega) (by unfold hiL at q; omega)⟩) (fun k k1 k2 => mm _ _ (by omega) (by omega) (by omega) (by omega) (by omega)) m7
  have n14' := hE.nc1
  have n15 := hE.nt1
  have n18 := hE.nw1
  have r14 := mm 14 (12 * b + e) (by decide) (by decide) (by decide) (by decide) (by decide)
  have r15 := mm 15 (12 * b + e) (by decide) (by decide) (by decide) (by decide) (by decide)
  have r18 := mm 18 (12 * b + e) (by decide) (by decide) (by decide) (by decide) (by decide)
  have bod : ∀ L k base a lv, BOD N1 M1 gm ow B (M1 0 40) ln L k base a lv → N L a = N1 L a → M k (base + a) = M1 k (base + a) → (N L a = -1 ↔ M k (base + a) = -1) := fun L k base a lv hb hn hm => by
    rw [hn, hm]
    rcases hb with q | q
    · exact ⟨fun _ => q.2, fun _ => q.1⟩
    · have := q.2.1
      exact ⟨fun y => by omega, fun y => by omega⟩
  refine ⟨Ren.of hE' (by omega) (fun a a0 a1 => bod _ 19 _ a 2 (E6 a a0 a1) (h.nb (by unfold bkL; omega) (by omega) (by omega)) (mm _ _ (by decide) (by decide) (by decide) (by decide) (by decide))) (z53 _ (by omega) (by omega)), fun i i0 i1 => ?_, fun t t0 t1 => ?_, fun s s0 s1 => ?_⟩
  · rw [r14] at i1
    obtain ⟨⟨q1, q2, q3, q4, q5⟩, ⟨q6, q7⟩, q8, q9⟩ := E1 i i0 i1
    have b5 : ∀ k, N (128 * (24 * (12 * b + e) + i) + 5) k = N1 (128 * (24 * (12 * b + e) + i) + 5) k := fun k => h.nb (by unfold bkL; omega) (by omega) (by omega)
    have b6 : ∀ k, N (128 * (24 * (12 * b + e) + i) + 6) k = N1 (128 * (24 * (12 * b + e) + i) + 6) k := fun k => h.nb (by unfold bkL; omega) (by omega) (by omega)
    refine ⟨(b5 _).trans q1, (b5 _).trans q2, (b6 _).trans q3, (b6 _).trans q4, ?_, fun a a0 a1 => bod _ 22 _ a 3 (q9 a a0 a1) (b6 a) (mm _ _ (by decide) (by decide) (by decide) (by decide) (by decide)), ?_⟩
    · rw [b5, mm 20 _ (by decide) (by decide) (by decide) (by decide) (by decide)]; exact q6.m7 m7
    · rw [b5, mm 21 _ (by decide) (by decide) (by decide) (by decide) (by decide)]
      rcases q8 with q | q
      · exact ⟨fun _ => q.2, fun _ => q.1⟩
      · have := q.2.1
        exact ⟨fun y => by omega, fun y => by omega⟩
  · rw [r15] at t1
    obtain ⟨⟨q1, q2, q3, q4, q5, q6, q7, q8⟩, q9, q10, q11⟩ := E2 t t0 t1
    have b9 : ∀ k, N (128 * (4 * (12 * b + e) + t) + 9) k = N1 (128 * (4 * (12 * b + e) + t) + 9) k := fun k => h.nb (by unfold bkL; omega) (by omega) (by omega)
    have b10 : ∀ k, N (128 * (4 * (12 * b + e) + t) + 10) k = N1 (128 * (4 * (12 * b + e) + t) + 10) k := fun k => h.nb (by unfold bkL; omega) (by omega) (by omega)
    have b11 : ∀ k, N (128 * (4 * (12 * b + e) + t) + 11) k = N1 (128 * (4 * (12 * b + e) + t) + 11) k := fun k => h.nb (by unfold bkL; omega) (by omega) (by omega)
    have z := z55 (4 * (12 * b + e) + t) (by omega) (by omega)
    have r24 := mm 24 (4 * (12 * b + e) + t) (by decide) (by decide) (by decide) (by decide) (by decide)
    refine ⟨(b9 _).trans q1, (b9 _).trans q2, (b10 _).trans q3, (b10 _).trans q4, (b9 _).trans q5, (b11 _).trans q6, (b11 _).trans q7, ?_, ?_, ?_, ?_, ?_, ?_, fun k k0 k1 => ?_⟩
    · rw [b9, r24]; exact q10.1
    · rw [r24]; exact q10.2.1
    · rw [r24]; exact q10.2.2
    · rw [b9, z]; exact q8
    · omega
    · rw [z, r24]; exact q10.2.1
    · omega
  · rw [r18] at s1
    obtain ⟨⟨q1, q2, q3, q4, q5, q6, q7⟩, q8, q9, q10, q11⟩ := E5 s s0 s1
    have b17 : ∀ k, N (128 * (3 * (12 * b + e) + s) + 17) k = N1 (128 * (3 * (12 * b + e) + s) + 17) k := fun k => h.nb (by unfold bkL; omega) (by omega) (by omega)
    have b18 : ∀ k, N (128 * (3 * (12 * b + e) + s) + 18) k = N1 (128 * (3 * (12 * b + e) + s) + 18) k := fun k => h.nb (by unfold bkL; omega) (by omega) (by omega)
    have b19 : ∀ k, N (128 * (3 * (12 * b + e) + s) + 19) k = N1 (128 * (3 * (12 * b + e) + s) + 19) k := fun k => h.nb (by unfold bkL; omega) (by omega) (by omega)
    have r30 := mm 30 (3 * (12 * b + e) + s) (by decide) (by decide) (by decide) (by decide) (by decide)
    exact ⟨(b17 _).trans q1, (b17 _).trans q2, (b18 _).trans q3, (b18 _).trans q4, (b17 _).trans q5, (b19 _).trans q6, (b19 _).trans q7, by rw [b17, r30]; exact q9.1, by rw [r30]; exact q9.2.1, by rw [r30]; exact q9.2.2⟩
set_option maxHeartbeats 2000000 in
theorem NBK.bk (h : NBK c N M N1 M1 gm ow eo cs K P W E nt b B j ln ne) : BkR c N M b := by
  have hI := h.1.1
  have ne1 := h.1.2.1
  obtain ⟨c1, c2, c3, c4, c5, ⟨c6, c7⟩, ⟨c8, c9⟩, c10, c11, ⟨c12, c13⟩⟩ := h.1.2.2.1
  obtain ⟨⟨d1, d2, d3, d4⟩, ⟨d5, d6, d7⟩, ⟨d8, d9, d10⟩, ⟨d11, d12, d13⟩⟩ := h.1.2.2.2
  obtain ⟨z52, z53, z55, z59, z62⟩ := h.2.2.2.2.2.1
  have h62 := h.2.2.2.2.2.2
  have tee := fun (e : Int) => h.te (P := P) (e := e)
  have bee := fun (e : Int) => h.be (P := P) (e := e)
  have lck := fun (x : Int) => h.lck (P := P) (x := x)
  have mm : ∀ k i, k ≠ 0 → k ≠ 35 → k ≠ 36 → k ≠ 32 → k < 52 → M k i = M1 k i := fun k i a1 a2 a3 a4 a5 => h.mm a1 a2 a3 a4 a5
  have r10 := mm 10 b (by decide) (by decide) (by decide) (by decide) (by decide)
  have r11 := mm 11 b (by decide) (by decide) (by decide) (by decide) (by decide)
  have x40 : M 0 40 = M1 0 40 := h.2.2.2.1 _ _ (by omega) (by decide) (by decide) (by decide) (by decide) (by decide) (by decide) (by decide) (by decide)
  obtain ⟨ts, ⟨lv, hr⟩, ⟨l0, lj, a0, a1⟩, ⟨w0, f0, b9⟩, tx, ⟨hB, h10⟩, pe, wd, ss, ⟨ne0, ne12, b0, b1, B0, B1⟩⟩ := hI
  have ntb := ts.ntb
  have j1 := ts.j1
  have nB : ∀ L k, (128 * b + 1 ≤ L ∧ L ≤ 128 * b + 2) ∨ (128 * b + 20 ≤ L ∧ L ≤ 128 * b + 26) → ¬ ((L = 128 * b + 21 ∨ L = 128 * b + 22) ∧ 0 ≤ k) → N L k = N1 L k := fun L k q q2 => h.2.1 L k (by unfold bkL; omega) q2
  have l20 : N (128 * b + 20) 2 = ln := (nB _ _ (by omega) (by omega)).trans c10
  refine ⟨⟨?_, fun e e0 e1 => bee e e0 (by omega)⟩, ⟨gmN gm ow B (M1 0 40), fun _ => 0, ⟨by omega, fun x gx => ?_⟩, fun e e0 e1 => tee e e0 (by omega), ?_⟩, fun i i0 i1 => by rw [z52 _ (by omega) (by omega)]; decide⟩
  · unfold Rbk
    rw [l20, r10, r11, z59, z62, h10]
    refine ⟨b0, h62, (nB _ _ (by omega) (by omega)).trans c1, (nB _ _ (by omega) (by omega)).trans c11, (nB _ _ (by omega) (by omega)).trans c12, (nB _ _ (by omega) (by omega)).trans c13, (nB _ _ (by omega) (by omega)).trans (hB.ne.trans h10), ne1, ne12, (nB _ _ (by omega) (by omega)).trans hB.na, hB.na0, hB.na1, (nB _ _ (by omega) (by omega)).trans c2, (nB _ _ (by omega) (by omega)).trans c3, (nB _ _ (by omega) (by omega)).trans c4, (nB _ _ (by omega) (by omega)).trans c5, (nB _ _ (by omega) (by omega)).trans c6, (nB _ _ (by omega) (by omega)).trans c7, (nB _ _ (by omega) (by omega)).trans c8, (nB _ _ (by omega) (by omega)).trans c9, l0, by omega, (nB _ _ (by omega) (by omega)).trans d1, (nB _ _ (by omega) (by omega)).trans d2, (nB _ _ (by omega) (by omega)).trans d3, (nB _ _ (by omega) (by omega)).trans d5, (nB _ _ (by omega) (by omega)).trans d6, (nB _ _ (by omega) (by omega)).trans d7, (nB _ _ (by omega) (by omega)).trans d8, (nB _ _ (by omega) (by omega)).trans d9, (nB _ _ (by omega) (by omega)).trans d10, (nB _ _ (by omega) (by omega)).trans d11, (nB _ _ (by omega) (by omega)).trans d12, (nB _ _ (by omega) (by omega)).trans d13, fun i i0 i1 => by rw [nB _ _ (by omega) (by omega), d4 i i0, z52 _ (by omega) (by omega)], (nB _ _ (by omega) (by omega)).trans hB.z6, by decide, by decide, fun i i0 i1 => by omega, (nB _ _ (by omega) (by omega)).trans hB.z9, by decide, l0, fun i i0 i1 => by omega, fun i i0 i1 => by omega, fun e e0 e1 => (nB _ _ (by omega) (by omega)).trans (hB.ei e e0 (by omega)).1⟩
  · obtain ⟨x0, x1⟩ := gmN_i gx
    obtain ⟨n1, n2, n3, n4⟩ := wd.1 x x0 x1
    unfold LCn
    rw [gmN_k (by decide) (by decide), gmN_k (by decide) (by decide), gmN_k (by decide) (by decide), gmN_k (by decide) (by decide), l20, x40]
    exact ⟨by omega, x1, n1.1.1, n1.1.2.1, n2.2.2, n1.2.1.1, n1.2.1.2, n2.1, n2.2.1, lck x x0 x1⟩
  · refine ⟨fun i i0 i1 => by rw [z52 _ (by omega) (by omega)]; decide, fun i i0 i1 => by rw [z52 _ (by omega) (by omega)]; decide, fun i i0 i1 => z52 _ (by omega) (by omega), ?_, fun e e0 e1 y => ?_, fun e t e0 e1 y => ?_, fun e e0 e1 _ => z53 _ (by omega) (by omega), fun e t e0 e1 _ t0 t1 => ?_, fun e i e0 e1 i0 i1 => ?_, fun e i e0 e1 i0 i1 y => ?_, fun e i e0 e1 i0 i1 y => ?_, fun p y => ?_, fun _ => Or.inl rfl, ?_, fun _ _ _ => rfl⟩
    · rw [z59]
      have := cnt_zero (f := fun i => M 52 (160 * b + i)) (n := 0) 148 (fun i i0 i1 => z52 _ (by omega) (by omega))
      exact this.symm
    · rw [z52 _ (by omega) (by omega)] at y; exact absurd y (by decide)
    · rw [z52 _ (by omega) (by omega)] at y; exact absurd y (by decide)
    · have hE := (pe e e0 (by omega)).1.nt1
      rw [mm 15 _ (by decide) (by decide) (by decide) (by decide) (by decide)] at t1
      exact z55 _ (by omega) (by omega)
    · rw [z53 _ (by omega) (by omega)] at i1; omega
    · obtain ⟨hE, -, -, ⟨E1, -⟩, -⟩ := pe e e0 (by omega)
      have nc1 := hE.nc1
      rw [mm 14 _ (by decide) (by decide) (by decide) (by decide) (by decide)] at i1
      rw [h.nb (by unfold bkL; omega) (by omega) (by omega)]
      exact (E1 i i0 i1).1.2.2.2.2
    · have nh1 := (pe e e0 (by omega)).1.nh1
      rw [mm 17 _ (by decide) (by decide) (by decide) (by decide) (by decide)] at i1
      rw [z52 _ (by omega) (by omega)] at y; exact absurd y (by decide)
    · rw [gmN_5] at y ⊢; exact wd.2.2.2.2.1 p y
    · rw [z62]; exact cnt_nn _
end BKV
