/-! ===== book: the whole relation behind a book call ===== -/
def cbN (b L k : Int) : Prop := bkL b L ∨ (L = 40 ∧ k = 3) ∨ ((L = 41 ∨ L = 42 ∨ L = 43) ∧ 0 ≤ k) ∨ (L = 50 ∧ 3 ≤ k ∧ k ≤ 11) ∨ (L = 51 ∧ 0 ≤ k) ∨ (L = 120 ∧ k = 2) ∨ ((L = 121 ∨ L = 122) ∧ 0 ≤ k) ∨ (L = 60 ∧ (k = 1 ∨ k = 6 ∨ k = 7)) ∨ (L = 62 ∧ k = b)
def cbM (b B k i : Int) : Prop := (k = 0 ∧ (i = 2 ∨ i = 8 ∨ i = 9)) ∨ (k = 7 ∧ 3000 * b ≤ i) ∨ gfM b B k i ∨ (k = 52 ∧ 160 * b ≤ i) ∨ (k = 53 ∧ 12 * b ≤ i) ∨ (k = 55 ∧ 48 * b ≤ i) ∨ ((k = 59 ∨ k = 62) ∧ i = b)
section RNB
variable {c c' : Int → Int} {N M N' M' : Mem} {b : Int}
theorem cb_hi {L k : Int} (h : 30 ≤ L % 128) (h1 : ¬ (40 ≤ L ∧ L ≤ 43)) (h2 : L ≠ 50) (h3 : L ≠ 51) (h4 : ¬ (120 ≤ L ∧ L ≤ 122)) (h5 : ¬ (L = 60 ∧ (k = 1 ∨ k = 6 ∨ k = 7))) (h6 : ¬ (L = 62 ∧ k = b)) : ¬ cbN b L k := fun y => by
  rcases y with y | y | y | y | y | y | y | y | y
  · have := y.1; omega
  all_goals omega
theorem cb_bk {L : Int} (h : 30 ≤ L % 128) : ¬ bkL b L := fun y => by have := y.1; omega
set_option maxHeartbeats 4000000 in
theorem Rel.nbk (h : Rel c N M) (hb : M 0 8 = b) (b0 : 0 ≤ b) (b1 : b < 10) (fc : ∀ L, ¬ bkL b L → c' L = c L) (fn : ∀ L k, ¬ cbN b L k → N' L k = N L k) (fm : ∀ k i, ¬ cbM b (M 0 40) k i → M' k i = M k i) (rd : Rrd c' N' M') (v1 : N' 60 1 = M' 0 2) (m2 : M' 0 2 = 0) (v6 : N' 60 6 = M' 0 8) (b8 : b ≤ M' 0 8) (b9 : M' 0 8 ≤ 10) (v7 : N' 60 7 = M' 0 46) (xe : Xe M') (x40 : M 0 40 ≤ M' 0 40) (x41 : M' 0 40 ≤ 31000) (new : ∀ b', b ≤ b' → b' < M' 0 8 → BkR c' N' M' b') : Rel c' N' M' := by
  have ch : ∀ L, 30 ≤ L % 128 → c' L = c L := fun L q => fc L (cb_bk q)
  have n60 : ∀ k, ¬ (k = 1 ∨ k = 6 ∨ k = 7) → N' 60 k = N 60 k := fun k q => fn _ _ (cb_hi (by decide) (by decide) (by decide) (by decide) (by decide) (by omega) (by omega))
  have nh : ∀ L k, 30 ≤ L % 128 → ¬ (40 ≤ L ∧ L ≤ 43) → L ≠ 50 → L ≠ 51 → ¬ (120 ≤ L ∧ L ≤ 122) → L ≠ 60 → L ≠ 62 → N' L k = N L k := fun L k q1 q2 q3 q4 q5 q6 q7 => fn _ _ (cb_hi q1 q2 q3 q4 q5 (by omega) (by omega))
  have m0 : ∀ i, 48 ≤ i → i ≠ 51 → M' 0 i = M 0 i := fun i q1 q2 => fm _ _ (fun y => by unfold cbM gfM at y; omega)
  have mh : ∀ k i, 63 ≤ k → M' k i = M k i := fun k i q => fm _ _ (fun y => by unfold cbM gfM at y; omega)
  have m10 : ∀ i, i < b → M' 10 i = M 10 i := fun i q => fm _ _ (fun y => by unfold cbM gfM at y; omega)
  have m14 : ∀ i, i < 12 * b → M' 14 i = M 14 i := fun i q => fm _ _ (fun y => by unfold cbM gfM at y; omega)
  refine ⟨?_, ?_, rd, ?_, ?_, ?_, ?_, fun b' b0' b1' => ?_⟩
  · obtain ⟨a1, a2, a3, a4, a5, a6, a7, a8, a9, a10, a11, a12, a13, a14, a15, a16, a17, a18, a19, a20, a21, a22, a23, a24, a25, a26, a27, a28, a29, a30, a31, a32, a33, a34, a35, a36, a37, a38, a39⟩ := h.top
    have e72 := m0 72 (by decide) (by decide)
    have e76 := m0 76 (by decide) (by decide)
    have e81 := m0 81 (by decide) (by decide)
    have e69 := m0 69 (by decide) (by decide)
    unfold Rtop
    rw [e72, e76, e81, e69, v1, v6, v7, m2, ch 61 (by decide), ch 40 (by decide), ch 50 (by decide), ch 30 (by decide), ch 62 (by decide), ch 63 (by decide), ch 64 (by decide), ch 65 (by decide), ch (128 * M 0 81 + 70) (by omega), n60 (-1) (by decide), n60 0 (by decide), n60 2 (by decide), n60 3 (by decide), n60 4 (by decide), n60 5 (by decide), n60 9 (by decide), n60 11 (by decide), n60 13 (by decide), n60 15 (by decide), n60 8 (by decide), n60 10 (by decide), n60 12 (by decide), n60 14 (by decide), nh 61 (-1) (by decide) (by decide) (by decide) (by decide) (by decide) (by decide) (by decide), nh 61 (-2) (by decide) (by decide) (by decide) (by decide) (by decide) (by decide) (by decide), nh 63 (-1) (by decide) (by decide) (by decide) (by decide) (by decide) (by decide) (by decide), nh 63 (-2) (by decide) (by decide) (by decide) (by decide) (by decide) (by decide) (by decide), nh 64 (-1) (by decide) (by decide) (by decide) (by decide) (by decide) (by decide) (by decide), nh 64 (-2) (by decide) (by decide) (by decide) (by decide) (by decide) (by decide) (by decide), nh 65 (-1) (by decide) (by decide) (by decide) (by decide) (by decide) (by decide) (by decide), nh 65 (-2) (by decide) (by decide) (by decide) (by decide) (by decide) (by decide) (by decide)]
    have e62 : ∀ k, k < 0 → N' 62 k = N 62 k := fun k q => fn _ _ (cb_hi (by decide) (by decide) (by decide) (by decide) (by decide) (by omega) (by omega))
    rw [e62 (-1) (by decide), e62 (-2) (by decide)]
    exact ⟨a1, a2, a3, a4, a5, a6, a7, a8, a9, a10, a11, a12, a13, a14, a15, a16, a17, a18, a19, a20, rfl, by decide, by decide, fun i i0 i1 => by omega, fun i i0 i1 => by omega, rfl, by omega, b9, rfl, a30, a31, a32, a33, a34, a35, a36, a37, a38, a39.1, xe⟩
  · obtain ⟨a1, a2, a3, a4, a5, a6, a7, a8, a9, a10, a11, a12, a13, a14, a15, a16, a17, a18⟩ := h.wk
    have nl : ∀ L k, 30 ≤ L → L ≤ 34 → N' L k = N L k := fun L k q1 q2 => nh L k (by omega) (by omega) (by omega) (by omega) (by omega) (by omega) (by omega)
    have e68 := m0 68 (by decide) (by decide)
    unfold Rwk
    rw [e68, ch 31 (by decide), ch 32 (by decide), ch 33 (by decide), ch 34 (by decide), nl 30 (-1) (by decide) (by decide), nl 31 (-1) (by decide) (by decide), nl 31 (-2) (by decide) (by decide), nl 32 (-1) (by decide) (by decide), nl 32 (-2) (by decide) (by decide), nl 33 (-1) (by decide) (by decide), nl 33 (-2) (by decide) (by decide), nl 34 (-1) (by decide) (by decide), nl 34 (-2) (by decide) (by decide), nl 30 2 (by decide) (by decide), nl 30 4 (by decide) (by decide), nl 30 6 (by decide) (by decide), nl 30 7 (by decide) (by decide), nl 30 8 (by decide) (by decide)]
    exact ⟨a1, a2, a3, a4, a5, a6, a7, a8, a9, a10, a11, a12, a13, a14, a15, a16, fun i i0 i1 => by rw [nl 33 i (by decide) (by decide), mh 66 i (by decide)]; exact a17 i i0 i1, fun i i0 i1 => by rw [nl 34 i (by decide) (by decide), mh 67 i (by decide)]; exact a18 i i0 i1⟩
  · rw [m0 72 (by decide) (by decide)]
    intro s s0 s1
    obtain ⟨a0, a1, a2, a3, a4, a5, a6, a7, a8, a9, a10⟩ := h.st s0 s1
    have nl : ∀ k, N' (128 * s + 66) k = N (128 * s + 66) k := fun k => nh _ k (by omega) (by omega) (by omega) (by omega) (by omega) (by omega) (by omega)
    unfold Rst
    rw [nh 63 s (by decide) (by decide) (by decide) (by decide) (by decide) (by decide) (by decide), ch _ (by omega), nl (-1), nl 0, nl 1, nl 2, mh 70 s (by decide), mh 71 s (by decide), m10 _ (by omega)]
    exact ⟨a0, a1, a2, a3, a4, by omega, a6, a7, a8, a9, a10⟩
  · rw [m0 76 (by decide) (by decide)]
    intro s s0 s1
    obtain ⟨a0, a1, a2, a3, a4, a5, a6, a7, a8, a9, a10, a11, a12, a13, a14⟩ := h.mp s0 s1
    have nl : ∀ k, N' (128 * s + 67) k = N (128 * s + 67) k := fun k => nh _ k (by omega) (by omega) (by omega) (by omega) (by omega) (by omega) (by omega)
    have nl8 : ∀ k, N' (128 * s + 68) k = N (128 * s + 68) k := fun k => nh _ k (by omega) (by omega) (by omega) (by omega) (by omega) (by omega) (by omega)
    unfold Rmp
    rw [nh 64 s (by decide) (by decide) (by decide) (by decide) (by decide) (by decide) (by decide), ch (128 * s + 67) (by omega), ch (128 * s + 68) (by omega), nl (-1), nl 0, nl 1, nl 2, nl 3, nl8 (-1), nl8 (-2), mh 73 s (by decide), mh 74 s (by decide), m10 _ (by omega)]
    exact ⟨a0, a1, a2, a3, a4, by omega, a6, a7, a8, a9, a10, a11, a12, a13, fun i i0 i1 q => by rw [nl8, mh 75 _ (by decide)]; exact a14 i i0 i1 q⟩
  · rw [m0 81 (by decide) (by decide)]
    intro n n0 n1
    obtain ⟨a1, a2, a3, a4, a5, a6, a7, a8, a9, a10⟩ := h.dr n0 n1
    have nl : ∀ L k, 128 * n + 70 ≤ L → L ≤ 128 * n + 73 → N' L k = N L k := fun L k q1 q2 => nh _ k (by omega) (by omega) (by omega) (by omega) (by omega) (by omega) (by omega)
    unfold Rdr
    rw [ch (128 * n + 71) (by omega), ch (128 * n + 72) (by omega), ch (128 * n + 73) (by omega), nl (128 * n + 70) (-1) (by omega) (by omega), nl (128 * n + 70) 2 (by omega) (by omega), nl (128 * n + 70) 3 (by omega) (by omega), nl (128 * n + 70) 4 (by omega) (by omega), nl (128 * n + 71) (-1) (by omega) (by omega), nl (128 * n + 71) (-2) (by omega) (by omega), nl (128 * n + 72) (-1) (by omega) (by omega), nl (128 * n + 72) (-2) (by omega) (by omega), nl (128 * n + 73) (-1) (by omega) (by omega), nl (128 * n + 73) (-2) (by omega) (by omega)]
    exact ⟨a1, a2, a3, a4, a5, a6, a7, a8, a9, a10⟩
  · rw [m0 81 (by decide) (by decide)]
    intro n n0 n1
    obtain ⟨a1, a2, a3, a4, a5, a6, a7, a8, a9, a10⟩ := h.ms n0 n1
    have nl : ∀ L k, 128 * n + 70 ≤ L → L ≤ 128 * n + 73 → N' L k = N L k := fun L k q1 q2 => nh _ k (by omega) (by omega) (by omega) (by omega) (by omega) (by omega) (by omega)
    have ne1 := (h.bk a4 a5).1.1.2.2.2.2.2.2.2.2.1
    unfold Rms
    rw [nh 65 n (by decide) (by decide) (by decide) (by decide) (by decide) (by decide) (by decide), ch (128 * n + 70) (by omega), nl (128 * n + 70) 0 (by omega) (by omega), nl (128 * n + 70) 1 (by omega) (by omega), mh 77 n (by decide), mh 78 n (by decide), m10 _ (by omega)]
    refine ⟨a1, a2, a3, a4, by omega, a6, a7, a8, fun i i0 i1 => ?_, fun i i0 i1 => ?_⟩
    · have := a9 i i0 i1
      rw [nl (128 * n + 71) i (by omega) (by omega), nl (128 * n + 72) i (by omega) (by omega), mh 79 _ (by decide), m14 _ (by omega)]
      exact this
    · rw [nl (128 * n + 73) i (by omega) (by omega), mh 80 _ (by decide)]; exact a10 i i0 i1
  · by_cases lt : b' < b
    · refine (h.bk b0' (by omega)).frk b0' lt h.top.xe hb (fun L j q => ⟨fc L (fun y => ?_), fn L j (fun y => ?_)⟩) (fun i i1 => fn _ _ (fun y => ?_)) ⟨fun i q => fm _ _ (fun y => ?_), fun k i q q1 => fm _ _ (fun y => ?_), fun k i q q1 => fm _ _ (fun y => ?_), fun k i q q1 => fm _ _ (fun y => ?_), fun k i q q1 => fm _ _ (fun y => ?_), fun i q1 => fm _ _ (fun y => ?_), fun k i q q1 => fm _ _ (fun y => ?_), fun k i q q1 => fm _ _ (fun y => ?_), fun k i q q1 => fm _ _ (fun y => ?_), fun k i q q1 => fm _ _ (fun y => ?_), fun k i q q1 => fm _ _ (fun y => ?_), fun k i q q1 => fm _ _ (fun y => ?_)⟩ x40 x41
      · unfold bkL at q y; omega
      · have q' := q
        have l1 := q.1
        unfold cbN at y
        rcases y with y | y
        · unfold bkL at q' y; omega
        · omega
      · unfold cbN at y
        rcases y with y | y
        · have := y.1; omega
        · omega
      all_goals (unfold cbM gfM at y; omega)
    · exact new b' (by omega) b1'
end RNB
/-- the text taken over by the reference -/
theorem bk22 {e : Nat} {b len : Int} (b0 : 0 ≤ b) (b1 : b < 10) (l1 : len ≤ 3000) : ∀ (r : Nat) (i : Int) (M : Mem), len - i = r → 0 ≤ i → M 0 2 = len → M 0 9 = b → (∀ t, 0 ≤ t → t < len → wb (M 1 t) = M 1 t) → ∃ M', (∀ Qr : Int → Mem → Prop, PM (e + 1) n_book_22 [len] M' Qr → PM (e + 1) n_book_22 [i] M Qr) ∧ (∀ k j, ¬ (k = 7 ∧ 3000 * b + i ≤ j ∧ j < 3000 * b + len) → M' k j = M k j) ∧ (∀ t, i ≤ t → t < len → M' 7 (3000 * b + t) = M 1 t) := by
  intro r
  induction r with
  | zero =>
    intro i M hr i0 h2 h9 hw
    have : i = len := by omega
    subst this
    exact ⟨M, fun Qr h => h, fun _ _ _ => rfl, fun t a c => by omega⟩
  | succ r ih =>
    intro i M hr i0 h2 h9 hw
    have hwi := hw i i0 (by omega)
    have ne : ∀ k j, ¬ (k = 7 ∧ j = 3000 * b + i) → up M 7 (3000 * b + i) (wb (M 1 i)) k j = M k j := fun k j q => up_ne' q
    obtain ⟨M', a1, a2, a3⟩ := ih (i + 1) (up M 7 (3000 * b + i) (wb (M 1 i))) (by omega) (by omega) ((ne _ _ (by omega)).trans h2) ((ne _ _ (by omega)).trans h9) (fun t t0 t1 => by rw [ne _ _ (by omega)]; exact hw t t0 t1)
    refine ⟨M', fun Qr h => st_book_22 ?_, fun k j q => (a2 k j (by omega)).trans (ne k j (by omega)), fun t t0 t1 => ?_⟩
    · unfold B_book_22
      rw [h2, h9]
      exact ⟨fun y => absurd y (by omega), fun _ => ⟨by omega, by omega, by omega, by omega, i0, by omega, by omega, by omega, by omega, by omega, a1 Qr h⟩⟩
    · by_cases y : t = i
      · rw [y, a2 _ _ (by omega), up_eq]; exact hwi
      · rw [a3 t (by omega) t1]; exact ne _ _ (by omega)
