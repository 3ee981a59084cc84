/-! ===== book: names sought ===== -/
/-- the first of r from i on that is v, or -1 -/
def fdx (f : Int → Int) (v : Int) : Nat → Int → Int
  | 0, _ => -1
  | r + 1, i => if f i = v then i else fdx f v r (i + 1)
theorem fdx_s {f : Int → Int} {v i : Int} {r : Nat} : fdx f v (r + 1) i = if f i = v then i else fdx f v r (i + 1) := rfl
theorem fdx_rng {f : Int → Int} {v : Int} : ∀ (r : Nat) (i : Int), 0 ≤ i → (fdx f v r i = -1 ∧ ∀ k, i ≤ k → k < i + r → f k ≠ v) ∨ (i ≤ fdx f v r i ∧ fdx f v r i < i + r ∧ f (fdx f v r i) = v ∧ ∀ k, i ≤ k → k < fdx f v r i → f k ≠ v) := by
  intro r
  induction r with
  | zero => intro i _; exact Or.inl ⟨rfl, fun k a b => by omega⟩
  | succ r ih =>
    intro i i0
    rw [fdx_s]
    by_cases y : f i = v
    · rw [if_pos y]
      exact Or.inr ⟨by omega, by omega, y, fun k a b => by omega⟩
    · rw [if_neg y]
      have ne : ∀ k, i ≤ k → ¬ (i + 1 ≤ k) → f k ≠ v := fun k a b => by rw [show k = i from by omega]; exact y
      rcases ih (i + 1) (by omega) with ⟨h1, h2⟩ | ⟨h1, h2, h3, h4⟩
      · refine Or.inl ⟨h1, fun k a b => ?_⟩
        by_cases z : i + 1 ≤ k
        · exact h2 k z (by omega)
        · exact ne k a z
      · refine Or.inr ⟨by omega, by omega, h3, fun k a b => ?_⟩
        by_cases z : i + 1 ≤ k
        · exact h4 k z b
        · exact ne k a z
section NMS
variable {d e : Nat} {M : Mem} {Q : Int → Mem → Prop} {va vb na nb : Int}
/-- two names of the reference are alike where the packed ones are -/
theorem NR.same (h : NR M va na) (h2 : NR M vb nb) : va = vb ↔ (na % 16 = nb % 16 ∧ ∀ t, 0 ≤ t → t < na % 16 → M 7 (na / 16 + t) = M 7 (nb / 16 + t)) := by
  obtain ⟨a0, a1, a2, a3, a4, rfl⟩ := h
  obtain ⟨b0, b1, b2, b3, b4, rfl⟩ := h2
  constructor
  · intro e
    obtain ⟨p1, p2⟩ := pkd_inj (f := fun p => rnk (M 7 p)) (g := fun p => rnk (M 7 p)) (p := na / 16) (q := nb / 16) _ _ (fun k x y => ⟨a4 k x (by omega), by have := rnk_le (M 7 (na / 16 + k)); show rnk (M 7 (na / 16 + k)) ≤ 63; omega⟩) (fun k x y => ⟨b4 k x (by omega), by have := rnk_le (M 7 (nb / 16 + k)); show rnk (M 7 (nb / 16 + k)) ≤ 63; omega⟩) e
    exact ⟨by omega, fun t x y => rnk_inj (a4 t x y) (p2 t x (by omega))⟩
  · intro ⟨e1, e2⟩
    rw [e1]
    exact pkd_cg _ (fun k x y => by show rnk (M 7 (na / 16 + k)) = rnk (M 7 (nb / 16 + k)); rw [e2 k x (by omega)])
theorem same_loop (h : NR M va na) (h2 : NR M vb nb) (el : na % 16 = nb % 16) (h1 : va = vb → Q 1 M) (h0 : va ≠ vb → Q 0 M) : ∀ (r : Nat) (t : Int), na % 16 - t = r → 0 ≤ t → (∀ i, 0 ≤ i → i < t → M 7 (na / 16 + i) = M 7 (nb / 16 + i)) → PM (d + 1) n_isSame_18 [na, nb, na % 16, t] M Q := by
  have sm := h.same h2
  have a3 := h.2.2.2.1
  have b3 := h2.2.2.2.1
  have a0 := h.1
  have b0 := h2.1
  have td1 : na.tdiv 16 = na / 16 := Int.tdiv_eq_ediv_of_nonneg a0
  have td2 : nb.tdiv 16 = nb / 16 := Int.tdiv_eq_ediv_of_nonneg b0
  intro r
  induction r with
  | zero =>
    intro t hr t0 hb
    exact st_isSame_18 ⟨fun _ => h1 (sm.2 ⟨el, fun k x y => hb k x (by omega)⟩), fun y => absurd (by omega) y⟩
  | succ r ih =>
    intro t hr t0 hb
    refine st_isSame_18 ⟨fun y => absurd y (by omega), fun _ => ?_⟩
    rw [td1, td2]
    refine ⟨by omega, by omega, by omega, by omega, by omega, by omega, by omega, by omega, fun y => ⟨by omega, by omega, ih (t + 1) (by omega) (by omega) (fun i x z => ?_)⟩, fun y => h0 (fun z => y ((sm.1 z).2 t t0 (by omega)))⟩
    by_cases q : i = t
    · rw [q]; exact y
    · exact hb i x (by omega)
theorem rn_same (h : NR M va na) (h2 : NR M vb nb) (he : 1 ≤ e) : RunM e n_isSame_0 [na, nb] M (if va = vb then 1 else 0) M := by
  obtain ⟨e', rfl⟩ : ∃ e', e = e' + 1 := ⟨e - 1, by omega⟩
  have a0 := h.1
  have b0 := h2.1
  have tm1 : na.tmod 16 = na % 16 := Int.tmod_eq_emod_of_nonneg a0
  have tm2 : nb.tmod 16 = nb % 16 := Int.tmod_eq_emod_of_nonneg b0
  intro Q hq
  refine st_isSame_0 ?_
  unfold B_isSame_0
  rw [tm1, tm2]
  refine ⟨fun el => same_loop h h2 el (fun y => by rw [if_pos y] at hq; exact hq) (fun y => by rw [if_neg y] at hq; exact hq) (na % 16).toNat 0 (by have := h.2.1; omega) (by decide) (fun i a b => by omega), fun y => ?_⟩
  rw [if_neg (fun z => y ((h.same h2).1 z).1)] at hq
  exact hq
end NMS
section NMC
variable {l : Launch} {G : GT} {c : Int → Int} {S : Sh} {V N M : Mem} {Q : Int → Sh → Mem → Prop} {d mc ms : Nat} {g v n : Int}
def tnm (N : Mem) (g t : Int) : Int := N (128 * (4 * g + t) + 9) 0
def snm (N : Mem) (g s : Int) : Int := N (128 * (3 * g + s) + 17) 0
def enm (N : Mem) (b e : Int) : Int := N (128 * (12 * b + e) + 3) 0
theorem ct_fC (hW : Wv c S V = N) (g3 : N (128 * g + 3) (-1) = 4) (f1 : N (128 * g + 3) 4 = n) (f2 : N (128 * g + 3) 3 = c (128 * g + 4)) (t2 : N (128 * g + 4) (-1) = 32) (l2 : N (128 * g + 4) (-2) = 24) (n1 : n ≤ 24) (it : ∀ i, 0 ≤ i → i < n → N (128 * g + 4) i = c (128 * (24 * g + i) + 5) ∧ N (128 * (24 * g + i) + 5) (-1) = 3) (hq : Q (fdx (cnm N g) v n.toNat 0) S V) : Ct l G bX3_findConstant Q d mc ms [vr (c (128 * g + 3)), vl v] S V := by
  obtain ⟨v', tg, ln⟩ := Wr hW
  have lp : ∀ (r : Nat) (i : Int), (n - i).toNat = r → 0 ≤ i → Q (fdx (cnm N g) v r i) S V → XJ l G bX3_findConstant Q d 2 [vr (c (128 * g + 3)), vl v, vu, vi i] [] S V mc ms := by
    intro r
    induction r with
    | zero =>
      intro i hr i0 hq
      refine vX3_findConstant_2 ?_
      rw [v' _ _ (by decide), tg, f1]
      exact ⟨g3, fun _ => hq, fun y => absurd (by omega) y⟩
    | succ r ih =>
      intro i hr i0 hq
      rw [fdx_s] at hq
      obtain ⟨q1, q2⟩ := it i i0 (by omega)
      refine vX3_findConstant_2 ?_
      simp (disch := omega) only [v', tg, ln, f1, f2, q1]
      refine ⟨g3, fun y => absurd y (by omega), fun _ => ⟨t2, i0, by omega, q2, fun y => ⟨by omega, by omega, ih (i + 1) (by omega) (by omega) (by rw [if_neg (show ¬ cnm N g i = v from y)] at hq; exact hq)⟩, fun y => ?_⟩⟩
      rw [if_pos (show cnm N g i = v from Classical.not_not.1 y)] at hq
      exact hq
  exact qX3_findConstant fun _ _ => vX3_findConstant_0 (lp n.toNat 0 (by rw [Int.sub_zero]) (by decide) hq)
theorem ct_fT (hW : Wv c S V = N) (g3 : N (128 * g + 3) (-1) = 4) (f1 : N (128 * g + 3) 8 = n) (f2 : N (128 * g + 3) 7 = c (128 * g + 8)) (t2 : N (128 * g + 8) (-1) = 38) (l2 : N (128 * g + 8) (-2) = 4) (n1 : n ≤ 4) (it : ∀ i, 0 ≤ i → i < n → N (128 * g + 8) i = c (128 * (4 * g + i) + 9) ∧ N (128 * (4 * g + i) + 9) (-1) = 9) (hq : Q (fdx (tnm N g) v n.toNat 0) S V) : Ct l G bX3_findTable Q d mc ms [vr (c (128 * g + 3)), vl v] S V := by
  obtain ⟨v', tg, ln⟩ := Wr hW
  have lp : ∀ (r : Nat) (i : Int), (n - i).toNat = r → 0 ≤ i → Q (fdx (tnm N g) v r i) S V → XJ l G bX3_findTable Q d 2 [vr (c (128 * g + 3)), vl v, vu, vi i] [] S V mc ms := by
    intro r
    induction r with
    | zero =>
      intro i hr i0 hq
      refine vX3_findTable_2 ?_
      rw [v' _ _ (by decide), tg, f1]
      exact ⟨g3, fun _ => hq, fun y => absurd (by omega) y⟩
    | succ r ih =>
      intro i hr i0 hq
      rw [fdx_s] at hq
      obtain ⟨q1, q2⟩ := it i i0 (by omega)
      refine vX3_findTable_2 ?_
      simp (disch := omega) only [v', tg, ln, f1, f2, q1]
      refine ⟨g3, fun y => absurd y (by omega), fun _ => ⟨t2, i0, by omega, q2, fun y => ⟨by omega, by omega, ih (i + 1) (by omega) (by omega) (by rw [if_neg (show ¬ tnm N g i = v from y)] at hq; exact hq)⟩, fun y => ?_⟩⟩
      rw [if_pos (show tnm N g i = v from Classical.not_not.1 y)] at hq
      exact hq
  exact qX3_findTable fun _ _ => vX3_findTable_0 (lp n.toNat 0 (by rw [Int.sub_zero]) (by decide) hq)
theorem ct_fS (hW : Wv c S V = N) (g3 : N (128 * g + 3) (-1) = 4) (f1 : N (128 * g + 3) 16 = n) (f2 : N (128 * g + 3) 15 = c (128 * g + 16)) (t2 : N (128 * g + 16) (-1) = 37) (l2 : N (128 * g + 16) (-2) = 3) (n1 : n ≤ 3) (it : ∀ i, 0 ≤ i → i < n → N (128 * g + 16) i = c (128 * (3 * g + i) + 17) ∧ N (128 * (3 * g + i) + 17) (-1) = 8) (hq : Q (fdx (snm N g) v n.toNat 0) S V) : Ct l G bX3_findSwitch Q d mc ms [vr (c (128 * g + 3)), vl v] S V := by
  obtain ⟨v', tg, ln⟩ := Wr hW
  have lp : ∀ (r : Nat) (i : Int), (n - i).toNat = r → 0 ≤ i → Q (fdx (snm N g) v r i) S V → XJ l G bX3_findSwitch Q d 2 [vr (c (128 * g + 3)), vl v, vu, vi i] [] S V mc ms := by
    intro r
    induction r with
    | zero =>
      intro i hr i0 hq
      refine vX3_findSwitch_2 ?_
      rw [v' _ _ (by decide), tg, f1]
      exact ⟨g3, fun _ => hq, fun y => absurd (by omega) y⟩
    | succ r ih =>
      intro i hr i0 hq
      rw [fdx_s] at hq
      obtain ⟨q1, q2⟩ := it i i0 (by omega)
      refine vX3_findSwitch_2 ?_
      simp (disch := omega) only [v', tg, ln, f1, f2, q1]
      refine ⟨g3, fun y => absurd y (by omega), fun _ => ⟨t2, i0, by omega, q2, fun y => ⟨by omega, by omega, ih (i + 1) (by omega) (by omega) (by rw [if_neg (show ¬ snm N g i = v from y)] at hq; exact hq)⟩, fun y => ?_⟩⟩
      rw [if_pos (show snm N g i = v from Classical.not_not.1 y)] at hq
      exact hq
  exact qX3_findSwitch fun _ _ => vX3_findSwitch_0 (lp n.toNat 0 (by rw [Int.sub_zero]) (by decide) hq)
theorem ct_fH (hW : Wv c S V = N) (g3 : N (128 * g + 3) (-1) = 4) (f1 : N (128 * g + 3) 14 = n) (f2 : N (128 * g + 3) 11 = c (128 * g + 13)) (t2 : N (128 * g + 13) (-1) = 22) (l2 : N (128 * g + 13) (-2) = 4) (n1 : n ≤ 4) (hq : Q (fdx (N (128 * g + 13)) v n.toNat 0) S V) : Ct l G bX3_findHolder Q d mc ms [vr (c (128 * g + 3)), vl v] S V := by
  obtain ⟨v', tg, ln⟩ := Wr hW
  have lp : ∀ (r : Nat) (i : Int), (n - i).toNat = r → 0 ≤ i → Q (fdx (N (128 * g + 13)) v r i) S V → XJ l G bX3_findHolder Q d 2 [vr (c (128 * g + 3)), vl v, vu, vi i] [] S V mc ms := by
    intro r
    induction r with
    | zero =>
      intro i hr i0 hq
      refine vX3_findHolder_2 ?_
      rw [v' _ _ (by decide), tg, f1]
      exact ⟨g3, fun _ => hq, fun y => absurd (by omega) y⟩
    | succ r ih =>
      intro i hr i0 hq
      rw [fdx_s] at hq
      refine vX3_findHolder_2 ?_
      simp (disch := omega) only [v', tg, ln, f1, f2]
      refine ⟨g3, fun y => absurd y (by omega), fun _ => ⟨t2, i0, by omega, fun y => ⟨by omega, by omega, ih (i + 1) (by omega) (by omega) (by rw [if_neg y] at hq; exact hq)⟩, fun y => ?_⟩⟩
      rw [if_pos (Classical.not_not.1 y)] at hq
      exact hq
  exact qX3_findHolder fun _ _ => vX3_findHolder_0 (lp n.toNat 0 (by rw [Int.sub_zero]) (by decide) hq)
theorem ct_fE {b : Int} (hW : Wv c S V = N) (g3 : N (128 * b + 1) (-1) = 1) (f1 : N (128 * b + 1) 1 = n) (f2 : N (128 * b + 1) 0 = c (128 * b + 2)) (t2 : N (128 * b + 2) (-1) = 33) (l2 : N (128 * b + 2) (-2) = 12) (n1 : n ≤ 12) (it : ∀ i, 0 ≤ i → i < n → N (128 * b + 2) i = c (128 * (12 * b + i) + 3) ∧ N (128 * (12 * b + i) + 3) (-1) = 4) (hq : Q (fdx (enm N b) v n.toNat 0) S V) : Ct l G bX0_findEnum Q d mc ms [vr (c (128 * b + 1)), vl v] S V := by
  obtain ⟨v', tg, ln⟩ := Wr hW
  have lp : ∀ (r : Nat) (i : Int), (n - i).toNat = r → 0 ≤ i → Q (fdx (enm N b) v r i) S V → XJ l G bX0_findEnum Q d 2 [vr (c (128 * b + 1)), vl v, vu, vi i] [] S V mc ms := by
    intro r
    induction r with
    | zero =>
      intro i hr i0 hq
      refine vX0_findEnum_2 ?_
      rw [v' _ _ (by decide), tg, f1]
      exact ⟨g3, fun _ => hq, fun y => absurd (by omega) y⟩
    | succ r ih =>
      intro i hr i0 hq
      rw [fdx_s] at hq
      obtain ⟨q1, q2⟩ := it i i0 (by omega)
      refine vX0_findEnum_2 ?_
      simp (disch := omega) only [v', tg, ln, f1, f2, q1]
      refine ⟨g3, fun y => absurd y (by omega), fun _ => ⟨t2, i0, by omega, q2, fun y => ⟨by omega, by omega, ih (i + 1) (by omega) (by omega) (by rw [if_neg (show ¬ enm N b i = v from y)] at hq; exact hq)⟩, fun y => ?_⟩⟩
      rw [if_pos (show enm N b i = v from Classical.not_not.1 y)] at hq
      exact hq
  exact qX0_findEnum fun _ _ => vX0_findEnum_0 (lp n.toNat 0 (by rw [Int.sub_zero]) (by decide) hq)
theorem ct_fA {b : Int} (hW : Wv c S V = N) (q : Rrd c N M) (r3 : N 50 3 = c (128 * b + 1)) (g3 : N (128 * b + 1) (-1) = 1) (f1 : N (128 * b + 1) 2 = n) (n1 : n ≤ 4) (hq : Q (fdx (N 51) v n.toNat 0) S V) : Ct l G bX5_findAct Q d mc ms [vr (c 50), vl v] S V := by
  obtain ⟨v', tg, ln⟩ := Wr hW
  have lp : ∀ (r : Nat) (i : Int), (n - i).toNat = r → 0 ≤ i → Q (fdx (N 51) v r i) S V → XJ l G bX5_findAct Q d 2 [vr (c 50), vl v, vu, vi i] [] S V mc ms := by
    intro r
    induction r with
    | zero =>
      intro i hr i0 hq
      refine vX5_findAct_2 ?_
      simp (disch := omega) only [v', tg, ln, r3, f1, q.g50, g3]
      exact ⟨trivial, trivial, fun _ => hq, fun y => absurd (by omega) y⟩
    | succ r ih =>
      intro i hr i0 hq
      rw [fdx_s] at hq
      refine vX5_findAct_2 ?_
      simp (disch := omega) only [v', tg, ln, r3, f1, q.g50, g3, q.r2, q.g51, q.n51]
      refine ⟨trivial, trivial, fun y => absurd y (by omega), fun _ => ⟨trivial, i0, by omega, fun y => ⟨by omega, by omega, ih (i + 1) (by omega) (by omega) (by rw [if_neg y] at hq; exact hq)⟩, fun y => ?_⟩⟩
      rw [if_pos (Classical.not_not.1 y)] at hq
      exact hq
  exact qX5_findAct fun _ _ => vX5_findAct_0 (lp n.toNat 0 (by rw [Int.sub_zero]) (by decide) hq)
theorem ct_hC {s : Int} (hW : Wv c S V = N) (g3 : N (128 * s + 17) (-1) = 8) (f1 : N (128 * s + 17) 3 = n) (f2 : N (128 * s + 17) 1 = c (128 * s + 18)) (t2 : N (128 * s + 18) (-1) = 22) (l2 : N (128 * s + 18) (-2) = 12) (n1 : n ≤ 12) (hq : Q (if 0 ≤ fdx (N (128 * s + 18)) v n.toNat 0 then 1 else 0) S V) : Ct l G bX7_hasCase Q d mc ms [vr (c (128 * s + 17)), vl v] S V := by
  obtain ⟨v', tg, ln⟩ := Wr hW
  have lp : ∀ (r : Nat) (i : Int), (n - i).toNat = r → 0 ≤ i → Q (if 0 ≤ fdx (N (128 * s + 18)) v r i then 1 else 0) S V → XJ l G bX7_hasCase Q d 2 [vr (c (128 * s + 17)), vl v, vu, vi i] [] S V mc ms := by
    intro r
    induction r with
    | zero =>
      intro i hr i0 hq
      refine vX7_hasCase_2 ?_
      rw [v' _ _ (by decide), tg, f1]
      exact ⟨g3, fun _ => hq, fun y => absurd (by omega) y⟩
    | succ r ih =>
      intro i hr i0 hq
      rw [fdx_s] at hq
      refine vX7_hasCase_2 ?_
      simp (disch := omega) only [v', tg, ln, f1, f2]
      refine ⟨g3, fun y => absurd y (by omega), fun _ => ⟨t2, i0, by omega, fun y => ⟨by omega, by omega, ih (i + 1) (by omega) (by omega) (by rw [if_neg y] at hq; exact hq)⟩, fun y => ?_⟩⟩
      rw [if_pos (Classical.not_not.1 y), if_pos i0] at hq
      exact hq
  exact qX7_hasCase fun _ _ => vX7_hasCase_0 (lp n.toNat 0 (by rw [Int.sub_zero]) (by decide) hq)
end NMC
section NMR
variable {e : Nat} {M : Mem} {f ns : Int → Int} {v nm n : Int}
theorem rn_among {k base : Int} (hk : mt k = 20) (b0 : 0 ≤ base) (bl : base + n ≤ ml k) (bm : ml k ≤ 31000) (h : ∀ i, 0 ≤ i → i < n → NR M (f i) (M k (base + i))) (hv : NR M v nm) (he : 2 ≤ e) : RunM e n_among_0 [k, base, n, nm] M (fdx f v n.toNat 0) M := by
  obtain ⟨e', rfl⟩ : ∃ e', e = e' + 2 := ⟨e - 2, by omega⟩
  intro Q hq
  have lp : ∀ (r : Nat) (i : Int), (n - i).toNat = r → 0 ≤ i → Q (fdx f v r i) M → PM (e' + 2) n_among_3 [k, base, n, nm, i] M Q := by
    intro r
    induction r with
    | zero =>
      intro i hr i0 hq
      exact st_among_3 ⟨fun _ => hq, fun y => absurd (by omega) y⟩
    | succ r ih =>
      intro i hr i0 hq
      rw [fdx_s] at hq
      refine st_among_3 ⟨fun y => absurd y (by omega), fun _ => ⟨by omega, by omega, hk, by omega, by omega, rn_same (h i i0 (by omega)) hv (by omega) _ ?_⟩⟩
      by_cases y : f i = v
      · rw [if_pos y] at hq ⊢
        exact ⟨fun z => absurd z (by decide), fun _ => hq⟩
      · rw [if_neg y] at hq ⊢
        exact ⟨fun _ => ⟨by omega, by omega, ih (i + 1) (by omega) (by omega) hq⟩, fun z => absurd rfl z⟩
  exact st_among_0 (lp n.toNat 0 (by rw [Int.sub_zero]) (by decide) hq)
theorem rn_enumOf {b : Int} (h9 : M 0 9 = b) (b0 : 0 ≤ b) (b1 : b < 10) (n1 : M 10 b ≤ 12) (h : ∀ i, 0 ≤ i → i < M 10 b → NR M (f i) (M 13 (12 * b + i))) (hv : NR M v nm) (he : 2 ≤ e) : RunM e n_enumOf_0 [nm] M (fdx f v (M 10 b).toNat 0) M := by
  obtain ⟨e', rfl⟩ : ∃ e', e = e' + 2 := ⟨e - 2, by omega⟩
  intro Q hq
  have lp : ∀ (r : Nat) (i : Int), (M 10 b - i).toNat = r → 0 ≤ i → Q (fdx f v r i) M → PM (e' + 2) n_enumOf_2 [nm, i] M Q := by
    intro r
    induction r with
    | zero =>
      intro i hr i0 hq
      refine st_enumOf_2 ?_
      unfold B_enumOf_2
      rw [h9]
      exact ⟨b0, b1, fun _ => hq, fun y => absurd (by omega) y⟩
    | succ r ih =>
      intro i hr i0 hq
      rw [fdx_s] at hq
      refine st_enumOf_2 ?_
      unfold B_enumOf_2
      rw [h9]
      refine ⟨b0, b1, fun y => absurd y (by omega), fun _ => ⟨by omega, by omega, by omega, by omega, by omega, by omega, rn_same hv (h i i0 (by omega)) (by omega) _ ?_⟩⟩
      by_cases y : f i = v
      · rw [if_pos y] at hq
        rw [if_pos y.symm]
        exact ⟨fun z => absurd z (by decide), fun _ => hq⟩
      · rw [if_neg y] at hq
        rw [if_neg (fun z => y z.symm)]
        exact ⟨fun _ => ⟨by omega, by omega, ih (i + 1) (by omega) (by omega) hq⟩, fun z => absurd rfl z⟩
  exact st_enumOf_0 (lp (M 10 b).toNat 0 (by rw [Int.sub_zero]) (by decide) hq)
end NMR
