/-! ===== evaluation: more contracts ===== -/
theorem EvF.of {b : Int} {N M N' M' : Mem} (h1 : ∀ L j, ¬ (30 ≤ L ∧ L ≤ 34) → ¬ bkL b L → N' L j = N L j) (h2 : ∀ k j, ¬ dM b k j → M' k j = M k j) (h3 : ∀ j, N' (128 * b + 21) j = N (128 * b + 21) j) : EvF b N M N' M' := ⟨h1, h2, h3⟩
theorem EvS.rf {c : Int → Int} {b lo hi : Int} {N M gm : Mem} {U : Int → Int} (h : EvI c N M gm U b) : EvS c b gm lo hi N M U N M U := ⟨h, EvF.rf, rfl, Lx.rf, fun p q => absurd rfl q, fun _ _ _ _ => rfl⟩
theorem EvS.wid {c : Int → Int} {b lo hi a e : Int} {N M N' M' gm : Mem} {U U' : Int → Int} (h : EvS c b gm a e N M U N' M' U') (q : ∀ p, a ≤ p → p < e → lo ≤ p ∧ p < hi) : EvS c b gm lo hi N M U N' M' U' := ⟨h.1, h.2.1, h.2.2.1, h.2.2.2.1, fun p z => (h.2.2.2.2.1 p z).elim (fun y => Or.inl ⟨(q p y.1 y.2.1).1, (q p y.1 y.2.1).2, y.2.2⟩) Or.inr, h.2.2.2.2.2⟩
theorem EvS.push {c : Int → Int} {b lo hi x : Int} {N M gm : Mem} {U : Int → Int} (h : EvI c N M gm U b) (t : N 30 3 < 1000) : EvS c b gm lo hi N M U (up (up N 31 (N 30 3) x) 30 3 (N 30 3 + 1)) M U :=
  ⟨h.push t, ⟨fun L j a _ => (up_ne (by omega)).trans (up_ne (by omega)), fun _ _ _ => rfl, fun j => (up_ne (by omega)).trans (up_ne (by omega))⟩, rfl, Lx.rf, fun p q => absurd rfl q, fun _ j j0 j1 => (up_ne (by omega)).trans (up_ne (by omega))⟩
theorem EvS.top {c : Int → Int} {b lo hi t : Int} {N M gm : Mem} {U : Int → Int} (h : EvI c N M gm U b) (t0 : 0 ≤ t) (t1 : t ≤ 1000) : EvS c b gm lo hi N M U (up N 30 3 t) M U :=
  ⟨h.top t0 t1, ⟨fun L j a _ => up_ne (by omega), fun _ _ _ => rfl, fun j => up_ne (by omega)⟩, rfl, Lx.rf, fun p q => absurd rfl q, fun _ j j0 j1 => up_ne (by omega)⟩
theorem EvS.fail {c : Int → Int} {b lo hi x y : Int} {N M gm : Mem} {U : Int → Int} (h : EvI c N M gm U b) : EvS c b gm lo hi N M U (nFail N x y) (mFail M x y) U :=
  ⟨h.fail, ⟨fun L j a _ => nFail_ne (by omega) (by omega) (by omega), fun k j hk => by unfold dM at hk; exact mFail_ne (by omega) (by omega) (by omega), fun j => nFail_ne (by omega) (by omega) (by omega)⟩, mFail_ne (by omega) (by omega) (by omega), Lx.of (fun i _ _ _ => mFail_ne (by omega) (by omega) (by omega)) (fun i _ _ _ => ⟨mFail_ne (by omega) (by omega) (by omega), fun _ _ _ => mFail_ne (by omega) (by omega) (by omega), fun _ _ _ => mFail_ne (by omega) (by omega) (by omega), fun _ _ _ => mFail_ne (by omega) (by omega) (by omega)⟩) (fun i _ _ _ => mFail_ne (by omega) (by omega) (by omega)), fun p q => absurd rfl q, fun q => absurd (mFail_65.symm.trans q) (by decide)⟩
theorem EvS.see {c : Int → Int} {b p y x : Int} {N M gm : Mem} {U : Int → Int} (h : EvI c N M gm U b) (p0 : 0 ≤ p) (p1 : p < N (128 * b + 20) 2) (u : U p = 0) (hs : M 52 (160 * b + gm 5 p / 1000) ≠ 0) (g5 : 0 ≤ gm 5 p) : EvS c b gm p (p + 1) N M U (nSee N b (M 62 b) y x) (mSee M b (M 62 b) y x) (fun q => if q = p then 1 else U q) := by
  have s0 := h.bh.bk.nz0
  have b0 := h.b0
  have cl := h.bh.bk.cl1
  have k := h.see (y := y) (x := x) p0 p1 u hs
  have k1 := k.1
  refine ⟨k.2, ⟨fun L j a e => ?_, fun k j hk => ?_, fun j => nSee_ne (by omega)⟩, mSee_ne (by omega), Lx.of (fun i _ _ _ => mSee_ne (by omega)) (fun i _ _ _ => ⟨mSee_ne (by omega), fun _ _ _ => mSee_ne (by omega), fun _ _ _ => mSee_ne (by omega), fun _ _ _ => mSee_ne (by omega)⟩) (fun i _ _ _ => mSee_ne (by omega)), fun q hq => ?_, fun _ j _ _ => nSee_ne (by omega)⟩
  · unfold bkL at e
    exact nSee_ne (by omega)
  · unfold dM at hk
    exact mSee_ne (by omega)
  · by_cases z : q = p
    · subst z
      exact Or.inl ⟨by omega, by omega, g5⟩
    · simp [z] at hq
section EV2
variable {l : Launch} {G : GT} {Q : Int → Sh → Mem → Prop} {c : Int → Int} {S : Sh} {V N M gm : Mem} {U : Int → Int} {b : Int} {d mc ms : Nat}
theorem ct_noteSeen {x y : Int} (E : EvI c N M gm U b) (hc : Cn c S) (hW : Wv c S V = N) (s1 : M 62 b < N (128 * b + 20) 2) (h : ∀ V', Wv c S V' = nSee N b (M 62 b) x y → Q 0 S V') : Ct l G bX0_noteSeen Q d mc ms [vr (c (128 * b + 1)), vi x, vi y] S V := qX0_noteSeen fun _ _ _ => vX0_noteSeen_0 <| by
  obtain ⟨v, tg, ln⟩ := Wr hW
  have k := E.bh.bk
  have s0 := k.nz0
  have cl := k.cl1
  simp (disch := omega) only [v, tg, ln, k.g1, k.r7, k.g25, k.n25, k.r8, k.g26, k.n26, k.nz]
  refine ⟨trivial, trivial, fun q => absurd q (by omega), fun _ => ⟨s0, s1, trivial, s1, by omega, by omega, h _ ?_⟩⟩
  rw [Wv_up hc (by decide), Wv_up hc s0, Wv_up hc s0, hW]
  rfl
theorem ct_see {x y : Int} (E : EvI c N M gm U b) (hc : Cn c S) (hW : Wv c S V = N) (hd : 1 ≤ d) (dp : M 0 64 ≠ 0) (s1 : M 62 b < N (128 * b + 20) 2) (h : ∀ V', Wv c S V' = nSee N b (M 62 b) (M 63 (M 0 64 - 1)) x → Q y S V') : Ct l G bX10_see Q d mc ms [vr (c 30), vi x, vi y] S V := qX10_see fun _ _ _ => vX10_see_0 <| by
  obtain ⟨v, tg, ln⟩ := Wr hW
  have k := E.wk
  have d0 := E.dp0
  have d1 := E.dp1
  have q := E.bh.bk.g1
  simp (disch := omega) only [v, tg, ln, k.g30, k.r4, k.g32, k.n32, E.dp, E.wb, q]
  refine ⟨trivial, fun z => absurd z (by omega), fun _ => ⟨by omega, by omega, trivial, by omega, by omega, trivial, CT.im hd (fun d1 _ => ?_)⟩⟩
  rw [E.uw _ (by omega) (by omega)]
  exact ct_noteSeen E hc hW s1 h
theorem ct_failAround {x : Int} (E : EvI c N M gm U b) (hc : Cn c S) (hW : Wv c S V = N) (s1 : M 0 68 < 13) (h : ∀ V', Wv c S V' = nAro N (M 0 68) x → Q 0 S V') : Ct l G bX10_failAround Q d mc ms [vr (c 30), vi x] S V := qX10_failAround fun _ _ => vX10_failAround_0 <| by
  obtain ⟨v, tg, ln⟩ := Wr hW
  have k := E.wk
  have s0 := k.cc0
  simp (disch := omega) only [v, tg, ln, k.g30, k.r6, k.g33, k.n33, k.r7, k.g34, k.n34, k.cc]
  refine ⟨trivial, trivial, fun q => absurd q (by omega), fun _ => ⟨s0, s1, trivial, s1, by omega, by omega, h _ ?_⟩⟩
  rw [Wv_up hc (by decide), Wv_up hc s0, Wv_up hc s0, hW]
  rfl
theorem ct_tableAt {g i : Int} (hE : BkE c N M g) (hW : Wv c S V = N) (h1 : 0 ≤ i → i < M 15 g → Q (c (128 * (4 * g + i) + 9)) S V) (h2 : ¬ (0 ≤ i ∧ i < M 15 g) → Q 0 S V) : Ct l G bX3_tableAt Q d mc ms [vr (c (128 * g + 3)), vi i] S V :=
  qX3_tableAt fun _ _ => vX3_tableAt_0 <| by
    obtain ⟨v, tg, ln⟩ := Wr hW
    have t := hE.en
    have e1 := t.nt1
    simp (disch := omega) only [v, tg, ln, t.nt, t.r7, t.g3, t.g8, t.n8]
    refine ⟨fun _ => h2 (by omega), fun _ => ⟨trivial, fun _ => ⟨trivial, by omega, by omega, ?_⟩, fun _ => h2 (by omega)⟩⟩
    rw [v _ _ (by omega), t.rt i (by omega) (by omega)]
    exact h1 (by omega) (by omega)
theorem ct_argumentOf {g i : Int} (hc : Cn c S) (hE : BkE c N M g) (hW : Wv c S V = N) (hd : 1 ≤ d) (i0 : 0 ≤ i) (i1 : i < M 14 g) (h : Q (N (128 * (24 * g + i) + 5) 2) S V) : Ct l G bX10_argumentOf Q d mc ms [vr (c (128 * g + 3)), vi i] S V :=
  qX10_argumentOf fun _ _ => vX10_argumentOf_0 <| by
    obtain ⟨v, tg, ln⟩ := Wr hW
    refine ⟨by rw [tg]; exact hE.en.g3, CT.pu hd (fun d1 _ => ?_)⟩
    refine ct_constantAt (hW ▸ hE) (fun _ _ => ⟨rfl, rfl, fun _ => ⟨by rw [tg]; exact (hE.cn i0 i1).g5, ?_⟩, fun z => absurd (hc.2 _).1 z⟩) (fun z => absurd ⟨i0, i1⟩ z)
    rw [v _ _ (by decide)]
    exact h
end EV2
section RF
variable {d : Nat} {M : Mem} {Q : Int → Mem → Prop}
theorem pm_failing {x y : Int} (hq : Q 0 (mFail M x y)) : PM (d + 1) n_failing_0 [x, y] M Q := st_failing_0 ⟨by decide, by decide, hq⟩
theorem pm_isTwo {x : Int} (h1 : 2 ≤ x → x ≤ 5 → Q 1 M) (h2 : ¬ (2 ≤ x ∧ x ≤ 5) → Q 0 M) : PM (d + 1) n_isTwo_0 [x] M Q := st_isTwo_0 ⟨fun _ => h2 (by omega), fun _ => ⟨fun _ => h2 (by omega), fun _ => h1 (by omega) (by omega)⟩⟩
theorem pm_sees {b x y : Int} (hb : M 0 9 = b) (b0 : 0 ≤ b) (b1 : b < 10) (s0 : 0 ≤ M 62 b) (s1 : M 62 b < 3000) (d0 : M 0 64 ≠ 0) (d1 : 0 ≤ M 0 64) (d2 : M 0 64 ≤ 12) (hq : Q y (mSee M b (M 62 b) (M 63 (M 0 64 - 1)) x)) : PM (d + 1) n_sees_0 [x, y] M Q := by
  refine st_sees_0 ?_
  unfold B_sees_0
  rw [hb]
  exact ⟨by omega, by omega, by omega, by omega, by omega, by omega, fun _ => ⟨by omega, by omega, by omega, by omega, by omega, by omega, by omega, by omega, hq⟩, fun z => absurd d0 z⟩
theorem pm_val_f {x y z : Int} (h : M 0 65 ≠ 0) (hq : Q 0 M) : PM (d + 1) n_value_0 [x, y, z] M Q := st_value_0 ⟨fun e => absurd e h, fun _ => hq⟩
theorem wr_tdiv1 {z : Int} : wr (z.tdiv (-1)) = wr (-z) := by rw [Int.tdiv_neg, Int.tdiv_one]
theorem pm_joined_f {x y z : Int} (h : M 0 65 ≠ 0) (hq : Q 0 M) : PM (d + 1) n_joined_0 [x, y, z] M Q := st_joined_0 ⟨fun e => absurd e h, fun _ => hq⟩
def jnd (k x y : Int) : Int := if k = 2 then wr (x + y) else if k = 3 then wr (x - y) else if k = 4 then wr (x * y) else wr (x.tdiv y)
theorem pm_joined {k x y : Int} (h : M 0 65 = 0) (h1 : ¬ (k ≠ 2 ∧ k ≠ 3 ∧ k ≠ 4 ∧ y = 0) → Q (jnd k x y) M) (h2 : k ≠ 2 ∧ k ≠ 3 ∧ k ≠ 4 ∧ y = 0 → Q 0 (mFail M 4 (-1))) : PM (d + 2) n_joined_0 [k, x, y] M Q := by
  refine st_joined_0 ⟨fun _ => ?_, fun e => absurd h e⟩
  refine ⟨fun e => ?_, fun a => ⟨fun e => ?_, fun a2 => ⟨fun e => ?_, fun a3 => ⟨fun e => ⟨fun e2 => ⟨e, ?_⟩, fun e2 => ?_⟩, fun e => pm_failing (h2 (by omega))⟩⟩⟩⟩
  · have := h1 (by omega)
    unfold jnd at this
    rwa [if_pos e] at this
  · have := h1 (by omega)
    unfold jnd at this
    rwa [if_neg a, if_pos e] at this
  · have := h1 (by omega)
    unfold jnd at this
    rwa [if_neg a, if_neg a2, if_pos e] at this
  · have := h1 (by omega)
    unfold jnd at this
    rwa [if_neg a, if_neg a2, if_neg a3] at this
  · have := h1 (by omega)
    have e3 : y = -1 := by omega
    unfold jnd at this
    rw [if_neg a, if_neg a2, if_neg a3, e3, wr_tdiv1] at this
    exact this
theorem pm_val0 {x y z : Int} (h0 : M 0 65 = 0) (x0 : 0 ≤ x) (x1 : x < 31000) (hk : M 35 x = 0) (hq : Q (M 36 x) M) : PM (d + 1) n_value_0 [x, y, z] M Q := by
  refine st_value_0 ⟨fun _ => ⟨x0, x1, ?_⟩, fun e => absurd h0 e⟩
  rw [hk]
  exact ⟨fun _ => hq, fun e => absurd rfl e⟩
theorem pm_val1 {x y z : Int} (h0 : M 0 65 = 0) (x0 : 0 ≤ x) (x1 : x < 31000) (hk : M 35 x = 1) (hq : PM d n_value_0 [M 36 x, y, z] M (fun v M4 => Q (wr (-v)) M4)) : PM (d + 1) n_value_0 [x, y, z] M Q := by
  refine st_value_0 ⟨fun _ => ⟨x0, x1, ?_⟩, fun e => absurd h0 e⟩
  rw [hk]
  exact ⟨fun e => absurd e (by decide), fun _ => ⟨fun _ => hq, fun e => absurd rfl e⟩⟩
theorem pm_val2 {x y z : Int} (h0 : M 0 65 = 0) (x0 : 0 ≤ x) (x1 : x < 31000) (hk : M 35 x = 2) (hq : PM d n_both_0 [x, y, z] M Q) : PM (d + 1) n_value_0 [x, y, z] M Q := by
  refine st_value_0 ⟨fun _ => ⟨x0, x1, ?_⟩, fun e => absurd h0 e⟩
  rw [hk]
  exact ⟨fun e => absurd e (by decide), fun _ => ⟨fun e => absurd e (by decide), fun _ => ⟨fun _ => hq, fun e => absurd rfl e⟩⟩⟩
theorem pm_val3 {x y z : Int} (h0 : M 0 65 = 0) (x0 : 0 ≤ x) (x1 : x < 31000) (hk : M 35 x = 3) (hq : PM d n_both_0 [x, y, z] M Q) : PM (d + 1) n_value_0 [x, y, z] M Q := by
  refine st_value_0 ⟨fun _ => ⟨x0, x1, ?_⟩, fun e => absurd h0 e⟩
  rw [hk]
  exact ⟨fun e => absurd e (by decide), fun _ => ⟨fun e => absurd e (by decide), fun _ => ⟨fun e => absurd e (by decide), fun _ => ⟨fun _ => hq, fun e => absurd rfl e⟩⟩⟩⟩
theorem pm_val4 {x y z : Int} (h0 : M 0 65 = 0) (x0 : 0 ≤ x) (x1 : x < 31000) (hk : M 35 x = 4) (hq : PM d n_both_0 [x, y, z] M Q) : PM (d + 1) n_value_0 [x, y, z] M Q := by
  refine st_value_0 ⟨fun _ => ⟨x0, x1, ?_⟩, fun e => absurd h0 e⟩
  rw [hk]
  exact ⟨fun e => absurd e (by decide), fun _ => ⟨fun e => absurd e (by decide), fun _ => ⟨fun e => absurd e (by decide), fun _ => ⟨fun e => absurd e (by decide), fun _ => ⟨fun _ => hq, fun e => absurd rfl e⟩⟩⟩⟩⟩
theorem pm_val5 {x y z : Int} (h0 : M 0 65 = 0) (x0 : 0 ≤ x) (x1 : x < 31000) (hk : M 35 x = 5) (hq : PM d n_both_0 [x, y, z] M Q) : PM (d + 1) n_value_0 [x, y, z] M Q := by
  refine st_value_0 ⟨fun _ => ⟨x0, x1, ?_⟩, fun e => absurd h0 e⟩
  rw [hk]
  exact ⟨fun e => absurd e (by decide), fun _ => ⟨fun e => absurd e (by decide), fun _ => ⟨fun e => absurd e (by decide), fun _ => ⟨fun e => absurd e (by decide), fun _ => ⟨fun e => absurd e (by decide), fun _ => ⟨fun _ => hq, fun e => absurd rfl e⟩⟩⟩⟩⟩⟩
theorem pm_val6 {x y z : Int} (h0 : M 0 65 = 0) (x0 : 0 ≤ x) (x1 : x < 31000) (hk : M 35 x = 6) (y0 : 0 ≤ y) (y1 : y < 2880) (hq : Q (M 54 y) M) : PM (d + 1) n_value_0 [x, y, z] M Q := by
  refine st_value_0 ⟨fun _ => ⟨x0, x1, ?_⟩, fun e => absurd h0 e⟩
  rw [hk]
  exact ⟨fun e => absurd e (by decide), fun _ => ⟨fun e => absurd e (by decide), fun _ => ⟨fun e => absurd e (by decide), fun _ => ⟨fun e => absurd e (by decide), fun _ => ⟨fun e => absurd e (by decide), fun _ => ⟨fun e => absurd e (by decide), fun _ => ⟨fun _ => ⟨y0, y1, hq⟩, fun e => absurd rfl e⟩⟩⟩⟩⟩⟩⟩
theorem pm_val7 {x y z : Int} (h0 : M 0 65 = 0) (x0 : 0 ≤ x) (x1 : x < 31000) (hk : M 35 x = 7) (hq : Q (y.tmod 24) M) : PM (d + 1) n_value_0 [x, y, z] M Q := by
  refine st_value_0 ⟨fun _ => ⟨x0, x1, ?_⟩, fun e => absurd h0 e⟩
  rw [hk]
  exact ⟨fun e => absurd e (by decide), fun _ => ⟨fun e => absurd e (by decide), fun _ => ⟨fun e => absurd e (by decide), fun _ => ⟨fun e => absurd e (by decide), fun _ => ⟨fun e => absurd e (by decide), fun _ => ⟨fun e => absurd e (by decide), fun _ => ⟨fun e => absurd e (by decide), fun _ => ⟨fun _ => hq, fun e => absurd rfl e⟩⟩⟩⟩⟩⟩⟩⟩
theorem pm_val9 {x y z : Int} (h0 : M 0 65 = 0) (x0 : 0 ≤ x) (x1 : x < 31000) (hk : M 35 x = 9) (y0 : 0 ≤ M 39 x) (y1 : M 39 x < 120) (hq : Q (M 14 (M 39 x)) M) : PM (d + 1) n_value_0 [x, y, z] M Q := by
  refine st_value_0 ⟨fun _ => ⟨x0, x1, ?_⟩, fun e => absurd h0 e⟩
  rw [hk]
  exact ⟨fun e => absurd e (by decide), fun _ => ⟨fun e => absurd e (by decide), fun _ => ⟨fun e => absurd e (by decide), fun _ => ⟨fun e => absurd e (by decide), fun _ => ⟨fun e => absurd e (by decide), fun _ => ⟨fun e => absurd e (by decide), fun _ => ⟨fun e => absurd e (by decide), fun _ => ⟨fun e => absurd e (by decide), fun _ => ⟨fun e => absurd e (by decide), fun _ => ⟨fun _ => ⟨y0, y1, hq⟩, fun e => absurd rfl e⟩⟩⟩⟩⟩⟩⟩⟩⟩⟩
theorem pm_val12 {x y z : Int} (h0 : M 0 65 = 0) (x0 : 0 ≤ x) (x1 : x < 31000) (hk : M 35 x = 12) (hq : PM d n_entryOf_0 [x, y, z] M Q) : PM (d + 1) n_value_0 [x, y, z] M Q := by
  refine st_value_0 ⟨fun _ => ⟨x0, x1, ?_⟩, fun e => absurd h0 e⟩
  rw [hk]
  exact ⟨fun e => absurd e (by decide), fun _ => ⟨fun e => absurd e (by decide), fun _ => ⟨fun e => absurd e (by decide), fun _ => ⟨fun e => absurd e (by decide), fun _ => ⟨fun e => absurd e (by decide), fun _ => ⟨fun e => absurd e (by decide), fun _ => ⟨fun e => absurd e (by decide), fun _ => ⟨fun e => absurd e (by decide), fun _ => ⟨fun e => absurd e (by decide), fun _ => ⟨fun e => absurd e (by decide), fun _ => ⟨fun e => absurd e (by decide), fun _ => ⟨fun e => absurd e (by decide), fun _ => ⟨fun _ => hq, fun e => absurd rfl e⟩⟩⟩⟩⟩⟩⟩⟩⟩⟩⟩⟩⟩
theorem pm_val25 {x y z : Int} (h0 : M 0 65 = 0) (x0 : 0 ≤ x) (x1 : x < 31000) (k0 : 2 ≤ M 35 x) (k1 : M 35 x ≤ 5) (hq : PM d n_both_0 [x, y, z] M Q) : PM (d + 1) n_value_0 [x, y, z] M Q := by
  have : M 35 x = 2 ∨ M 35 x = 3 ∨ M 35 x = 4 ∨ M 35 x = 5 := by omega
  rcases this with h | h | h | h
  · exact pm_val2 h0 x0 x1 h hq
  · exact pm_val3 h0 x0 x1 h hq
  · exact pm_val4 h0 x0 x1 h hq
  · exact pm_val5 h0 x0 x1 h hq
theorem pm_val10 {x y z g i : Int} (h0 : M 0 65 = 0) (x0 : 0 ≤ x) (x1 : x < 31000) (hk : M 35 x = 10) (ha : M 36 x = 24 * g + i) (g0 : 0 ≤ g) (g1 : g < 120) (i0 : 0 ≤ i) (i1 : i < 24) (hq : PM d n_use_0 [g % 12] M (fun _ M1 => (M1 0 65 = 0 → (M1 53 g ≤ i → PM d n_sees_0 [g % 12, -1] M1 Q) ∧ (¬ M1 53 g ≤ i → Q i M1)) ∧ (¬ M1 0 65 = 0 → Q 0 M1))) : PM (d + 1) n_value_0 [x, y, z] M Q := by
  refine st_value_0 ⟨fun _ => ⟨x0, x1, ?_⟩, fun e => absurd h0 e⟩
  have a1 : (M 36 x).tdiv 24 = g := by rw [ha, Int.tdiv_eq_ediv_of_nonneg (by omega)]; omega
  have a2 : (M 36 x).tmod 24 = i := by rw [ha, Int.tmod_eq_emod_of_nonneg (by omega)]; omega
  have a3 : g.tmod 12 = g % 12 := Int.tmod_eq_emod_of_nonneg g0
  rw [hk, a1, a2, a3]
  have hq' : PM d n_use_0 [g % 12] M (fun _ M1 => (M1 0 65 = 0 → 0 ≤ g ∧ g < 120 ∧ (M1 53 g ≤ i → PM d n_sees_0 [g % 12, -1] M1 Q) ∧ (¬ M1 53 g ≤ i → Q i M1)) ∧ (¬ M1 0 65 = 0 → Q 0 M1)) := by
    simp only [g0, g1, true_and]
    exact hq
  exact ⟨fun e => absurd e (by decide), fun _ => ⟨fun e => absurd e (by decide), fun _ => ⟨fun e => absurd e (by decide), fun _ => ⟨fun e => absurd e (by decide), fun _ => ⟨fun e => absurd e (by decide), fun _ => ⟨fun e => absurd e (by decide), fun _ => ⟨fun e => absurd e (by decide), fun _ => ⟨fun e => absurd e (by decide), fun _ => ⟨fun e => absurd e (by decide), fun _ => ⟨fun e => absurd e (by decide), fun _ => ⟨fun _ => hq', fun e => absurd rfl e⟩⟩⟩⟩⟩⟩⟩⟩⟩⟩⟩
theorem pm_val11 {M1 : Mem} {x y z b e i : Int} (h0 : M 0 65 = 0) (x0 : 0 ≤ x) (x1 : x < 31000) (hk : M 35 x = 11) (ha : M 36 x = 4 * (12 * b + e) + i) (hb : 0 ≤ b) (b1 : b < 10) (e0 : 0 ≤ e) (e1 : e < 12) (i0 : 0 ≤ i) (i1 : i < 4) (hr : RunM d n_use_0 [100 + 4 * e + i] M 0 M1) (nw : M1 0 9 = b) (h1 : M1 0 65 = 0 → M1 52 (160 * b + (100 + 4 * e + i)) ≠ 3 → Q (M1 57 (4 * (12 * b + e) + i)) M1) (h2 : M1 0 65 = 0 → M1 52 (160 * b + (100 + 4 * e + i)) = 3 → PM d n_sees_0 [100 + 4 * e + i, 0] M1 Q) (h3 : M1 0 65 ≠ 0 → Q 0 M1) : PM (d + 1) n_value_0 [x, y, z] M Q := by
  refine st_value_0 ⟨fun _ => ⟨x0, x1, ?_⟩, fun e => absurd h0 e⟩
  have a1 : 100 + (M 36 x).tmod 48 = 100 + 4 * e + i := by rw [ha, Int.tmod_eq_emod_of_nonneg (by omega)]; omega
  rw [hk, a1, ha]
  have hq' := hr (fun _ M1 => (M1 0 65 = 0 → -2147483648 ≤ 160 * (M1 0 9) ∧ 160 * (M1 0 9) ≤ 2147483647 ∧ -2147483648 ≤ (160 * (M1 0 9)) + (100 + 4 * e + i) ∧ (160 * (M1 0 9)) + (100 + 4 * e + i) ≤ 2147483647 ∧ 0 ≤ ((160 * (M1 0 9)) + (100 + 4 * e + i)) ∧ ((160 * (M1 0 9)) + (100 + 4 * e + i)) < 1600 ∧ ((M1 52 ((160 * (M1 0 9)) + (100 + 4 * e + i))) ≠ 3 → 0 ≤ 4 * (12 * b + e) + i ∧ 4 * (12 * b + e) + i < 480 ∧ Q (M1 57 (4 * (12 * b + e) + i)) M1) ∧ (¬ ((M1 52 ((160 * (M1 0 9)) + (100 + 4 * e + i))) ≠ 3) → PM d n_sees_0 [100 + 4 * e + i, 0] M1 Q)) ∧ (¬ M1 0 65 = 0 → Q 0 M1)) ⟨fun z0 => by
    rw [nw]
    exact ⟨by omega, by omega, by omega, by omega, by omega, by omega, fun y => ⟨by omega, by omega, h1 z0 y⟩, fun y => h2 z0 (by omega)⟩, h3⟩
  exact ⟨fun e => absurd e (by decide), fun _ => ⟨fun e => absurd e (by decide), fun _ => ⟨fun e => absurd e (by decide), fun _ => ⟨fun e => absurd e (by decide), fun _ => ⟨fun e => absurd e (by decide), fun _ => ⟨fun e => absurd e (by decide), fun _ => ⟨fun e => absurd e (by decide), fun _ => ⟨fun e => absurd e (by decide), fun _ => ⟨fun e => absurd e (by decide), fun _ => ⟨fun e => absurd e (by decide), fun _ => ⟨fun e => absurd e (by decide), fun _ => ⟨fun _ => ⟨by omega, by omega, hq'⟩, fun e => absurd rfl e⟩⟩⟩⟩⟩⟩⟩⟩⟩⟩⟩⟩
theorem pm_entryOf {M1 M2 : Mem} {x y z g t k : Int} (x0 : 0 ≤ x) (x1 : x < 31000) (ha : M 36 x = 4 * g + t) (g0 : 0 ≤ g) (g1 : g < 120) (t0 : 0 ≤ t) (t1 : t < 4) (hr : RunM (d + 1) n_use_0 [g % 12] M 0 M1) (hv : RunM (d + 1) n_value_0 [M1 37 x, y, z] M1 k M2) (ne : M2 24 (4 * g + t) ≤ 12) (h0 : M2 0 65 ≠ 0 → Q 0 M2) (h1 : M2 0 65 = 0 → k < 0 ∨ M2 24 (4 * g + t) ≤ k → Q 0 (mFail M2 4 (-1))) (h2 : M2 0 65 = 0 → 0 ≤ k → k < M2 24 (4 * g + t) → M2 55 (4 * g + t) ≤ k → PM (d + 1) n_sees_0 [g % 12, 0] M2 Q) (h3 : M2 0 65 = 0 → 0 ≤ k → k < M2 24 (4 * g + t) → k < M2 55 (4 * g + t) → Q (M2 56 (12 * (4 * g + t) + k)) M2) : PM (d + 2) n_entryOf_0 [x, y, z] M Q := by
  refine st_entryOf_0 ⟨x0, x1, ?_⟩
  have a1 : (M 36 x).tdiv 4 = g := by rw [ha, Int.tdiv_eq_ediv_of_nonneg (by omega)]; omega
  have a3 : g.tmod 12 = g % 12 := Int.tmod_eq_emod_of_nonneg g0
  rw [a1, a3, ha]
  refine hr _ ⟨x0, x1, hv _ ⟨fun q => ⟨fun q2 => pm_failing (h1 q (Or.inl q2)), fun q2 => ⟨by omega, by omega, fun q3 => ⟨fun q4 => h2 q (by omega) q3 q4, fun q4 => ⟨by omega, by omega, by omega, by omega, by omega, by omega, h3 q (by omega) q3 (by omega)⟩⟩, fun q3 => pm_failing (h1 q (Or.inr (by omega)))⟩⟩, h0⟩⟩

end RF
