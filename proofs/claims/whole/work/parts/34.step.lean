/-! ===== evaluation: an expression ===== -/
def CXt (b : Int) (M : Mem) (lv g i cst : Int) : Prop := (1 ≤ lv → cst = 24 * g + i ∧ 0 ≤ i ∧ i < M 14 g ∧ 12 * b ≤ g ∧ g < 12 * b + M 10 b) ∧ (2 ≤ lv → M 52 (160 * b + (g - 12 * b)) = 1)
def OW (b : Int) (gm M : Mem) (U : Int → Int) (lo hi D : Int) : Prop := D ≠ 0 → ∀ p, lo ≤ p → p < hi → U p = 0 ∧ 0 ≤ gm 5 p ∧ M 52 (160 * b + gm 5 p / 1000) ≠ 0
def NU (b : Int) (M : Mem) : Prop := ∀ i, 0 ≤ i → i < 148 → M 52 (160 * b + i) ≠ 3
def StM (M M' : Mem) : Prop := ∀ k j, 1 ≤ k → k < 52 → M' k j = M k j
theorem StM.rf {M : Mem} : StM M M := fun _ _ _ _ => rfl
theorem StM.tr {M M1 M2 : Mem} (h : StM M M1) (h2 : StM M1 M2) : StM M M2 := fun k j a e => (h2 k j a e).trans (h k j a e)
theorem StM.sy {M M1 : Mem} (h : StM M M1) : StM M1 M := fun k j a e => (h k j a e).symm
theorem EvS.stm {c : Int → Int} {b lo hi : Int} {N M N' M' gm : Mem} {U U' : Int → Int} (h : EvS c b gm lo hi N M U N' M' U') : StM M M' := fun k j a e => h.2.1.st ⟨a, e⟩
theorem CXt.le {b lv lv' g i cst : Int} {M : Mem} (h : CXt b M lv g i cst) (q : lv' ≤ lv) : CXt b M lv' g i cst := ⟨fun z => h.1 (by omega), fun z => h.2 (by omega)⟩
theorem CXt.st {b lv g i cst : Int} {M M' : Mem} (h : CXt b M lv g i cst) (h1 : StM M M') (h2 : Lx (-1) b M M') (h3 : M 10 b ≤ 12) : CXt b M' lv g i cst := by
  refine ⟨fun z => ?_, fun z => ?_⟩
  · rw [h1 14 _ (by decide) (by decide), h1 10 _ (by decide) (by decide)]
    exact h.1 z
  · have q := h.1 (by omega)
    have y := h.2 z
    have := (h2 (g - 12 * b) (by omega) (by omega) (by omega)).2 (by omega)
    omega
theorem OW.sub {b lo hi lo' hi' D : Int} {gm M : Mem} {U : Int → Int} (h : OW b gm M U lo hi D) (q1 : lo ≤ lo') (q2 : hi' ≤ hi) : OW b gm M U lo' hi' D := fun z p p0 p1 => h z p (by omega) (by omega)
theorem OW.st {c : Int → Int} {b lo hi a e D : Int} {N M N' M' gm : Mem} {U U' : Int → Int} (h : OW b gm M U lo hi D) (s : EvS c b gm a e N M U N' M' U') (q : e ≤ lo ∨ hi ≤ a) : OW b gm M' U' lo hi D := by
  intro z p p0 p1
  obtain ⟨y1, y2, y3⟩ := h z p p0 p1
  have r := s.1.bd.ur p y2
  refine ⟨?_, y2, ?_⟩
  · refine Decidable.byContradiction fun n => ?_
    rcases s.2.2.2.2.1 p (by rw [y1]; exact n) with k | k
    · omega
    · exact y3 k.2
  · rw [((s.2.2.2.1 (gm 5 p / 1000) (by omega) (by omega) (by omega)).2 y3).1]
    exact y3
theorem NU.st {b : Int} {M M' : Mem} (h : NU b M) (h2 : Lx (-1) b M M') : NU b M' := by
  intro i i0 i1
  have q := h2 i i0 i1 (by omega)
  by_cases z : M 52 (160 * b + i) = 0
  · exact q.1 z
  · rw [(q.2 z).1]
    exact h i i0 i1
theorem EvI.ln {c : Int → Int} {N M gm : Mem} {U : Int → Int} {b x : Int} (E : EvI c N M gm U b) (hx : gm 0 x = 1) : gm 2 x < N (128 * b + 20) 2 := (E.bn.2 x hx).2.2.2.2.1
def PV (c : Int → Int) (gm : Mem) (b x cst ra z : Int) (M' : Mem) : Prop := ∀ (N2 M2 : Mem) (U2 : Int → Int), EvI c N2 M2 gm U2 b → StM M' M2 → Lx (-1) b M' M2 → M2 0 65 = 0 → ∀ dm : Nat, 2 * gm 3 x + 1205 ≤ (dm : Int) → RunM dm n_value_0 [x, cst, ra] M2 z M2
theorem PV.st {c : Int → Int} {gm M M' : Mem} {b x cst ra z : Int} (h : PV c gm b x cst ra z M) (h1 : StM M M') (h2 : Lx (-1) b M M') : PV c gm b x cst ra z M' := fun N2 M2 U2 e s l f dm hd => h N2 M2 U2 e (h1.tr s) (h2.tr l) f dm hd
def AKc (c : Int → Int) (gm : Mem) (b cst ra : Int) (N M : Mem) : Prop := N 30 9 = 0 ∨ (M 19 (4 * (cst / 24) + ra) ≠ -1 ∧ PV c gm b (M 19 (4 * (cst / 24) + ra)) cst ra (N 30 10) M)
def FA (c : Int → Int) (gm : Mem) (b cst ra lv : Int) (N M N' M' : Mem) : Prop := (lv ≤ 2 → N' 30 9 = N 30 9 ∧ N' 30 10 = N 30 10) ∧ (M' 0 65 = 0 → AKc c gm b cst ra N M → AKc c gm b cst ra N' M')
theorem FA.of {c : Int → Int} {gm N M N' M' : Mem} {b cst ra lv : Int} (h9 : N' 30 9 = N 30 9) (h10 : N' 30 10 = N 30 10) (st : StM M M') (lx : Lx (-1) b M M') : FA c gm b cst ra lv N M N' M' := by
  refine ⟨fun _ => ⟨h9, h10⟩, fun _ h => ?_⟩
  unfold AKc at *
  rw [h9, h10, st 19 _ (by decide) (by decide)]
  rcases h with h | h
  · exact Or.inl h
  · exact Or.inr ⟨h.1, h.2.st st lx⟩
theorem FA.tr {c : Int → Int} {gm N M N1 M1 N2 M2 : Mem} {b cst ra lv lv1 lv2 : Int} (h : FA c gm b cst ra lv1 N M N1 M1) (h2 : FA c gm b cst ra lv2 N1 M1 N2 M2) (z : M1 0 65 = 0) (q1 : lv1 ≤ lv) (q2 : lv2 ≤ lv) : FA c gm b cst ra lv N M N2 M2 := ⟨fun q => ⟨(h2.1 (by omega)).1.trans (h.1 (by omega)).1, (h2.1 (by omega)).2.trans (h.1 (by omega)).2⟩, fun f a => h2.2 f (h.2 z a)⟩
theorem FA.le {c : Int → Int} {gm N M N1 M1 : Mem} {b cst ra lv lv1 : Int} (h : FA c gm b cst ra lv1 N M N1 M1) (q1 : lv1 ≤ lv) : FA c gm b cst ra lv N M N1 M1 := ⟨fun q => h.1 (by omega), h.2⟩
def VP (c : Int → Int) (b : Int) (gm : Mem) (x cst ra : Int) (dm : Nat) (D : Int) (N M : Mem) (U : Int → Int) (N' M' : Mem) (U' : Int → Int) (z : Int) : Prop := RunM dm n_value_0 [x, cst, ra] M z M' ∧ EvS c b gm (gm 1 x) (gm 2 x) N M U N' M' U' ∧ FA c gm b cst ra (gm 4 x) N M N' M' ∧ (M' 0 65 = 0 → D = 0 → gm 4 x ≤ 2 → PV c gm b x cst ra z M')
def UseOK (c : Int → Int) (S : Sh) (gm : Mem) (b D : Int) : Prop := ∀ (l : Launch) (G : GT) (Q : Int → Sh → Mem → Prop) (d dm : Nat) (it : Int) (V N M : Mem) (U : Int → Int), Wv c S V = N → EvI c N M gm U b → M 0 64 = D → M 0 65 = 0 → (D = 0 → NU b M) → itOK M b it → N 30 3 + 45 * (12 - D) ≤ 950 → 10 * (12 - D) + 5 ≤ (d : Int) → 100 * (12 - D) + 5 ≤ (dm : Int) → (∀ V' N' M' U', Wv c S V' = N' → RunM dm n_use_0 [it] M 0 M' → EvS c b gm 0 0 N M U N' M' U' → N' 30 9 = N 30 9 → N' 30 10 = N 30 10 → (M' 0 65 = 0 → N' 30 3 = N 30 3 ∧ (M' 52 (160 * b + it) = 1 ∨ (M' 52 (160 * b + it) = 3 ∧ M 52 (160 * b + it) = 3))) → Q 0 S V') → Ct l G bX10_useItem Q d 0 0 [vr (c 30), vi it] S V
abbrev WL (c : Int → Int) (b fr g i ca p : Int) : List AV := [vr (c 30), vi fr, vr (c (128 * g + 3)), vi i, vi ca, vr (c (128 * b + 20)), vi p, vu]
section EV3
variable {l : Launch} {G : GT} {Q : Int → Sh → Mem → Prop} {c : Int → Int} {S : Sh} {V N M gm : Mem} {U : Int → Int} {b fr g i ca p : Int} {d mc ms : Nat}
theorem wo_step {o : Int} (E : EvI c N M gm U b) (hW : Wv c S V = N) (hf : M 0 65 = 0) (p0 : 0 ≤ p) (p1 : p < N (128 * b + 20) 2) (op : N (128 * b + 21) p = o) (o0 : o ≠ 0) (hd : 1 ≤ d) (h : ∀ d1, d1 + 1 = d → Ct l G bX10_takeStep (fun _ S' V' => XJ l G bX10_workOut Q d 16 (WL c b fr g i ca (p + 1)) [] S' V' mc ms) d1 0 0 [vr (c 30), vi o, vi (N (128 * b + 22) p), vr (c (128 * g + 3)), vi i, vi ca] S V) : XJ l G bX10_workOut Q d 16 (WL c b fr g i ca p) [] S V mc ms := vX10_workOut_16 <| by
  obtain ⟨v, tg, ln⟩ := Wr hW
  have k := E.wk
  have q := E.bh.bk
  have cl := q.cl1
  simp (disch := omega) only [v, tg, ln, k.g30, q.g20, q.r20, q.r21, q.g21, q.n21, q.g22, q.n22, E.fl, hf, op]
  refine ⟨trivial, fun z => absurd p1 (by omega), fun _ => ⟨trivial, fun z => absurd rfl z, fun _ => ⟨trivial, p0, p1, fun _ => ⟨trivial, p1, CT.im hd (fun d1 hd1 => ?_)⟩, fun z => absurd o0 z⟩⟩⟩
  simp only [show -2147483648 ≤ p + 1 from by omega, show p + 1 ≤ 2147483647 from by omega, true_and]
  exact h d1 hd1
theorem wo_fail (E : EvI c N M gm U b) (hW : Wv c S V = N) (hf : M 0 65 = 1) (h : Q 0 S V) : XJ l G bX10_workOut Q d 16 (WL c b fr g i ca p) [] S V mc ms := vX10_workOut_16 <| by
  obtain ⟨v, tg, ln⟩ := Wr hW
  have k := E.wk
  have q := E.bh.bk
  simp (disch := omega) only [v, tg, ln, k.g30, q.g20, E.fl, hf]
  exact ⟨trivial, fun _ => ⟨trivial, fun z => absurd z (by decide), fun _ => h⟩, fun _ => ⟨trivial, fun _ => ⟨fun z => absurd z (by decide), fun _ => h⟩, fun z => absurd (by decide) z⟩⟩
theorem wo_end (E : EvI c N M gm U b) (hc : Cn c S) (hW : Wv c S V = N) (hf : M 0 65 = 0) (p0 : 0 ≤ p) (p1 : p < N (128 * b + 20) 2) (op : N (128 * b + 21) p = 0) (hd : 1 ≤ d) (t : 0 < N 30 3) (h : ∀ V', Wv c S V' = up N 30 3 (N 30 3 - 1) → Q (N 31 (N 30 3 - 1)) S V') : XJ l G bX10_workOut Q d 16 (WL c b fr g i ca p) [] S V mc ms := vX10_workOut_16 <| by
  have hp : CT l G bX10_pop d mc ms [vr (c 30)] S V (fun z3 S3 V3 mc3 ms3 => Q z3 S3 V3) := CT.im hd (fun d1 hd1 => ct_pop E hc hW (fun _ => h) (fun z => absurd t (by omega)))
  obtain ⟨v, tg, ln⟩ := Wr hW
  have k := E.wk
  have q := E.bh.bk
  simp (disch := omega) only [v, tg, ln, k.g30, q.g20, q.r20, q.g21, q.n21, E.fl, hf, op]
  exact ⟨trivial, fun z => absurd p1 (by omega), fun _ => ⟨trivial, fun z => absurd rfl z, fun _ => ⟨trivial, p0, p1, fun z => absurd rfl z, fun _ => ⟨fun _ => hp, fun z => absurd trivial z⟩⟩⟩⟩

theorem ts1 {a : Int} (E : EvI c N M gm U b) (hW : Wv c S V = N) (hd : 3 ≤ d) (h : ∀ d1, d1 + 1 = d → Ct l G bX10_push (fun _ S' V' => Q 0 S' V') d1 0 0 [vr (c 30), vi a] S V) : Ct l G bX10_takeStep Q d mc ms [vr (c 30), vi 1, vi a, vr (c (128 * g + 3)), vi i, vi ca] S V := qX10_takeStep fun _ _ _ _ _ _ => vX10_takeStep_0 <| by
  have tg : S.1 (c 30) = 11 := by rw [(Wr hW).2.1]; exact E.wk.g30
  exact ⟨fun _ => ⟨tg, CT.im (by omega) h⟩, fun e => absurd rfl e⟩
theorem ts2 {a : Int} (E : EvI c N M gm U b) (hW : Wv c S V = N) (hd : 3 ≤ d) (h : ∀ d1, d1 + 1 = d → Ct l G bX10_push (fun _ S' V' => Q 0 S' V') d1 0 0 [vr (c 30), vi i] S V) : Ct l G bX10_takeStep Q d mc ms [vr (c 30), vi 2, vi a, vr (c (128 * g + 3)), vi i, vi ca] S V := qX10_takeStep fun _ _ _ _ _ _ => vX10_takeStep_0 <| by
  have tg : S.1 (c 30) = 11 := by rw [(Wr hW).2.1]; exact E.wk.g30
  exact ⟨fun e => absurd e (by decide), fun _ => ⟨fun _ => ⟨tg, CT.im (by omega) h⟩, fun e => absurd rfl e⟩⟩
theorem ts3 {a : Int} (E : EvI c N M gm U b) (hW : Wv c S V = N) (hd : 3 ≤ d) {x : Int} (hc : Cn c S) (hE : BkE c N M g) (i0 : 0 ≤ i) (i1 : i < M 14 g) (hx : N (128 * (24 * g + i) + 5) 2 = x) (h : ∀ d1, d1 + 1 = d → Ct l G bX10_push (fun _ S' V' => Q 0 S' V') d1 0 0 [vr (c 30), vi x] S V) : Ct l G bX10_takeStep Q d mc ms [vr (c 30), vi 3, vi a, vr (c (128 * g + 3)), vi i, vi ca] S V := qX10_takeStep fun _ _ _ _ _ _ => vX10_takeStep_0 <| by
  have tg : S.1 (c 30) = 11 := by rw [(Wr hW).2.1]; exact E.wk.g30
  exact ⟨fun e => absurd e (by decide), fun _ => ⟨fun e => absurd e (by decide), fun _ => ⟨fun _ => CT.pu (by omega) (fun d1 hd1 => ct_argumentOf hc hE hW (by omega) i0 i1 ⟨rfl, rfl, tg, by rw [hx]; exact CT.im (by omega) h⟩), fun e => absurd rfl e⟩⟩⟩
theorem ct_neg (E : EvI c N M gm U b) (hc : Cn c S) (hW : Wv c S V = N) (t : 0 < N 30 3) (hd : 1 ≤ d) (h : ∀ V', Wv c S V' = up (up (up N 30 3 (N 30 3 - 1)) 31 (N 30 3 - 1) (wr (-(N 31 (N 30 3 - 1))))) 30 3 (N 30 3) → Q 0 S V') : CT l G bX10_pop d mc ms [vr (c 30)] S V (fun z21 S21 V21 mc21 ms21 => S21.1 (c 30) = 11 ∧ CT l G bX10_push d mc21 ms21 [vr (c 30), vi (wr (-z21))] S21 V21 (fun z23 S23 V23 mc23 ms23 => Q 0 S23 V23)) := by
  have t1 := E.tp1
  refine CT.im hd (fun d1 hd1 => ct_pop E hc hW (fun _ V1 hW1 => ?_) (fun z => absurd t (by omega)))
  have E1 := E.top (t := N 30 3 - 1) (by omega) (by omega)
  refine ⟨by rw [(Wr hW1).2.1]; exact E1.wk.g30, CT.im hd (fun d2 hd2 => ct_push E1 hc hW1 (fun _ V2 hW2 => h V2 ?_) (fun z => ?_))⟩
  · rw [hW2, up_eq]
    congr 1
    omega
  · rw [up_eq] at z
    omega
theorem ts6 {a : Int} (E : EvI c N M gm U b) (hW : Wv c S V = N) (hd : 3 ≤ d) (hc : Cn c S) (t : 0 < N 30 3) (h : ∀ V', Wv c S V' = up (up (up N 30 3 (N 30 3 - 1)) 31 (N 30 3 - 1) (wr (-(N 31 (N 30 3 - 1))))) 30 3 (N 30 3) → Q 0 S V') : Ct l G bX10_takeStep Q d mc ms [vr (c 30), vi 6, vi a, vr (c (128 * g + 3)), vi i, vi ca] S V := qX10_takeStep fun _ _ _ _ _ _ => vX10_takeStep_0 <| by
  have tg : S.1 (c 30) = 11 := by rw [(Wr hW).2.1]; exact E.wk.g30
  exact ⟨fun e => absurd e (by decide), fun _ => ⟨fun e => absurd e (by decide), fun _ => ⟨fun e => absurd e (by decide), fun _ => ⟨fun e => absurd e (by decide), fun _ => ⟨fun e => absurd e (by decide), fun _ => ⟨fun _ => ⟨tg, ct_neg E hc hW t (by omega) h⟩, fun e => absurd rfl e⟩⟩⟩⟩⟩⟩
theorem ct_combine {o k : Int} (E : EvI c N M gm U b) (hc : Cn c S) (hW : Wv c S V = N) (t : 2 ≤ N 30 3) (hd : 1 ≤ d) (ok : o = k + 5) (k0 : 2 ≤ k) (k1 : k ≤ 5) (h1 : ¬ (k ≠ 2 ∧ k ≠ 3 ∧ k ≠ 4 ∧ N 31 (N 30 3 - 1) = 0) → ∀ V', Wv c S V' = up (up (up N 30 3 (N 30 3 - 2)) 31 (N 30 3 - 2) (jnd k (N 31 (N 30 3 - 2)) (N 31 (N 30 3 - 1)))) 30 3 (N 30 3 - 1) → Q 0 S V') (h2 : k ≠ 2 ∧ k ≠ 3 ∧ k ≠ 4 ∧ N 31 (N 30 3 - 1) = 0 → ∀ V', Wv c S V' = nFail (up N 30 3 (N 30 3 - 2)) 4 (-1) → Q 0 S V') : Ct l G bX10_combine Q d mc ms [vr (c 30), vi o] S V := qX10_combine fun _ _ => vX10_combine_0 <| by
  have t1 := E.tp1
  have E1 := E.top (t := N 30 3 - 1) (by omega) (by omega)
  have E2 := E.top (t := N 30 3 - 2) (by omega) (by omega)
  have n3 : ∀ x, (up N 30 3 x) 30 3 = x := fun x => up_eq
  have n31 : ∀ x j, (up N 30 3 x) 31 j = N 31 j := fun x j => up_ne (by omega)
  have uu : ∀ x y, up (up N 30 3 x) 30 3 y = up N 30 3 y := by
    intro x y
    funext a e
    unfold up
    by_cases q : a = 30 ∧ e = 3
    · simp [q]
    · simp [q]
  refine ⟨by rw [(Wr hW).2.1]; exact E.wk.g30, CT.im hd (fun d1 hd1 => ct_pop E hc hW (fun _ V1 hW1 => ?_) (fun z => absurd t (by omega)))⟩
  refine ⟨by rw [(Wr hW1).2.1]; exact E1.wk.g30, CT.im hd (fun d2 hd2 => ct_pop E1 hc hW1 (fun _ V2 hW2 => ?_) (fun z => by rw [n3] at z; omega))⟩
  rw [n3, uu, show N 30 3 - 1 - 1 = N 30 3 - 2 from by omega] at hW2
  rw [n3, n31, show N 30 3 - 1 - 1 = N 30 3 - 2 from by omega]
  have tg : S.1 (c 30) = 11 := by rw [(Wr hW2).2.1]; exact E2.wk.g30
  have hp : ∀ x, jnd k (N 31 (N 30 3 - 2)) (N 31 (N 30 3 - 1)) = x → ¬ (k ≠ 2 ∧ k ≠ 3 ∧ k ≠ 4 ∧ N 31 (N 30 3 - 1) = 0) → CT l G bX10_push d mc ms [vr (c 30), vi x] S V2 (fun z6 S6 V6 mc6 ms6 => Q 0 S6 V6) := by
    intro x hx hn
    refine CT.im hd (fun d3 hd3 => ct_push E2 hc hW2 (fun _ V3 hW3 => h1 hn V3 ?_) (fun z => by rw [n3] at z; omega))
    rw [hW3, n3, hx]
    congr 1
    omega
  subst ok
  refine ⟨fun e => ⟨tg, hp _ ?_ (by omega)⟩, fun a => ⟨fun e => ⟨tg, hp _ ?_ (by omega)⟩, fun a2 => ⟨fun e => ⟨tg, hp _ ?_ (by omega)⟩, fun a3 => ⟨fun e => ⟨e, tg, hp _ ?_ (by omega)⟩, fun e => ⟨tg, CT.im hd (fun d3 hd3 => ct_fail E2 hc hW2 (h2 (by omega)))⟩⟩⟩⟩⟩
  · unfold jnd; rw [if_pos (by omega)]
  · unfold jnd; rw [if_neg (by omega), if_pos (by omega)]
  · unfold jnd; rw [if_neg (by omega), if_neg (by omega), if_pos (by omega)]
  · unfold jnd; rw [if_neg (by omega), if_neg (by omega), if_neg (by omega)]
theorem ts7 {a : Int} (E : EvI c N M gm U b) (hW : Wv c S V = N) (hd : 3 ≤ d) (h : ∀ d1, d1 + 1 = d → Ct l G bX10_combine (fun _ S' V' => Q 0 S' V') d1 0 0 [vr (c 30), vi 7] S V) : Ct l G bX10_takeStep Q d mc ms [vr (c 30), vi 7, vi a, vr (c (128 * g + 3)), vi i, vi ca] S V := qX10_takeStep fun _ _ _ _ _ _ => vX10_takeStep_0 <| by
  have tg : S.1 (c 30) = 11 := by rw [(Wr hW).2.1]; exact E.wk.g30
  exact ⟨fun e => absurd e (by decide), fun _ => ⟨fun e => absurd e (by decide), fun _ => ⟨fun e => absurd e (by decide), fun _ => ⟨fun e => absurd e (by decide), fun _ => ⟨fun e => absurd e (by decide), fun _ => ⟨fun e => absurd e (by decide), fun _ => ⟨fun _ => ⟨tg, CT.im (by omega) h⟩, fun e => absurd rfl e⟩⟩⟩⟩⟩⟩⟩
theorem ts8 {a : Int} (E : EvI c N M gm U b) (hW : Wv c S V = N) (hd : 3 ≤ d) (h : ∀ d1, d1 + 1 = d → Ct l G bX10_combine (fun _ S' V' => Q 0 S' V') d1 0 0 [vr (c 30), vi 8] S V) : Ct l G bX10_takeStep Q d mc ms [vr (c 30), vi 8, vi a, vr (c (128 * g + 3)), vi i, vi ca] S V := qX10_takeStep fun _ _ _ _ _ _ => vX10_takeStep_0 <| by
  have tg : S.1 (c 30) = 11 := by rw [(Wr hW).2.1]; exact E.wk.g30
  exact ⟨fun e => absurd e (by decide), fun _ => ⟨fun e => absurd e (by decide), fun _ => ⟨fun e => absurd e (by decide), fun _ => ⟨fun e => absurd e (by decide), fun _ => ⟨fun e => absurd e (by decide), fun _ => ⟨fun e => absurd e (by decide), fun _ => ⟨fun e => absurd e (by decide), fun _ => ⟨fun _ => ⟨tg, CT.im (by omega) h⟩, fun e => absurd rfl e⟩⟩⟩⟩⟩⟩⟩⟩
theorem ts9 {a : Int} (E : EvI c N M gm U b) (hW : Wv c S V = N) (hd : 3 ≤ d) (h : ∀ d1, d1 + 1 = d → Ct l G bX10_combine (fun _ S' V' => Q 0 S' V') d1 0 0 [vr (c 30), vi 9] S V) : Ct l G bX10_takeStep Q d mc ms [vr (c 30), vi 9, vi a, vr (c (128 * g + 3)), vi i, vi ca] S V := qX10_takeStep fun _ _ _ _ _ _ => vX10_takeStep_0 <| by
  have tg : S.1 (c 30) = 11 := by rw [(Wr hW).2.1]; exact E.wk.g30
  exact ⟨fun e => absurd e (by decide), fun _ => ⟨fun e => absurd e (by decide), fun _ => ⟨fun e => absurd e (by decide), fun _ => ⟨fun e => absurd e (by decide), fun _ => ⟨fun e => absurd e (by decide), fun _ => ⟨fun e => absurd e (by decide), fun _ => ⟨fun e => absurd e (by decide), fun _ => ⟨fun e => absurd e (by decide), fun _ => ⟨fun _ => ⟨tg, CT.im (by omega) h⟩, fun e => absurd rfl e⟩⟩⟩⟩⟩⟩⟩⟩⟩
theorem ts10 {a : Int} (E : EvI c N M gm U b) (hW : Wv c S V = N) (hd : 3 ≤ d) (h : ∀ d1, d1 + 1 = d → Ct l G bX10_combine (fun _ S' V' => Q 0 S' V') d1 0 0 [vr (c 30), vi 10] S V) : Ct l G bX10_takeStep Q d mc ms [vr (c 30), vi 10, vi a, vr (c (128 * g + 3)), vi i, vi ca] S V := qX10_takeStep fun _ _ _ _ _ _ => vX10_takeStep_0 <| by
  have tg : S.1 (c 30) = 11 := by rw [(Wr hW).2.1]; exact E.wk.g30
  exact ⟨fun e => absurd e (by decide), fun _ => ⟨fun e => absurd e (by decide), fun _ => ⟨fun e => absurd e (by decide), fun _ => ⟨fun e => absurd e (by decide), fun _ => ⟨fun e => absurd e (by decide), fun _ => ⟨fun e => absurd e (by decide), fun _ => ⟨fun e => absurd e (by decide), fun _ => ⟨fun e => absurd e (by decide), fun _ => ⟨fun e => absurd e (by decide), fun _ => ⟨fun _ => ⟨tg, CT.im (by omega) h⟩, fun e => absurd rfl e⟩⟩⟩⟩⟩⟩⟩⟩⟩⟩
theorem ts7_10 {a k : Int} (E : EvI c N M gm U b) (hW : Wv c S V = N) (hd : 3 ≤ d) (k0 : 2 ≤ k) (k1 : k ≤ 5) (h : ∀ d1, d1 + 1 = d → Ct l G bX10_combine (fun _ S' V' => Q 0 S' V') d1 0 0 [vr (c 30), vi (k + 5)] S V) : Ct l G bX10_takeStep Q d mc ms [vr (c 30), vi (k + 5), vi a, vr (c (128 * g + 3)), vi i, vi ca] S V := by
  have : k = 2 ∨ k = 3 ∨ k = 4 ∨ k = 5 := by omega
  rcases this with rfl | rfl | rfl | rfl
  · exact ts7 E hW hd h
  · exact ts8 E hW hd h
  · exact ts9 E hW hd h
  · exact ts10 E hW hd h
theorem ts15 {a : Int} (E : EvI c N M gm U b) (hW : Wv c S V = N) (hd : 3 ≤ d) {e j : Int} (ha : a = 24 * e + j) (e0 : 0 ≤ e) (j0 : 0 ≤ j) (j1 : j < 24) (h : ∀ d1, d1 + 1 = d → Ct l G bX10_readConstant (fun z S' V' => S'.1 (c 30) = 11 ∧ CT l G bX10_push d mc ms [vr (c 30), vi z] S' V' (fun _ S' V' _ _ => Q 0 S' V')) d1 0 0 [vr (c 30), vi e, vi j] S V) : Ct l G bX10_takeStep Q d mc ms [vr (c 30), vi 15, vi a, vr (c (128 * g + 3)), vi i, vi ca] S V := qX10_takeStep fun _ _ _ _ _ _ => vX10_takeStep_0 <| by
  have tg : S.1 (c 30) = 11 := by rw [(Wr hW).2.1]; exact E.wk.g30
  exact ⟨fun e => absurd e (by decide), fun _ => ⟨fun e => absurd e (by decide), fun _ => ⟨fun e => absurd e (by decide), fun _ => ⟨fun e => absurd e (by decide), fun _ => ⟨fun e => absurd e (by decide), fun _ => ⟨fun e => absurd e (by decide), fun _ => ⟨fun e => absurd e (by decide), fun _ => ⟨fun e => absurd e (by decide), fun _ => ⟨fun e => absurd e (by decide), fun _ => ⟨fun e => absurd e (by decide), fun _ => ⟨fun e => absurd e (by decide), fun _ => ⟨fun e => absurd e (by decide), fun _ => ⟨fun e => absurd e (by decide), fun _ => ⟨fun e => absurd e (by decide), fun _ => ⟨fun _ => ⟨tg, by
    have a1 : a.tdiv 24 = e := by rw [ha, Int.tdiv_eq_ediv_of_nonneg (by omega)]; omega
    have a2 : a.tmod 24 = j := by rw [ha, Int.tmod_eq_emod_of_nonneg (by omega)]; omega
    rw [a1, a2]
    exact CT.im (by omega) h⟩, fun e => absurd rfl e⟩⟩⟩⟩⟩⟩⟩⟩⟩⟩⟩⟩⟩⟩⟩
theorem ts16 {a : Int} (E : EvI c N M gm U b) (hW : Wv c S V = N) (hd : 3 ≤ d) (h : ∀ d1, d1 + 1 = d → Ct l G bX10_readHolder (fun z S' V' => S'.1 (c 30) = 11 ∧ CT l G bX10_push d mc ms [vr (c 30), vi z] S' V' (fun _ S' V' _ _ => Q 0 S' V')) d1 0 0 [vr (c 30), vi a] S V) : Ct l G bX10_takeStep Q d mc ms [vr (c 30), vi 16, vi a, vr (c (128 * g + 3)), vi i, vi ca] S V := qX10_takeStep fun _ _ _ _ _ _ => vX10_takeStep_0 <| by
  have tg : S.1 (c 30) = 11 := by rw [(Wr hW).2.1]; exact E.wk.g30
  exact ⟨fun e => absurd e (by decide), fun _ => ⟨fun e => absurd e (by decide), fun _ => ⟨fun e => absurd e (by decide), fun _ => ⟨fun e => absurd e (by decide), fun _ => ⟨fun e => absurd e (by decide), fun _ => ⟨fun e => absurd e (by decide), fun _ => ⟨fun e => absurd e (by decide), fun _ => ⟨fun e => absurd e (by decide), fun _ => ⟨fun e => absurd e (by decide), fun _ => ⟨fun e => absurd e (by decide), fun _ => ⟨fun e => absurd e (by decide), fun _ => ⟨fun e => absurd e (by decide), fun _ => ⟨fun e => absurd e (by decide), fun _ => ⟨fun e => absurd e (by decide), fun _ => ⟨fun e => absurd e (by decide), fun _ => ⟨fun _ => ⟨tg, CT.im (by omega) h⟩, fun e => absurd rfl e⟩⟩⟩⟩⟩⟩⟩⟩⟩⟩⟩⟩⟩⟩⟩⟩
theorem ts17 {a : Int} (E : EvI c N M gm U b) (hW : Wv c S V = N) (hd : 3 ≤ d) (h : ∀ d1, d1 + 1 = d → Ct l G bX10_useItem (fun _ S' V' => Q 0 S' V') d1 0 0 [vr (c 30), vi a] S V) : Ct l G bX10_takeStep Q d mc ms [vr (c 30), vi 17, vi a, vr (c (128 * g + 3)), vi i, vi ca] S V := qX10_takeStep fun _ _ _ _ _ _ => vX10_takeStep_0 <| by
  have tg : S.1 (c 30) = 11 := by rw [(Wr hW).2.1]; exact E.wk.g30
  exact ⟨fun e => absurd e (by decide), fun _ => ⟨fun e => absurd e (by decide), fun _ => ⟨fun e => absurd e (by decide), fun _ => ⟨fun e => absurd e (by decide), fun _ => ⟨fun e => absurd e (by decide), fun _ => ⟨fun e => absurd e (by decide), fun _ => ⟨fun e => absurd e (by decide), fun _ => ⟨fun e => absurd e (by decide), fun _ => ⟨fun e => absurd e (by decide), fun _ => ⟨fun e => absurd e (by decide), fun _ => ⟨fun e => absurd e (by decide), fun _ => ⟨fun e => absurd e (by decide), fun _ => ⟨fun e => absurd e (by decide), fun _ => ⟨fun e => absurd e (by decide), fun _ => ⟨fun e => absurd e (by decide), fun _ => ⟨fun e => absurd e (by decide), fun _ => ⟨fun _ => ⟨tg, CT.im (by omega) h⟩, fun e => absurd rfl e⟩⟩⟩⟩⟩⟩⟩⟩⟩⟩⟩⟩⟩⟩⟩⟩⟩
theorem ts18 {a : Int} (E : EvI c N M gm U b) (hW : Wv c S V = N) (hd : 3 ≤ d) {e j : Int} (hc : Cn c S) (t : 0 < N 30 3) (ha : a = 4 * e + j) (e0 : 0 ≤ e) (j0 : 0 ≤ j) (j1 : j < 4) (h : ∀ d1 V1, d1 + 1 = d → Wv c S V1 = up N 30 3 (N 30 3 - 1) → Ct l G bX10_readEntry (fun z S' V' => S'.1 (c 30) = 11 ∧ CT l G bX10_push d mc ms [vr (c 30), vi z] S' V' (fun _ S' V' _ _ => Q 0 S' V')) d1 0 0 [vr (c 30), vi e, vi j, vi (N 31 (N 30 3 - 1))] S V1) : Ct l G bX10_takeStep Q d mc ms [vr (c 30), vi 18, vi a, vr (c (128 * g + 3)), vi i, vi ca] S V := qX10_takeStep fun _ _ _ _ _ _ => vX10_takeStep_0 <| by
  have tg : S.1 (c 30) = 11 := by rw [(Wr hW).2.1]; exact E.wk.g30
  exact ⟨fun e => absurd e (by decide), fun _ => ⟨fun e => absurd e (by decide), fun _ => ⟨fun e => absurd e (by decide), fun _ => ⟨fun e => absurd e (by decide), fun _ => ⟨fun e => absurd e (by decide), fun _ => ⟨fun e => absurd e (by decide), fun _ => ⟨fun e => absurd e (by decide), fun _ => ⟨fun e => absurd e (by decide), fun _ => ⟨fun e => absurd e (by decide), fun _ => ⟨fun e => absurd e (by decide), fun _ => ⟨fun e => absurd e (by decide), fun _ => ⟨fun e => absurd e (by decide), fun _ => ⟨fun e => absurd e (by decide), fun _ => ⟨fun e => absurd e (by decide), fun _ => ⟨fun e => absurd e (by decide), fun _ => ⟨fun e => absurd e (by decide), fun _ => ⟨fun e => absurd e (by decide), fun _ => ⟨fun _ => ⟨tg, by
    have t1 := E.tp1
    have a1 : a.tdiv 4 = e := by rw [ha, Int.tdiv_eq_ediv_of_nonneg (by omega)]; omega
    have a2 : a.tmod 4 = j := by rw [ha, Int.tmod_eq_emod_of_nonneg (by omega)]; omega
    rw [a1, a2]
    exact CT.im (by omega) (fun d1 hd1 => ct_pop E hc hW (fun _ V1 hW1 => ⟨by rw [(Wr hW1).2.1]; exact (E.top (t := N 30 3 - 1) (by omega) (by omega)).wk.g30, CT.im (by omega) (fun d2 hd2 => h d2 V1 hd2 hW1)⟩) (fun z => absurd t (by omega)))⟩, fun e => absurd rfl e⟩⟩⟩⟩⟩⟩⟩⟩⟩⟩⟩⟩⟩⟩⟩⟩⟩⟩
end EV3
