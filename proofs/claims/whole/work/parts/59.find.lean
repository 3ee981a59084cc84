/-! ===== a constant by its name ===== -/
def cnm (N : Mem) (g i : Int) : Int := N (128 * (24 * g + i) + 5) 0
def NonE (N M : Mem) (v g : Int) : Prop := ∀ i, 0 ≤ i → i < M 14 g → cnm N g i ≠ v
def Non (N M : Mem) (b v : Int) : Prop := ∀ e, 0 ≤ e → e < M 10 b → NonE N M v (12 * b + e)
def Fst (N M : Mem) (b v e i : Int) : Prop := 0 ≤ e ∧ e < M 10 b ∧ 0 ≤ i ∧ i < M 14 (12 * b + e) ∧ cnm N (12 * b + e) i = v ∧ (∀ i', 0 ≤ i' → i' < i → cnm N (12 * b + e) i' ≠ v) ∧ (∀ e', 0 ≤ e' → e' < e → NonE N M v (12 * b + e'))
theorem Fst.nn {N M : Mem} {b v e i : Int} (h : Fst N M b v e i) (h2 : Non N M b v) : False := h2 e h.1 h.2.1 i h.2.2.1 h.2.2.2.1 h.2.2.2.2.1
theorem Fst.un {N M : Mem} {b v e i e' i' : Int} (h : Fst N M b v e i) (h' : Fst N M b v e' i') : e = e' ∧ i = i' := by
  obtain ⟨a1, a2, a3, a4, a5, a6, a7⟩ := h
  obtain ⟨b1, b2, b3, b4, b5, b6, b7⟩ := h'
  by_cases x : e < e'
  · exact absurd a5 (b7 e a1 x i a3 a4)
  · by_cases y : e' < e
    · exact absurd b5 (a7 e' b1 y i' b3 b4)
    · have z : e = e' := by omega
      subst z
      refine ⟨rfl, ?_⟩
      by_cases x : i < i'
      · exact absurd a5 (b6 i a3 x)
      · by_cases y : i' < i
        · exact absurd b5 (a6 i' b3 y)
        · omega
section FND
variable {l : Launch} {G : GT} {c : Int → Int} {S : Sh} {V N M : Mem} {Q : Int → Sh → Mem → Prop} {d mc ms : Nat} {b v n : Int}
theorem find_loop {g : Int} (hW : Wv c S V = N) (hB : BkE c N M g) (h1 : ∀ i, 0 ≤ i → i < M 14 g → cnm N g i = v → (∀ i', 0 ≤ i' → i' < i → cnm N g i' ≠ v) → Q i S V) (h0 : NonE N M v g → Q (-1) S V) : ∀ (r : Nat) (i : Int), M 14 g - i = r → 0 ≤ i → (∀ i', 0 ≤ i' → i' < i → cnm N g i' ≠ v) → XJ l G bX3_findConstant Q d 2 [vr (c (128 * g + 3)), vl v, vu, vi i] [] S V mc ms := by
  obtain ⟨v', tg, ln⟩ := Wr hW
  have e4 : V (c (128 * g + 3)) 4 = M 14 g := (v' _ _ (by decide)).trans hB.en.nc
  have e3 : V (c (128 * g + 3)) 3 = c (128 * g + 4) := (v' _ _ (by decide)).trans hB.en.r3
  have n24 := hB.en.nc1
  intro r
  induction r with
  | zero =>
    intro i hr i0 hb
    refine vX3_findConstant_2 ⟨by rw [tg]; exact hB.en.g3, fun _ => h0 (fun i' a b => hb i' a (by omega)), fun z => absurd (by omega) z⟩
  | succ r ih =>
    intro i hr i0 hb
    have ei : V (c (128 * g + 4)) i = c (128 * (24 * g + i) + 5) := (v' _ _ i0).trans (hB.en.rc i i0 (by omega))
    have en : V (c (128 * (24 * g + i) + 5)) 0 = cnm N g i := v' _ _ (by decide)
    refine vX3_findConstant_2 ⟨by rw [tg]; exact hB.en.g3, fun z => absurd z (by omega), fun _ => ?_⟩
    rw [e3, ei, en]
    refine ⟨by rw [tg]; exact hB.en.g4, i0, by rw [ln, hB.en.n4]; omega, by rw [tg]; exact (hB.cn i0 (by omega)).g5, fun z => ⟨by omega, by omega, ih (i + 1) (by omega) (by omega) (fun i' a b => ?_)⟩, fun z => h1 i i0 (by omega) (Classical.not_not.1 z) hb⟩
    by_cases y : i' = i
    · rw [y]; exact z
    · exact hb i' a (by omega)
def nSg (N : Mem) (n C e i : Int) : Mem := up (up (up (up N (128 * n + 71) C e) (128 * n + 72) C i) (128 * n + 73) C 0) (128 * n + 70) 1 (C + 1)
theorem keep_loop (hc : Cn c S) (hW : Wv c S V = N) (hB : BkR c N M b) (rd : Rdr c N M n) (c0 : 0 ≤ N (128 * n + 70) 1) (c1 : N (128 * n + 70) 1 < 60) (hd : 2 ≤ d) (h1 : ∀ e i V', Fst N M b v e i → Wv c S V' = nSg N n (N (128 * n + 70) 1) e i → Q 1 S V') (h0 : Non N M b v → Q 0 S V) : ∀ (r : Nat) (e : Int), M 10 b - e = r → 0 ≤ e → (∀ e', 0 ≤ e' → e' < e → NonE N M v (12 * b + e')) → XJ l G bX4_keepSignal Q d 14 [vr (c (128 * n + 70)), vr (c (128 * b + 1)), vl v, vu, vi e, vu, vu] [] S V mc ms := by
  obtain ⟨v', tg, ln⟩ := Wr hW
  have e1 : V (c (128 * b + 1)) 1 = M 10 b := (v' _ _ (by decide)).trans hB.bk.ne
  have n12 := hB.bk.ne1
  intro r
  induction r with
  | zero =>
    intro e hr e0 hb
    refine vX4_keepSignal_14 ⟨by rw [tg]; exact hB.bk.g1, fun _ => h0 (fun e' a b => hb e' a (by omega)), fun z => absurd (by omega) z⟩
  | succ r ih =>
    intro e hr e0 hb
    have hbe := hB.be e0 (by omega : e < M 10 b)
    have nn := hbe.en.nc0
    refine vX4_keepSignal_14 ⟨by rw [tg]; exact hB.bk.g1, fun z => absurd z (by omega), fun _ => CT.pu (by omega) (fun d1 hd1 => ct_enumAt (by rw [hW]; exact hB) (fun _ _ => ⟨rfl, rfl, fun _ => ⟨by rw [tg]; exact hbe.en.g3, CT.pu (by omega) (fun d2 hd2 => qX3_findConstant fun _ _ => vX3_findConstant_0 (find_loop hW hbe (fun i i0 i1 ie ib => ⟨rfl, rfl, fun z => absurd z (by omega), fun _ => ?_⟩) (fun no => ⟨rfl, rfl, fun _ => ⟨by omega, by omega, ih (e + 1) (by omega) (by omega) (fun e' a q => ?_)⟩, fun z => absurd (by decide) z⟩) (M 14 (12 * b + e)).toNat 0 (by omega) (by decide) (fun i' a q => by omega)))⟩, fun z => absurd (hc.2 _).1 z⟩) (fun z => absurd ⟨e0, by omega⟩ z))⟩
    · have a1 : V (c (128 * n + 70)) 1 = N (128 * n + 70) 1 := v' _ _ (by decide)
      have a2 : V (c (128 * n + 70)) 2 = c (128 * n + 71) := (v' _ _ (by decide)).trans rd.r2
      have a3 : V (c (128 * n + 70)) 3 = c (128 * n + 72) := (v' _ _ (by decide)).trans rd.r3
      have a4 : V (c (128 * n + 70)) 4 = c (128 * n + 73) := (v' _ _ (by decide)).trans rd.r4
      rw [a1, a2, a3, a4]
      refine ⟨by rw [tg]; exact rd.g, by rw [tg]; exact rd.g71, c0, by rw [ln, rd.n71]; exact c1, by rw [tg]; exact rd.g72, by rw [ln, rd.n72]; exact c1, by rw [tg]; exact rd.g73, by rw [ln, rd.n73]; exact c1, by omega, by omega, h1 e i _ ⟨e0, by omega, i0, i1, ie, ib, hb⟩ ?_⟩
      unfold nSg
      rw [Wv_up hc (by decide), Wv_up hc c0, Wv_up hc c0, Wv_up hc c0, hW]
    · by_cases y : e' = e
      · rw [y]; exact no
      · exact hb e' a (by omega)
theorem ct_keepSignal (hc : Cn c S) (hW : Wv c S V = N) (hB : BkR c N M b) (rd : Rdr c N M n) (c0 : 0 ≤ N (128 * n + 70) 1) (hd : 2 ≤ d) (h1 : ∀ e i V', N (128 * n + 70) 1 < 60 → Fst N M b v e i → Wv c S V' = nSg N n (N (128 * n + 70) 1) e i → Q 1 S V') (h0 : (N (128 * n + 70) 1 < 60 → Non N M b v) → Q 0 S V) : Ct l G bX4_keepSignal Q d mc ms [vr (c (128 * n + 70)), vr (c (128 * b + 1)), vl v] S V := by
  obtain ⟨v', tg, ln⟩ := Wr hW
  have a1 : V (c (128 * n + 70)) 1 = N (128 * n + 70) 1 := v' _ _ (by decide)
  have n12 := hB.bk.ne0
  refine qX4_keepSignal fun _ _ _ => vX4_keepSignal_0 ⟨by rw [tg]; exact rd.g, fun z => ?_, fun z => h0 (fun y => absurd (by omega) z)⟩
  exact keep_loop hc hW hB rd c0 (by omega) hd (fun e i V' => h1 e i V' (by omega)) (fun q => h0 (fun _ => q)) (M 10 b).toNat 0 (by omega) (by decide) (fun e' a q => by omega)
end FND

