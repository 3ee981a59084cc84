/-! ===== book: all nodes and steps so far; the enums before ===== -/
/-- children stand where their node does -/
def NDC (M gm : Mem) (x : Int) : Prop := (M 35 x = 1 → gm 4 (M 36 x) = gm 4 x) ∧ (2 ≤ M 35 x → M 35 x ≤ 5 → gm 4 (M 36 x) = gm 4 x ∧ gm 4 (M 37 x) = gm 4 x) ∧ (M 35 x = 12 → gm 4 (M 37 x) = gm 4 x)
def NDE (N M gm : Mem) (eo K P E : Int → Int) (nt b B X ln x : Int) : Prop := PCn N M gm K P E nt b (M 39 x) (gm 4 x) B X 0 ln x ∧ (0 ≤ gm 4 x ∧ gm 4 x ≤ 3 ∧ gm 2 x < ln) ∧ (∀ p, gm 1 x ≤ p → p < gm 2 x → M 39 x = 12 * b + eo p) ∧ NDC M gm x
def CST (N M : Mem) (eo cs K P E : Int → Int) (nt b p : Int) : Prop := N 121 p = 14 ∧ (M 48 (rcn (N 121) p.toNat) = -1 - cs p ∧ M 49 (rcn (N 121) p.toNat) = -1 ∧ M 50 (rcn (N 121) p.toNat) = nmv P E b (N 122 p)) ∧ (0 ≤ N 122 p ∧ N 122 p < nt ∧ K (N 122 p) = 3) ∧ (36 * (12 * b + eo p) ≤ cs p ∧ cs p < 36 * (12 * b + eo p) + 36)
def STE (N M gm : Mem) (eo cs K P E : Int → Int) (nt b B X p : Int) : Prop := N 121 p = 0 ∨ CVp N M gm B X p ∨ CST N M eo cs K P E nt b p
def WLD (N M gm : Mem) (ow eo cs K P E : Int → Int) (nt b B X ln e F cb : Int) : Prop := (∀ x, B ≤ x → x < X → NDE N M gm eo K P E nt b B X ln x) ∧ (∀ p, 0 ≤ p → p < ln → STE N M gm eo cs K P E nt b B X p) ∧ (∀ p p', 0 ≤ p → p < p' → p' < ln → N 121 p = 14 → N 121 p' = 14 → cs p < cs p') ∧ (∀ p, 0 ≤ p → p < ln → N 121 p = 14 → cs p < cb) ∧ (∀ p, 0 ≤ ow p → ow p < 148000) ∧ (0 ≤ F ∧ F ≤ ln ∧ ∀ p, F ≤ p → p < ln → eo p = e) ∧ (B ≤ X ∧ 0 ≤ ln)
section WLDS
variable {c c' : Int → Int} {N N' M M' gm gm' : Mem} {ow ow' eo eo' cs cs' K P W E : Int → Int} {nt b B X X' ln ln' R e F cb : Int}
theorem NDE.fr {x : Int} (h : NDE N M gm eo K P E nt b B X ln x) (x0 : B ≤ x) (x1 : x < X) (G : GRW X ln R N M gm ow N' M' gm' ow') (hr : rcn (N 121) ln.toNat = R) (l0 : 0 ≤ ln) (a1 : X ≤ X') (a2 : ln ≤ ln') (eq : ∀ p, p < ln → eo' p = eo p) : NDE N' M' gm' eo' K P E nt b B X' ln' x := by
  obtain ⟨h1, h2, h3, h4⟩ := h
  have e39 := G.2.2.2.2 39 x (by decide) (by decide) x1
  have g4 := G.2.1 4 x x1
  have pk := h1.2.2.2.2
  have q := (h1.fr x0 x1 (Int.le_refl 0) G.1 (fun k y k1 k2 _ _ y1 => G.2.2.2.2 k y k1 k2 y1) (fun k1 k2 => by
    unfold PCk at pk
    exact G.2.2.2.2 38 _ (by decide) (by decide) (by omega)) (fun k i k1 k2 i1 => G.2.2.2.1 k i k1 k2 (by omega)) (fun k y _ _ _ y1 => G.2.1 k y y1)).mono (Int.le_refl B) a1 (Int.le_refl 0) a2
  have ndc : NDC M' gm' x := by
    unfold NDC
    rw [G.2.2.2.2 35 x (by decide) (by decide) x1, G.2.2.2.2 36 x (by decide) (by decide) x1, G.2.2.2.2 37 x (by decide) (by decide) x1, g4]
    refine ⟨fun y => ?_, fun y y2 => ?_, fun y => ?_⟩
    · have c1 : M 36 x < X := by unfold PCk at pk; omega
      rw [G.2.1 4 _ c1]; exact h4.1 y
    · have c1 : M 36 x < X ∧ M 37 x < X := by unfold PCk at pk; omega
      rw [G.2.1 4 _ c1.1, G.2.1 4 _ c1.2]; exact h4.2.1 y y2
    · have c1 : M 37 x < X := by unfold PCk at pk; omega
      rw [G.2.1 4 _ c1]; exact h4.2.2 y
  unfold NDE
  rw [e39, g4, G.2.1 1 x x1, G.2.1 2 x x1]
  refine ⟨q, ⟨h2.1, h2.2.1, by omega⟩, fun p p0 p1 => ?_, ndc⟩
  rw [eq p (by have := h1.1; omega)]
  exact h3 p p0 p1
theorem CVp.fr {p : Int} (h : CVp N M gm B X p) (nn : ∀ x, B ≤ x → x < X → M 35 x = 12 → M 37 x < X) (n : N' 121 p = N 121 p) (g : ∀ k y, y < X → gm' k y = gm k y) (m : ∀ k y, 35 ≤ k → k ≤ 39 → y < X → M' k y = M k y) (a : X ≤ X') : CVp N' M' gm' B X' p := by
  unfold CVp at *
  rw [n]
  refine ⟨h.1, fun y => ?_, fun y => ?_, fun y => ?_, fun y => ?_⟩
  · obtain ⟨x, x0, x1, x2, x3⟩ := h.2.1 y
    exact ⟨x, x0, by omega, by rw [g 1 x x1]; exact x2, by rw [m 35 x (by decide) (by decide) x1]; exact x3⟩
  · obtain ⟨x, x0, x1, x2, x3⟩ := h.2.2.1 y
    exact ⟨x, x0, by omega, by rw [g 1 x x1]; exact x2, by rw [m 35 x (by decide) (by decide) x1]; exact x3⟩
  · obtain ⟨x, x0, x1, x2, x3⟩ := h.2.2.2.1 y
    exact ⟨x, x0, by omega, by rw [g 1 x x1]; exact x2, by rw [m 35 x (by decide) (by decide) x1]; exact x3⟩
  · obtain ⟨x, x0, x1, x2, x3⟩ := h.2.2.2.2 y
    refine ⟨x, x0, by omega, by rw [m 35 x (by decide) (by decide) x1]; exact x2, ?_⟩
    rw [m 37 x (by decide) (by decide) x1, g 2 _ (nn x x0 x1 x2)]
    exact x3
theorem CST.fr {p : Int} (h : CST N M eo cs K P E nt b p) (p0 : 0 ≤ p) (p1 : p < ln) (G : GRW X ln R N M gm ow N' M' gm' ow') (hr : rcn (N 121) ln.toNat = R) (eq : ∀ p, p < ln → eo' p = eo p) (cq : ∀ p, p < ln → cs' p = cs p) : CST N' M' eo' cs' K P E nt b p := by
  have rl := rcn_lt p0 p1 (Or.inr (Or.inr h.1))
  have rc : rcn (N' 121) p.toNat = rcn (N 121) p.toNat := rcn_cg _ (fun i a q => (G.1 i a (by omega)).1)
  unfold CST
  rw [rc, (G.1 p p0 p1).1, (G.1 p p0 p1).2, eq p p1, cq p p1, G.2.2.2.1 48 _ (by decide) (by decide) (by omega), G.2.2.2.1 49 _ (by decide) (by decide) (by omega), G.2.2.2.1 50 _ (by decide) (by decide) (by omega)]
  exact h
theorem WLD.pk (h : WLD N M gm ow eo cs K P E nt b B X ln e F cb) : ∀ x, B ≤ x → x < X → M 35 x = 12 → M 37 x < X := fun x x0 x1 q => by
  have pk := (h.1 x x0 x1).1.2.2.2.2
  unfold PCk at pk
  omega
/-- the steps that stand, under growth -/
theorem WLD.old (h : WLD N M gm ow eo cs K P E nt b B X ln e F cb) (G : GRW X ln R N M gm ow N' M' gm' ow') (hr : rcn (N 121) ln.toNat = R) (a1 : X ≤ X') (eq : ∀ p, p < ln → eo' p = eo p) (cq : ∀ p, p < ln → cs' p = cs p) : ∀ p, 0 ≤ p → p < ln → STE N' M' gm' eo' cs' K P E nt b B X' p := fun p p0 p1 => by
  rcases h.2.1 p p0 p1 with q | q | q
  · exact Or.inl ((G.1 p p0 p1).1.trans q)
  · exact Or.inr (Or.inl (q.fr h.pk (G.1 p p0 p1).1 G.2.1 G.2.2.2.2 a1))
  · exact Or.inr (Or.inr (q.fr p0 p1 G hr eq cq))
/-- nothing added -/
theorem WLD.fr (h : WLD N M gm ow eo cs K P E nt b B X ln e F cb) (G : GRW X ln R N M gm ow N' M' gm' ow) (hr : rcn (N 121) ln.toNat = R) : WLD N' M' gm' ow eo cs K P E nt b B X ln e F cb := by
  have l0 := h.2.2.2.2.2.2.2
  refine ⟨fun x x0 x1 => (h.1 x x0 x1).fr x0 x1 G hr l0 (Int.le_refl _) (Int.le_refl _) (fun _ _ => rfl), h.old G hr (Int.le_refl _) (fun _ _ => rfl) (fun _ _ => rfl), fun p p' p0 p1 p2 o1 o2 => ?_, fun p p0 p1 o => ?_, h.2.2.2.2⟩
  · rw [(G.1 p p0 (by omega)).1] at o1
    rw [(G.1 p' (by omega) p2).1] at o2
    exact h.2.2.1 p p' p0 p1 p2 o1 o2
  · rw [(G.1 p p0 p1).1] at o
    exact h.2.2.2.1 p p0 p1 o
theorem WLD.cbm {cb' : Int} (h : WLD N M gm ow eo cs K P E nt b B X ln e F cb) (a : cb ≤ cb') : WLD N M gm ow eo cs K P E nt b B X ln e F cb' := ⟨h.1, h.2.1, h.2.2.1, fun p p0 p1 o => by have := h.2.2.2.1 p p0 p1 o; omega, h.2.2.2.2⟩
theorem ER.grw {g st j j' x : Int} (r : ER c N M gm K P W E nt b g st B j ln N' M' gm' x j' ln') (oq : ∀ p, p < ln → ow' p = ow p) : GRW (M 0 40) ln (M 0 51) N M gm ow N' M' gm' ow' := by
  obtain ⟨ls, fn, fm, gf, T, r1, r2⟩ := r
  exact ⟨fun i i0 i1 => ⟨fn 121 i (by omega) (by omega) (by omega), fn 122 i (by omega) (by omega) (by omega)⟩, gf, oq, fun k i k1 k2 i1 => fm k i (by omega) (by omega) (by omega), fun k y k1 k2 y1 => fm k y (by omega) (by omega) (by omega)⟩
def owU (ow : Int → Int) (l l' sl : Int) : Int → Int := fun p => if l ≤ p ∧ p < l' then sl else ow p
theorem owU_lt {l l' sl p : Int} (h : p < l) : owU ow l l' sl p = ow p := if_neg (by omega)
theorem owU_in {l l' sl p : Int} (h : l ≤ p) (h2 : p < l') : owU ow l l' sl p = sl := if_pos ⟨h, h2⟩
/-- an expr added -/
theorem WLD.exp {st j j' x sl : Int} (h : WLD N M gm ow eo cs K P E nt b B (M 0 40) ln e F cb) (cn : CN b B st) (hr : rcn (N 121) ln.toNat = M 0 51) (r : ER c N M gm K P W E nt b (12 * b + e) st B j ln N' M' gm' x j' ln') (hs : sl < 148000) : WLD N' M' gm' (owU ow ln ln' sl) (owU eo ln (ln' + 1) e) cs K P E nt b B (M' 0 40) (ln' + 1) e F cb ∧ (∀ lv, st ≤ lv → RTr N' gm' (owU ow ln ln' sl) B (M' 0 40) (ln' + 1) ln x lv sl) := by
  have G := r.grw (ow := ow) (ow' := owU ow ln ln' sl) (fun p q => owU_lt q)
  obtain ⟨ls, fn, fm, gf, T, ⟨r1, r2, r3, r4, r5⟩, ⟨b1, b2, b3, b4, b5, b6⟩⟩ := r
  obtain ⟨h1, h2, h3, h4, h5, ⟨h6, h6', h6''⟩, h7, h8⟩ := id h
  have cb' := cn
  unfold CN at cb'
  have eq : ∀ p, p < ln → owU eo ln (ln' + 1) e p = eo p := fun p q => owU_lt q
  have t0 := (T.1 x r1 r2).1
  refine ⟨⟨fun y y0 y1 => ?_, fun p p0 p1 => ?_, fun p p' p0 p1 p2 o1 o2 => ?_, fun p p0 p1 o => ?_, fun p q => ?_, ⟨h6, by omega, fun p p0 p1 => ?_⟩, by omega, by omega⟩, fun lv hl => ⟨by omega, r2, r3, h8, by omega, by omega, ?_, by rw [r4]; exact r5, fun i i0 i1 => owU_in (by omega) (by omega)⟩⟩
  · by_cases q : y < M 0 40
    · exact (h1 y y0 q).fr y0 q G hr h8 (by omega) (by omega) eq
    · have t := (T.1 y (by omega) y1)
      have t1 := t.1
      have m39 : M' 39 y = 12 * b + e := t.2.2.2.1
      have m4 : gm' 4 y = st := t.2.2.1
      have pk := t.2.2.2.2
      refine ⟨?_, by omega, fun p p0 p1 => by rw [owU_in (by omega) (by omega)]; exact m39, ?_⟩
      · rw [m39, m4]
        exact t.mono (by omega) (Int.le_refl _) (by omega) (by omega)
      · unfold NDC
        rw [m4]
        refine ⟨fun a1 => ?_, fun a1 a2 => ?_, fun a1 => ?_⟩
        · have c1 : M 0 40 ≤ M' 36 y ∧ M' 36 y < M' 0 40 := by unfold PCk at pk; omega
          exact (T.1 _ c1.1 c1.2).2.2.1
        · have c1 : (M 0 40 ≤ M' 36 y ∧ M' 36 y < M' 0 40) ∧ M 0 40 ≤ M' 37 y ∧ M' 37 y < M' 0 40 := by unfold PCk at pk; omega
          exact ⟨(T.1 _ c1.1.1 c1.1.2).2.2.1, (T.1 _ c1.2.1 c1.2.2).2.2.1⟩
        · have c1 : M 0 40 ≤ M' 37 y ∧ M' 37 y < M' 0 40 := by unfold PCk at pk; omega
          exact (T.1 _ c1.1 c1.2).2.2.1
  · by_cases q : p < ln
    · exact h.old G hr (by omega) eq (fun _ _ => rfl) p p0 q
    · by_cases q2 : p = ln'
      · subst q2; exact Or.inl r5
      · exact Or.inr (Or.inl ((T.2 p (by omega) (by omega)).mono (by omega) (Int.le_refl _)))
  · have k : ∀ p, ln ≤ p → p < ln' + 1 → N' 121 p ≠ 14 := fun p q1 q2 o => by
      by_cases q3 : p = ln'
      · subst q3; omega
      · have := (T.2 p (by omega) (by omega)).1; omega
    by_cases q : p' < ln
    · rw [(G.1 p p0 (by omega)).1] at o1
      rw [(G.1 p' (by omega) q).1] at o2
      exact h3 p p' p0 p1 q o1 o2
    · exact absurd o2 (k p' (by omega) (by omega))
  · by_cases q : p < ln
    · rw [(G.1 p p0 q).1] at o
      exact h4 p p0 q o
    · by_cases q3 : p = ln'
      · subst q3; omega
      · have := (T.2 p (by omega) (by omega)).1; omega
  · by_cases q2 : ln ≤ p ∧ p < ln'
    · rw [owU_in q2.1 q2.2]; exact hs
    · have : owU ow ln ln' sl p = ow p := if_neg q2
      rw [this] at q ⊢
      exact h5 p q
  · by_cases q2 : p < ln
    · rw [owU_lt q2]; exact h6'' p p0 q2
    · exact owU_in (by omega) (by omega)
  · rw [(T.1 x r1 r2).2.2.1]; exact hl
/-! the enums before -/
def PE (c : Int → Int) (N M gm : Mem) (ow eo K P W E : Int → Int) (nt b B X ln e : Int) : Prop := HE c N M (12 * b + e) ∧ 1 ≤ M 14 (12 * b + e) ∧ M 13 (12 * b + e) / 16 + M 13 (12 * b + e) % 16 ≤ 3000 * (b + 1) ∧ EI c N M gm ow K P W E nt b B X ln e (M 14 (12 * b + e)) (M 15 (12 * b + e)) (M 16 (12 * b + e)) (M 17 (12 * b + e)) (M 18 (12 * b + e)) ∧ (0 ≤ N (128 * (12 * b + e) + 3) 1 ∧ N (128 * (12 * b + e) + 3) 1 ≤ N (128 * (12 * b + e) + 3) 2 ∧ N (128 * (12 * b + e) + 3) 2 ≤ ln) ∧ (∀ p, N (128 * (12 * b + e) + 3) 1 ≤ p → p < N (128 * (12 * b + e) + 3) 2 → eo p = e) ∧ (e = 0 → N (128 * (12 * b + e) + 3) 1 = 0) ∧ (0 < e → N (128 * (12 * b + e) + 3) 1 = N (128 * (12 * b + (e - 1)) + 3) 2)
def prN (b e L : Int) : Prop := ((L % 128 = 3 ∨ L % 128 = 4 ∨ L % 128 = 7 ∨ L % 128 = 8 ∨ (12 ≤ L % 128 ∧ L % 128 ≤ 16)) ∧ 12 * b ≤ L / 128 ∧ L / 128 < 12 * b + e) ∨ ((L % 128 = 5 ∨ L % 128 = 6) ∧ 288 * b ≤ L / 128 ∧ L / 128 < 288 * b + 24 * e) ∨ ((9 ≤ L % 128 ∧ L % 128 ≤ 11) ∧ 48 * b ≤ L / 128 ∧ L / 128 < 48 * b + 4 * e) ∨ ((17 ≤ L % 128 ∧ L % 128 ≤ 19) ∧ 36 * b ≤ L / 128 ∧ L / 128 < 36 * b + 3 * e)
def prM (b e k i : Int) : Prop := (13 ≤ k ∧ k ≤ 18 ∧ 12 * b ≤ i ∧ i < 12 * b + e) ∨ ((k = 19 ∨ k = 23 ∨ k = 24 ∨ k = 27 ∨ k = 28) ∧ 48 * b ≤ i ∧ i < 48 * b + 4 * e) ∨ ((k = 20 ∨ k = 21) ∧ 288 * b ≤ i ∧ i < 288 * b + 24 * e) ∨ (k = 22 ∧ 1152 * b ≤ i ∧ i < 1152 * b + 96 * e) ∨ (k = 25 ∧ 576 * b ≤ i ∧ i < 576 * b + 48 * e) ∨ ((k = 26 ∨ k = 29 ∨ k = 30 ∨ k = 34) ∧ 36 * b ≤ i ∧ i < 36 * b + 3 * e) ∨ ((k = 31 ∨ k = 33) ∧ 432 * b ≤ i ∧ i < 432 * b + 36 * e) ∨ k = 7
theorem prN_it {nc nu nk nh ns e' L k : Int} (h : itN (12 * b + e') nc nu nk nh ns L k) (e0 : 0 ≤ e') (e1 : e' < e) (c1 : nc ≤ 24) (c2 : nu ≤ 4) (c5 : ns ≤ 3) : prN b e L := by
  rcases h with h | h | h | h | h | h
  · exact Or.inr (Or.inl ⟨h.1, by omega, by omega⟩)
  · exact Or.inr (Or.inr (Or.inl ⟨by omega, by omega, by omega⟩))
  · exact Or.inl ⟨by omega, by omega, by omega⟩
  · exact Or.inl ⟨by omega, by omega, by omega⟩
  · exact Or.inr (Or.inr (Or.inr ⟨by omega, by omega, by omega⟩))
  · exact Or.inl ⟨by omega, by omega, by omega⟩
theorem prM_it {nc nu nk nh ns e' k i : Int} (h : itM (12 * b + e') nc nu nk nh ns k i) (e0 : 0 ≤ e') (e1 : e' < e) (c1 : nc ≤ 24) (c2 : nu ≤ 4) (c3 : nk ≤ 3) (c4 : nh ≤ 4) (c5 : ns ≤ 3) : prM b e k i := by
  rcases h with h | h | h | h | h | h | h | h | h | h
  · exact Or.inr (Or.inr (Or.inl ⟨h.1, by omega, by omega⟩))
  · exact Or.inr (Or.inr (Or.inr (Or.inl ⟨h.1, by omega, by omega⟩)))
  · exact Or.inr (Or.inl ⟨by omega, by omega, by omega⟩)
  · exact Or.inr (Or.inr (Or.inr (Or.inr (Or.inl ⟨h.1, by omega, by omega⟩))))
  · exact Or.inr (Or.inr (Or.inr (Or.inr (Or.inr (Or.inl ⟨by omega, by omega, by omega⟩)))))
  · exact Or.inr (Or.inl ⟨by omega, by omega, by omega⟩)
  · exact Or.inr (Or.inr (Or.inr (Or.inr (Or.inr (Or.inl ⟨by omega, by omega, by omega⟩)))))
  · exact Or.inr (Or.inr (Or.inr (Or.inr (Or.inr (Or.inr (Or.inl ⟨h.1, by omega, by omega⟩))))))
  · exact Or.inr (Or.inl ⟨by omega, by omega, by omega⟩)
  · exact Or.inr (Or.inr (Or.inr (Or.inr (Or.inr (Or.inr (Or.inr h))))))
theorem PE.fr {e' : Int} (h : PE c N M gm ow eo K P W E nt b B X ln e') (e0 : 0 ≤ e') (e1 : e' < e) (G : GRW X ln R N M gm ow N' M' gm' ow') (hr : rcn (N 121) ln.toNat = R) (a1 : X ≤ X') (a2 : ln ≤ ln') (eq : ∀ p, p < ln → eo' p = eo p) (hN : ∀ L k, prN b e L → c' L = c L ∧ N' L k = N L k) (hM : ∀ k i, prM b e k i → M' k i = M k i) : PE c' N' M' gm' ow' eo' K P W E nt b B X' ln' e' := by
  obtain ⟨h1, h2, h3, h4, h5, h6, h7, h8⟩ := h
  have nc := h1.nc1
  have nu := h1.nt1
  have nk := h1.nk1
  have nh := h1.nh1
  have nw := h1.nw1
  have m7 : ∀ i, M' 7 i = M 7 i := fun i => hM 7 i (Or.inr (Or.inr (Or.inr (Or.inr (Or.inr (Or.inr (Or.inr rfl)))))))
  have mm : ∀ k, 13 ≤ k → k ≤ 18 → M' k (12 * b + e') = M k (12 * b + e') := fun k k1 k2 => hM k _ (Or.inl ⟨k1, k2, by omega, by omega⟩)
  have n3 : ∀ k, N' (128 * (12 * b + e') + 3) k = N (128 * (12 * b + e') + 3) k := fun k => (hN _ k (Or.inl ⟨by omega, by omega, by omega⟩)).2
  have n3p : 0 < e' → N' (128 * (12 * b + (e' - 1)) + 3) 2 = N (128 * (12 * b + (e' - 1)) + 3) 2 := fun q => (hN _ 2 (Or.inl ⟨by omega, by omega, by omega⟩)).2
  unfold PE
  rw [mm 14 (by decide) (by decide), mm 13 (by decide) (by decide), mm 15 (by decide) (by decide), mm 16 (by decide) (by decide), mm 17 (by decide) (by decide), mm 18 (by decide) (by decide), n3, n3]
  refine ⟨h1.fr (fun L k q => hN L k ?_) (fun L q => hN L (-1) ?_) mm m7, h2, h3, h4.fr G hr a1 a2 (fun L k q => hN L k (prN_it q e0 e1 nc nu nw)) (fun k i q => hM k i (prM_it q e0 e1 nc nu nk nh nw)), ⟨h5.1, h5.2.1, by omega⟩, fun p p0 p1 => (eq p (by omega)).trans (h6 p p0 p1), h7, fun q => by rw [n3p q]; exact h8 q⟩
  · unfold hdL at q
    exact Or.inl ⟨by omega, by omega, by omega⟩
  · rcases q with q | q | q
    · exact Or.inr (Or.inl ⟨by omega, by omega, by omega⟩)
    · exact Or.inr (Or.inr (Or.inl ⟨by omega, by omega, by omega⟩))
    · exact Or.inr (Or.inr (Or.inr ⟨by omega, by omega, by omega⟩))
end WLDS
