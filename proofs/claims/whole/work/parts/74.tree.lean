/-! ===== book: exprs as they are read: nodes against steps ===== -/
def rfs (o : Int) : Int := if o = 11 ∨ o = 12 ∨ o = 14 then 1 else 0
def rcn (f : Int → Int) : Nat → Int
  | 0 => 0
  | n + 1 => rcn f n + rfs (f n)
theorem rcn_cg {f g : Int → Int} : ∀ n : Nat, (∀ k : Int, 0 ≤ k → k < n → f k = g k) → rcn f n = rcn g n := by
  intro n
  induction n with
  | zero => intro _; rfl
  | succ n ih =>
    intro h
    show rcn f n + rfs (f n) = rcn g n + rfs (g n)
    rw [ih (fun k a b => h k a (by omega)), h n (by omega) (by omega)]
theorem rcn_le {f : Int → Int} : ∀ (n m : Nat), n ≤ m → rcn f n ≤ rcn f m := by
  intro n m
  induction m with
  | zero => intro h; have : n = 0 := by omega
            subst this; exact Int.le_refl _
  | succ m ih =>
    intro h
    by_cases y : n = m + 1
    · subst y; exact Int.le_refl _
    · have := ih (by omega)
      show rcn f n ≤ rcn f m + rfs (f m)
      have : 0 ≤ rfs (f m) := by unfold rfs; split <;> decide
      omega
theorem rcn_0 {f : Int → Int} (n : Nat) : 0 ≤ rcn f n := by
  have := rcn_le (f := f) 0 n (by omega)
  exact this
theorem rcn_lt {f : Int → Int} {p m : Int} (p0 : 0 ≤ p) (h : p < m) (o : f p = 11 ∨ f p = 12 ∨ f p = 14) : rcn f p.toNat < rcn f m.toNat := by
  have h1 := rcn_le (f := f) (p.toNat + 1) m.toNat (by omega)
  have h2 : rcn f (p.toNat + 1) = rcn f p.toNat + rfs (f p.toNat) := rfl
  rw [show ((p.toNat : Nat) : Int) = p from by omega] at h2
  have : rfs (f p) = 1 := by unfold rfs; rw [if_pos o]
  omega
theorem rcn_s {f : Int → Int} {n : Int} (n0 : 0 ≤ n) : rcn f (n + 1).toNat = rcn f n.toNat + rfs (f n) := by
  rw [show (n + 1).toNat = n.toNat + 1 from by omega]
  show rcn f n.toNat + rfs (f n.toNat) = _
  rw [show ((n.toNat : Nat) : Int) = n from by omega]
section TRE
variable {N N' M M' gm gm' : Mem} {K P E : Int → Int} {nt b g st X X' X1 L L' L1 x p : Int}
def RFn (N M : Mem) (K P E : Int → Int) (nt b p x : Int) : Prop := M 48 (rcn (N 121) p.toNat) = x ∧ 0 ≤ N 122 p ∧ N 122 p + 1 < nt ∧ K (N 122 p) = 3 ∧ ((K (N 122 p + 1) ≠ 46 ∧ M 49 (rcn (N 121) p.toNat) = -1 ∧ M 50 (rcn (N 121) p.toNat) = nmv P E b (N 122 p)) ∨ (K (N 122 p + 1) = 46 ∧ N 122 p + 2 < nt ∧ K (N 122 p + 2) = 3 ∧ M 49 (rcn (N 121) p.toNat) = nmv P E b (N 122 p) ∧ M 50 (rcn (N 121) p.toNat) = nmv P E b (N 122 p + 2)))
def PCk (N M gm : Mem) (K P E : Int → Int) (nt b X X' x : Int) : Prop :=
  (M 35 x = 0 ∧ gm 2 x = gm 1 x + 1 ∧ N 121 (gm 1 x) = 1 ∧ N 122 (gm 1 x) = M 36 x) ∨
  (M 35 x = 1 ∧ X ≤ M 36 x ∧ M 36 x < X' ∧ gm 1 (M 36 x) = gm 1 x ∧ gm 2 x = gm 2 (M 36 x) + 1 ∧ gm 3 (M 36 x) + 1 ≤ gm 3 x ∧ N 121 (gm 2 (M 36 x)) = 6) ∨
  (2 ≤ M 35 x ∧ M 35 x ≤ 5 ∧ X ≤ M 36 x ∧ M 36 x < X' ∧ X ≤ M 37 x ∧ M 37 x < X' ∧ gm 1 (M 36 x) = gm 1 x ∧ gm 1 (M 37 x) = gm 2 (M 36 x) ∧ gm 2 x = gm 2 (M 37 x) + 1 ∧ gm 3 (M 37 x) + 1 ≤ gm 3 x ∧ gm 3 (M 36 x) ≤ gm 3 x ∧ M 38 (M 36 x) = x ∧ (¬ (2 ≤ M 35 (M 36 x) ∧ M 35 (M 36 x) ≤ 5) → gm 3 (M 36 x) + 1 ≤ gm 3 x) ∧ N 121 (gm 2 (M 37 x)) = M 35 x + 5) ∨
  (M 35 x = 6 ∧ gm 2 x = gm 1 x + 1 ∧ N 121 (gm 1 x) = 3 ∧ 2 ≤ gm 4 x) ∨
  (M 35 x = 7 ∧ gm 2 x = gm 1 x + 1 ∧ N 121 (gm 1 x) = 2 ∧ 1 ≤ gm 4 x) ∨
  (M 35 x = 8 ∧ gm 2 x = gm 1 x + 1 ∧ N 121 (gm 1 x) = 4 ∧ gm 4 x = 3) ∨
  (M 35 x = 9 ∧ gm 2 x = gm 1 x + 1 ∧ N 121 (gm 1 x) = 5) ∨
  (M 35 x = 10 ∧ gm 2 x = gm 1 x + 1 ∧ N 121 (gm 1 x) = 11 ∧ RFn N M K P E nt b (gm 1 x) x) ∨
  (M 35 x = 12 ∧ N 121 (gm 1 x) = 12 ∧ X ≤ M 37 x ∧ M 37 x < X' ∧ gm 1 (M 37 x) = gm 1 x + 1 ∧ gm 2 x = gm 2 (M 37 x) + 1 ∧ gm 3 (M 37 x) + 1 ≤ gm 3 x ∧ N 121 (gm 2 (M 37 x)) = 13 ∧ N 122 (gm 2 (M 37 x)) = N 122 (gm 1 x) ∧ RFn N M K P E nt b (gm 1 x) x)
def PCn (N M gm : Mem) (K P E : Int → Int) (nt b g st X X' L L' x : Int) : Prop := (L ≤ gm 1 x ∧ gm 1 x < gm 2 x ∧ gm 2 x ≤ L') ∧ (1 ≤ gm 3 x ∧ gm 3 x ≤ 39) ∧ gm 4 x = st ∧ M 39 x = g ∧ PCk N M gm K P E nt b X X' x
def CVp (N M gm : Mem) (X X' p : Int) : Prop := (1 ≤ N 121 p ∧ N 121 p ≤ 13) ∧ (N 121 p = 5 → ∃ x, X ≤ x ∧ x < X' ∧ gm 1 x = p ∧ M 35 x = 9) ∧ (N 121 p = 11 → ∃ x, X ≤ x ∧ x < X' ∧ gm 1 x = p ∧ M 35 x = 10) ∧ (N 121 p = 12 → ∃ x, X ≤ x ∧ x < X' ∧ gm 1 x = p ∧ M 35 x = 12) ∧ (N 121 p = 13 → ∃ x, X ≤ x ∧ x < X' ∧ M 35 x = 12 ∧ gm 2 (M 37 x) = p)
def TRE (N M gm : Mem) (K P E : Int → Int) (nt b g st X X' L L' : Int) : Prop := (∀ x, X ≤ x → x < X' → PCn N M gm K P E nt b g st X X' L L' x) ∧ (∀ p, L ≤ p → p < L' → CVp N M gm X X' p)
theorem PCk.mono {Y Y' : Int} (h : PCk N M gm K P E nt b X X' x) (a : Y ≤ X) (q : X' ≤ Y') : PCk N M gm K P E nt b Y Y' x := by
  unfold PCk at *
  rcases h with h | h | h | h | h | h | h | h | h
  · exact Or.inl h
  · exact Or.inr (Or.inl ⟨h.1, by omega, by omega, h.2.2.2⟩)
  · exact Or.inr (Or.inr (Or.inl ⟨h.1, h.2.1, by omega, by omega, by omega, by omega, h.2.2.2.2.2.2⟩))
  · exact Or.inr (Or.inr (Or.inr (Or.inl h)))
  · exact Or.inr (Or.inr (Or.inr (Or.inr (Or.inl h))))
  · exact Or.inr (Or.inr (Or.inr (Or.inr (Or.inr (Or.inl h)))))
  · exact Or.inr (Or.inr (Or.inr (Or.inr (Or.inr (Or.inr (Or.inl h))))))
  · exact Or.inr (Or.inr (Or.inr (Or.inr (Or.inr (Or.inr (Or.inr (Or.inl h)))))))
  · exact Or.inr (Or.inr (Or.inr (Or.inr (Or.inr (Or.inr (Or.inr (Or.inr ⟨h.1, h.2.1, by omega, by omega, h.2.2.2.2⟩)))))))
theorem PCn.mono {Y Y' J J' : Int} (h : PCn N M gm K P E nt b g st X X' L L' x) (a : Y ≤ X) (q : X' ≤ Y') (a2 : J ≤ L) (q2 : L' ≤ J') : PCn N M gm K P E nt b g st Y Y' J J' x := ⟨⟨by have := h.1; omega, h.1.2.1, by have := h.1; omega⟩, h.2.1, h.2.2.1, h.2.2.2.1, h.2.2.2.2.mono a q⟩
theorem CVp.mono {Y Y' : Int} (h : CVp N M gm X X' p) (a : Y ≤ X) (q : X' ≤ Y') : CVp N M gm Y Y' p := by
  refine ⟨h.1, fun y => ?_, fun y => ?_, fun y => ?_, fun y => ?_⟩
  · obtain ⟨x, x0, x1, x2⟩ := h.2.1 y
    exact ⟨x, by omega, by omega, x2⟩
  · obtain ⟨x, x0, x1, x2⟩ := h.2.2.1 y
    exact ⟨x, by omega, by omega, x2⟩
  · obtain ⟨x, x0, x1, x2⟩ := h.2.2.2.1 y
    exact ⟨x, by omega, by omega, x2⟩
  · obtain ⟨x, x0, x1, x2⟩ := h.2.2.2.2 y
    exact ⟨x, by omega, by omega, x2⟩
/-- what an expr's nodes and steps hang on -/
theorem RFn.fr (h : RFn N M K P E nt b p x) (p0 : 0 ≤ p) (n : ∀ i, 0 ≤ i → i ≤ p → N' 121 i = N 121 i ∧ N' 122 i = N 122 i) (r : ∀ k, 48 ≤ k → k ≤ 50 → M' k (rcn (N 121) p.toNat) = M k (rcn (N 121) p.toNat)) : RFn N' M' K P E nt b p x := by
  unfold RFn at *
  rw [rcn_cg (f := N' 121) (g := N 121) p.toNat (fun k a q => (n k a (by omega)).1), (n p p0 (Int.le_refl _)).2, r 48 (by decide) (by decide), r 49 (by decide) (by decide), r 50 (by decide) (by decide)]
  exact h
theorem PCn.fr (h : PCn N M gm K P E nt b g st X X' L L' x) (x0 : X ≤ x) (x1 : x < X') (L0 : 0 ≤ L) (n : ∀ i, 0 ≤ i → i < L' → N' 121 i = N 121 i ∧ N' 122 i = N 122 i) (m : ∀ k y, 35 ≤ k → k ≤ 39 → k ≠ 38 → X ≤ y → y < X' → M' k y = M k y) (m38 : 2 ≤ M 35 x → M 35 x ≤ 5 → M' 38 (M 36 x) = M 38 (M 36 x)) (r : ∀ k i, 48 ≤ k → k ≤ 50 → i < rcn (N 121) L'.toNat → M' k i = M k i) (gg : ∀ k y, 1 ≤ k → k ≤ 4 → X ≤ y → y < X' → gm' k y = gm k y) : PCn N' M' gm' K P E nt b g st X X' L L' x := by
  have m' := fun k a q q2 => m k x a q q2 x0 x1
  have g' := fun k a q => gg k x a q x0 x1
  obtain ⟨⟨h1, h2, h3⟩, h4, h5, h6, hk⟩ := h
  refine ⟨?_, ?_, ?_, ?_, ?_⟩
  · rw [g' 1 (by decide) (by decide), g' 2 (by decide) (by decide)]; exact ⟨h1, h2, h3⟩
  · rw [g' 3 (by decide) (by decide)]; exact h4
  · rw [g' 4 (by decide) (by decide)]; exact h5
  · rw [m' 39 (by decide) (by decide) (by decide)]; exact h6
  · unfold PCk at *
    rw [m' 35 (by decide) (by decide) (by decide), m' 36 (by decide) (by decide) (by decide), m' 37 (by decide) (by decide) (by decide), g' 1 (by decide) (by decide), g' 2 (by decide) (by decide), g' 3 (by decide) (by decide), g' 4 (by decide) (by decide), (n (gm 1 x) (by omega) (by omega)).1, (n (gm 1 x) (by omega) (by omega)).2]
    have fr : (N 121 (gm 1 x) = 11 ∨ N 121 (gm 1 x) = 12) → RFn N M K P E nt b (gm 1 x) x → RFn N' M' K P E nt b (gm 1 x) x := fun o q => q.fr (by omega) (fun i a q => n i a (by omega)) (fun k a q => r k _ a q (rcn_lt (by omega) (by omega) (by omega)))
    rcases hk with h | h | h | h | h | h | h | h | h
    · exact Or.inl h
    · refine Or.inr (Or.inl ?_)
      obtain ⟨k1, k2, k3, k4, k5, k6, k7⟩ := h
      rw [gg 1 _ (by decide) (by decide) k2 k3, gg 2 _ (by decide) (by decide) k2 k3, gg 3 _ (by decide) (by decide) k2 k3, (n (gm 2 (M 36 x)) (by omega) (by omega)).1]
      exact ⟨k1, k2, k3, k4, k5, k6, k7⟩
    · refine Or.inr (Or.inr (Or.inl ?_))
      obtain ⟨k1, k2, k3, k4, k5, k6, k7, k8, k9, k10, k11, k12, k13, k14⟩ := h
      rw [gg 1 _ (by decide) (by decide) k3 k4, gg 2 _ (by decide) (by decide) k3 k4, gg 3 _ (by decide) (by decide) k3 k4, gg 1 _ (by decide) (by decide) k5 k6, gg 2 _ (by decide) (by decide) k5 k6, gg 3 _ (by decide) (by decide) k5 k6, (n (gm 2 (M 37 x)) (by omega) (by omega)).1, m38 k1 k2, m 35 _ (by decide) (by decide) (by decide) k3 k4]
      exact ⟨k1, k2, k3, k4, k5, k6, k7, k8, k9, k10, k11, k12, k13, k14⟩
    · exact Or.inr (Or.inr (Or.inr (Or.inl h)))
    · exact Or.inr (Or.inr (Or.inr (Or.inr (Or.inl h))))
    · exact Or.inr (Or.inr (Or.inr (Or.inr (Or.inr (Or.inl h)))))
    · exact Or.inr (Or.inr (Or.inr (Or.inr (Or.inr (Or.inr (Or.inl h))))))
    · exact Or.inr (Or.inr (Or.inr (Or.inr (Or.inr (Or.inr (Or.inr (Or.inl ⟨h.1, h.2.1, h.2.2.1, fr (Or.inl h.2.2.1) h.2.2.2⟩)))))))
    · refine Or.inr (Or.inr (Or.inr (Or.inr (Or.inr (Or.inr (Or.inr (Or.inr ?_)))))))
      obtain ⟨k1, k2, k3, k4, k5, k6, k7, k8, k9, k10⟩ := h
      rw [gg 1 _ (by decide) (by decide) k3 k4, gg 2 _ (by decide) (by decide) k3 k4, gg 3 _ (by decide) (by decide) k3 k4, (n (gm 2 (M 37 x)) (by omega) (by omega)).1, (n (gm 2 (M 37 x)) (by omega) (by omega)).2]
      exact ⟨k1, k2, k3, k4, k5, k6, k7, k8, k9, fr (Or.inr k2) k10⟩
theorem TRE.fr (h : TRE N M gm K P E nt b g st X X' L L') (L0 : 0 ≤ L) (n : ∀ i, 0 ≤ i → i < L' → N' 121 i = N 121 i ∧ N' 122 i = N 122 i) (m : ∀ k y, 35 ≤ k → k ≤ 39 → k ≠ 38 → X ≤ y → y < X' → M' k y = M k y) (m38 : ∀ x, X ≤ x → x < X' → 2 ≤ M 35 x → M 35 x ≤ 5 → M' 38 (M 36 x) = M 38 (M 36 x)) (r : ∀ k i, 48 ≤ k → k ≤ 50 → i < rcn (N 121) L'.toNat → M' k i = M k i) (gg : ∀ k y, 1 ≤ k → k ≤ 4 → X ≤ y → y < X' → gm' k y = gm k y) : TRE N' M' gm' K P E nt b g st X X' L L' := by
  refine ⟨fun x x0 x1 => (h.1 x x0 x1).fr x0 x1 L0 n m (m38 x x0 x1) r gg, fun p p0 p1 => ?_⟩
  have q := h.2 p p0 p1
  unfold CVp at *
  rw [(n p (by omega) p1).1]
  refine ⟨q.1, fun y => ?_, fun y => ?_, fun y => ?_, fun y => ?_⟩
  · obtain ⟨x, x0, x1, x2, x3⟩ := q.2.1 y
    exact ⟨x, x0, x1, by rw [gg 1 x (by decide) (by decide) x0 x1]; exact x2, by rw [m 35 x (by decide) (by decide) (by decide) x0 x1]; exact x3⟩
  · obtain ⟨x, x0, x1, x2, x3⟩ := q.2.2.1 y
    exact ⟨x, x0, x1, by rw [gg 1 x (by decide) (by decide) x0 x1]; exact x2, by rw [m 35 x (by decide) (by decide) (by decide) x0 x1]; exact x3⟩
  · obtain ⟨x, x0, x1, x2, x3⟩ := q.2.2.2.1 y
    exact ⟨x, x0, x1, by rw [gg 1 x (by decide) (by decide) x0 x1]; exact x2, by rw [m 35 x (by decide) (by decide) (by decide) x0 x1]; exact x3⟩
  · obtain ⟨x, x0, x1, x2, x3⟩ := q.2.2.2.2 y
    have z : X ≤ M 37 x ∧ M 37 x < X' := by
      have k := (h.1 x x0 x1).2.2.2.2
      unfold PCk at k
      omega
    refine ⟨x, x0, x1, by rw [m 35 x (by decide) (by decide) (by decide) x0 x1]; exact x2, ?_⟩
    rw [m 37 x (by decide) (by decide) (by decide) x0 x1, gg 2 _ (by decide) (by decide) z.1 z.2]
    exact x3
theorem TRE.mono {Y Y' J J' : Int} (h : TRE N M gm K P E nt b g st X X' L L') (a : Y ≤ X) (q : X' ≤ Y') (a2 : J ≤ L) (q2 : L' ≤ J') : (∀ x, X ≤ x → x < X' → PCn N M gm K P E nt b g st Y Y' J J' x) ∧ (∀ p, L ≤ p → p < L' → CVp N M gm Y Y' p) := ⟨fun x x0 x1 => (h.1 x x0 x1).mono a q a2 q2, fun p p0 p1 => (h.2 p p0 p1).mono a q⟩
theorem TRE.app (h : TRE N M gm K P E nt b g st X X1 L L1) (h2 : TRE N M gm K P E nt b g st X1 X' L1 L') (a1 : X ≤ X1) (a2 : X1 ≤ X') (q1 : L ≤ L1) (q2 : L1 ≤ L') : TRE N M gm K P E nt b g st X X' L L' := by
  have k1 := h.mono (Int.le_refl X) a2 (Int.le_refl L) q2
  have k2 := h2.mono a1 (Int.le_refl X') q1 (Int.le_refl L')
  refine ⟨fun x x0 x1 => ?_, fun p p0 p1 => ?_⟩
  · by_cases y : x < X1
    · exact k1.1 x x0 y
    · exact k2.1 x (by omega) x1
  · by_cases y : p < L1
    · exact k1.2 p p0 y
    · exact k2.2 p (by omega) p1
/-- one more node, with the last step -/
theorem TRE.add (h : TRE N M gm K P E nt b g st X X1 L L1) (a1 : X ≤ X1) (q1 : L ≤ L1) (hx : PCn N M gm K P E nt b g st X (X1 + 1) L (L1 + 1) X1) (hp : CVp N M gm X (X1 + 1) L1) : TRE N M gm K P E nt b g st X (X1 + 1) L (L1 + 1) := by
  have k1 := h.mono (Int.le_refl X) (show X1 ≤ X1 + 1 by omega) (Int.le_refl L) (show L1 ≤ L1 + 1 by omega)
  refine ⟨fun x x0 x1 => ?_, fun p p0 p1 => ?_⟩
  · by_cases y : x < X1
    · exact k1.1 x x0 y
    · rw [show x = X1 from by omega]; exact hx
  · by_cases y : p < L1
    · exact k1.2 p p0 y
    · rw [show p = L1 from by omega]; exact hp
theorem TRE.emp : TRE N M gm K P E nt b g st X X L L := ⟨fun x x0 x1 => by omega, fun p p0 p1 => by omega⟩
def gmU (gm : Mem) (x v1 v2 v3 v4 : Int) : Mem := up (up (up (up gm 1 x v1) 2 x v2) 3 x v3) 4 x v4
theorem gmU_ne {v1 v2 v3 v4 k y : Int} (h : y ≠ x) : gmU gm x v1 v2 v3 v4 k y = gm k y := by
  unfold gmU
  rw [up_ne (by omega), up_ne (by omega), up_ne (by omega), up_ne (by omega)]
theorem gmU_1 {v1 v2 v3 v4 : Int} : gmU gm x v1 v2 v3 v4 1 x = v1 := by unfold gmU; rw [up_ne (by omega), up_ne (by omega), up_ne (by omega), up_eq]
theorem gmU_2 {v1 v2 v3 v4 : Int} : gmU gm x v1 v2 v3 v4 2 x = v2 := by unfold gmU; rw [up_ne (by omega), up_ne (by omega), up_eq]
theorem gmU_3 {v1 v2 v3 v4 : Int} : gmU gm x v1 v2 v3 v4 3 x = v3 := by unfold gmU; rw [up_ne (by omega), up_eq]
theorem gmU_4 {v1 v2 v3 v4 : Int} : gmU gm x v1 v2 v3 v4 4 x = v4 := up_eq
end TRE
