/-! ===== book: what was told, item by item, as it is read ===== -/
/-- an expr that stands: x its node, p its first step -/
def RTr (N gm : Mem) (ow : Int → Int) (B X ln p x lv sl : Int) : Prop := B ≤ x ∧ x < X ∧ gm 1 x = p ∧ 0 ≤ p ∧ gm 1 x < gm 2 x ∧ gm 2 x < ln ∧ gm 4 x ≤ lv ∧ N 121 (gm 2 x) = 0 ∧ (∀ i, gm 1 x ≤ i → i < gm 2 x → ow i = sl)
/-- steps, nodes and references that stand stay -/
def GRW (X ln R : Int) (N M gm : Mem) (ow : Int → Int) (N' M' gm' : Mem) (ow' : Int → Int) : Prop := (∀ i, 0 ≤ i → i < ln → N' 121 i = N 121 i ∧ N' 122 i = N 122 i) ∧ (∀ k y, y < X → gm' k y = gm k y) ∧ (∀ i, i < ln → ow' i = ow i) ∧ (∀ k i, 48 ≤ k → k ≤ 50 → i < R → M' k i = M k i) ∧ (∀ k y, 35 ≤ k → k ≤ 39 → y < X → M' k y = M k y)
theorem GRW.tr {X ln R X1 ln1 R1 : Int} {N M gm N1 M1 gm1 N2 M2 gm2 : Mem} {ow ow1 ow2 : Int → Int} (h : GRW X ln R N M gm ow N1 M1 gm1 ow1) (h2 : GRW X1 ln1 R1 N1 M1 gm1 ow1 N2 M2 gm2 ow2) (a : X ≤ X1) (b : ln ≤ ln1) (r : R ≤ R1) : GRW X ln R N M gm ow N2 M2 gm2 ow2 :=
  ⟨fun i i0 i1 => ⟨(h2.1 i i0 (by omega)).1.trans (h.1 i i0 i1).1, (h2.1 i i0 (by omega)).2.trans (h.1 i i0 i1).2⟩, fun k y q => (h2.2.1 k y (by omega)).trans (h.2.1 k y q), fun i q => (h2.2.2.1 i (by omega)).trans (h.2.2.1 i q), fun k i q1 q2 q3 => (h2.2.2.2.1 k i q1 q2 (by omega)).trans (h.2.2.2.1 k i q1 q2 q3), fun k y q1 q2 q3 => (h2.2.2.2.2 k y q1 q2 (by omega)).trans (h.2.2.2.2 k y q1 q2 q3)⟩
section ITM
variable {c c' : Int → Int} {N N' M M' gm gm' : Mem} {ow ow' K P W E : Int → Int} {nt b B X X' ln ln' R p x lv sl e g : Int}
theorem RTr.fr (h : RTr N gm ow B X ln p x lv sl) (G : GRW X ln R N M gm ow N' M' gm' ow') (a : X ≤ X') (q : ln ≤ ln') : RTr N' gm' ow' B X' ln' p x lv sl := by
  obtain ⟨h1, h2, h3, h4, h5, h6, h7, h8, h9⟩ := h
  unfold RTr
  rw [G.2.1 1 x h2, G.2.1 2 x h2, G.2.1 4 x h2, (G.1 (gm 2 x) (by omega) h6).1]
  exact ⟨h1, by omega, h3, h4, h5, by omega, h7, h8, fun i i0 i1 => (G.2.2.1 i (by omega)).trans (h9 i i0 i1)⟩
def BOD (N M gm : Mem) (ow : Int → Int) (B X ln L k base a lv : Int) : Prop := (N L a = -1 ∧ M k (base + a) = -1) ∨ (0 ≤ N L a ∧ RTr N gm ow B X ln (N L a) (M k (base + a)) lv (-1))
theorem BOD.fr {L k base a : Int} (h : BOD N M gm ow B X ln L k base a lv) (G : GRW X ln R N M gm ow N' M' gm' ow') (a1 : X ≤ X') (q : ln ≤ ln') (n : N' L a = N L a) (m : M' k (base + a) = M k (base + a)) : BOD N' M' gm' ow' B X' ln' L k base a lv := by
  unfold BOD
  rw [n, m]
  rcases h with h | h
  · exact Or.inl h
  · exact Or.inr ⟨h.1, h.2.fr G a1 q⟩
theorem NR.m7 {v n : Int} (h : NR M v n) (m : ∀ i, M' 7 i = M 7 i) : NR M' v n := by
  unfold NR at *
  simp only [m]
  exact h
def IC (c : Int → Int) (N M gm : Mem) (ow : Int → Int) (b B X ln e q i : Int) : Prop := (N (128 * q + 5) (-1) = 3 ∧ N (128 * q + 5) 3 = c (128 * q + 6) ∧ N (128 * q + 6) (-1) = 20 ∧ N (128 * q + 6) (-2) = 4 ∧ N (128 * q + 5) 2 = 0) ∧ (NR M (N (128 * q + 5) 0) (M 20 q) ∧ M 20 q / 16 + M 20 q % 16 ≤ 3000 * (b + 1)) ∧ ((N (128 * q + 5) 1 = -1 ∧ M 21 q = -1) ∨ (0 ≤ N (128 * q + 5) 1 ∧ RTr N gm ow B X ln (N (128 * q + 5) 1) (M 21 q) 1 (1000 * e + i))) ∧ (∀ a, 0 ≤ a → a < 4 → BOD N M gm ow B X ln (128 * q + 6) 22 (4 * q) a 3)
theorem IC.fr {q i : Int} (h : IC c N M gm ow b B X ln e q i) (G : GRW X ln R N M gm ow N' M' gm' ow') (a1 : X ≤ X') (a2 : ln ≤ ln') (fc : c' (128 * q + 6) = c (128 * q + 6)) (n5 : ∀ k, N' (128 * q + 5) k = N (128 * q + 5) k) (n6 : ∀ k, N' (128 * q + 6) k = N (128 * q + 6) k) (m20 : M' 20 q = M 20 q) (m21 : M' 21 q = M 21 q) (m22 : ∀ a, 0 ≤ a → a < 4 → M' 22 (4 * q + a) = M 22 (4 * q + a)) (m7 : ∀ i, M' 7 i = M 7 i) : IC c' N' M' gm' ow' b B X' ln' e q i := by
  obtain ⟨h1, h2, h3, h4⟩ := h
  unfold IC
  simp only [n5, n6, m20, m21, fc]
  refine ⟨h1, ⟨h2.1.m7 m7, h2.2⟩, ?_, fun a a0 a1' => (h4 a a0 a1').fr G a1 a2 (n6 a) (m22 a a0 a1')⟩
  rcases h3 with h3 | h3
  · exact Or.inl h3
  · exact Or.inr ⟨h3.1, h3.2.fr G a1 a2⟩
def IT (c : Int → Int) (N M gm : Mem) (ow : Int → Int) (B X ln e t u : Int) : Prop := (N (128 * t + 9) (-1) = 9 ∧ N (128 * t + 9) 1 = c (128 * t + 10) ∧ N (128 * t + 10) (-1) = 20 ∧ N (128 * t + 10) (-2) = 12 ∧ N (128 * t + 9) 2 = c (128 * t + 11) ∧ N (128 * t + 11) (-1) = 20 ∧ N (128 * t + 11) (-2) = 12 ∧ N (128 * t + 9) 4 = 0) ∧ NR M (N (128 * t + 9) 0) (M 23 t) ∧ (N (128 * t + 9) 3 = M 24 t ∧ 0 ≤ M 24 t ∧ M 24 t ≤ 12) ∧ (∀ k, 0 ≤ k → k < M 24 t → RTr N gm ow B X ln (N (128 * t + 10) k) (M 25 (12 * t + k)) 0 (1000 * e + 100 + 12 * u + k))
theorem IT.fr {t u : Int} (h : IT c N M gm ow B X ln e t u) (G : GRW X ln R N M gm ow N' M' gm' ow') (a1 : X ≤ X') (a2 : ln ≤ ln') (fc : c' (128 * t + 10) = c (128 * t + 10)) (fc2 : c' (128 * t + 11) = c (128 * t + 11)) (n9 : ∀ k, N' (128 * t + 9) k = N (128 * t + 9) k) (n10 : ∀ k, N' (128 * t + 10) k = N (128 * t + 10) k) (n11 : ∀ k, N' (128 * t + 11) k = N (128 * t + 11) k) (m23 : M' 23 t = M 23 t) (m24 : M' 24 t = M 24 t) (m25 : ∀ k, 0 ≤ k → k < 12 → M' 25 (12 * t + k) = M 25 (12 * t + k)) (m7 : ∀ i, M' 7 i = M 7 i) : IT c' N' M' gm' ow' B X' ln' e t u := by
  obtain ⟨h1, h2, h3, h4⟩ := h
  unfold IT
  simp only [n9, n10, n11, m23, m24, fc, fc2]
  refine ⟨h1, h2.m7 m7, h3, fun k k0 k1 => ?_⟩
  rw [m25 k k0 (by omega)]
  exact (h4 k k0 k1).fr G a1 a2
def IK (N M gm : Mem) (ow : Int → Int) (B X ln e g k : Int) : Prop := RTr N gm ow B X ln (N (128 * g + 12) k) (M 26 (3 * g + k)) 0 (1000 * e + 200 + k)
def IH (N M gm : Mem) (ow : Int → Int) (B X ln e g k : Int) : Prop := NR M (N (128 * g + 13) k) (M 27 (4 * g + k)) ∧ RTr N gm ow B X ln (N (128 * g + 14) k) (M 28 (4 * g + k)) 0 (1000 * (100 + 4 * e + k))
def CSE (N M gm : Mem) (ow K P W E : Int → Int) (nt b B X ln s k : Int) : Prop := NR M (N (128 * s + 18) k) (M 31 (12 * s + k)) ∧ (0 ≤ N (128 * s + 19) k ∧ N (128 * s + 19) k < ln ∧ N 121 (N (128 * s + 19) k) = 14) ∧ RTr N gm ow B X ln (N (128 * s + 19) k + 1) (M 33 (12 * s + k)) 0 (-1) ∧ (M 48 (rcn (N 121) (N (128 * s + 19) k).toNat) = -1 - (12 * s + k) ∧ M 49 (rcn (N 121) (N (128 * s + 19) k).toNat) = -1 ∧ M 50 (rcn (N 121) (N (128 * s + 19) k).toNat) = M 31 (12 * s + k)) ∧ (0 ≤ N 122 (N (128 * s + 19) k) ∧ N 122 (N (128 * s + 19) k) < nt ∧ K (N 122 (N (128 * s + 19) k)) = 3 ∧ W (N 122 (N (128 * s + 19) k)) = N (128 * s + 18) k ∧ M 31 (12 * s + k) = nmv P E b (N 122 (N (128 * s + 19) k))) ∧ (∀ k', 0 ≤ k' → k' < k → N (128 * s + 18) k' ≠ N (128 * s + 18) k)
theorem CSE.fr {s k : Int} (h : CSE N M gm ow K P W E nt b B X ln s k) (G : GRW X ln R N M gm ow N' M' gm' ow') (hr : rcn (N 121) ln.toNat = R) (a1 : X ≤ X') (a2 : ln ≤ ln') (n18 : ∀ i, i ≤ k → N' (128 * s + 18) i = N (128 * s + 18) i) (n19 : N' (128 * s + 19) k = N (128 * s + 19) k) (m31 : M' 31 (12 * s + k) = M 31 (12 * s + k)) (m33 : M' 33 (12 * s + k) = M 33 (12 * s + k)) (m7 : ∀ i, M' 7 i = M 7 i) : CSE N' M' gm' ow' K P W E nt b B X' ln' s k := by
  obtain ⟨h1, ⟨h2, h3, h4⟩, h5, h6, h7, h8⟩ := h
  have g1 := G.1 _ h2 h3
  have rc : rcn (N' 121) (N (128 * s + 19) k).toNat = rcn (N 121) (N (128 * s + 19) k).toNat := rcn_cg _ (fun i a q => (G.1 i a (by omega)).1)
  have rl := rcn_lt h2 h3 (Or.inr (Or.inr h4))
  unfold CSE
  rw [n18 k (Int.le_refl _), n19, m31, m33, g1.1, g1.2, rc, G.2.2.2.1 48 _ (by decide) (by decide) (by omega), G.2.2.2.1 49 _ (by decide) (by decide) (by omega), G.2.2.2.1 50 _ (by decide) (by decide) (by omega)]
  refine ⟨h1.m7 m7, ⟨h2, by omega, h4⟩, h5.fr G a1 a2, h6, h7, fun k' k0 k1 => ?_⟩
  rw [n18 k' (by omega)]
  exact h8 k' k0 k1
def IS (c : Int → Int) (N M gm : Mem) (ow K P W E : Int → Int) (nt b B X ln s : Int) : Prop := (N (128 * s + 17) (-1) = 8 ∧ N (128 * s + 17) 1 = c (128 * s + 18) ∧ N (128 * s + 18) (-1) = 22 ∧ N (128 * s + 18) (-2) = 12 ∧ N (128 * s + 17) 2 = c (128 * s + 19) ∧ N (128 * s + 19) (-1) = 20 ∧ N (128 * s + 19) (-2) = 12) ∧ NR M (N (128 * s + 17) 0) (M 29 s) ∧ (N (128 * s + 17) 3 = M 30 s ∧ 0 ≤ M 30 s ∧ M 30 s ≤ 12) ∧ RTr N gm ow B X ln (N (128 * s + 17) 4) (M 34 s) 0 (-1) ∧ (∀ k, 0 ≤ k → k < M 30 s → CSE N M gm ow K P W E nt b B X ln s k)
theorem IS.fr {s : Int} (h : IS c N M gm ow K P W E nt b B X ln s) (G : GRW X ln R N M gm ow N' M' gm' ow') (hr : rcn (N 121) ln.toNat = R) (a1 : X ≤ X') (a2 : ln ≤ ln') (fc : c' (128 * s + 18) = c (128 * s + 18)) (fc2 : c' (128 * s + 19) = c (128 * s + 19)) (n17 : ∀ k, N' (128 * s + 17) k = N (128 * s + 17) k) (n18 : ∀ k, N' (128 * s + 18) k = N (128 * s + 18) k) (n19 : ∀ k, N' (128 * s + 19) k = N (128 * s + 19) k) (m29 : M' 29 s = M 29 s) (m30 : M' 30 s = M 30 s) (m34 : M' 34 s = M 34 s) (m31 : ∀ k, 0 ≤ k → k < 12 → M' 31 (12 * s + k) = M 31 (12 * s + k)) (m33 : ∀ k, 0 ≤ k → k < 12 → M' 33 (12 * s + k) = M 33 (12 * s + k)) (m7 : ∀ i, M' 7 i = M 7 i) : IS c' N' M' gm' ow' K P W E nt b B X' ln' s := by
  obtain ⟨h1, h2, h3, h4, h5⟩ := h
  unfold IS
  rw [m29, m30, m34]
  simp only [n17, n18 (-1), n18 (-2), n19 (-1), n19 (-2), fc, fc2]
  exact ⟨h1, h2.m7 m7, h3, h4.fr G a1 a2, fun k k0 k1 => (h5 k k0 k1).fr G hr a1 a2 (fun i _ => n18 i) (n19 k) (m31 k k0 (by omega)) (m33 k k0 (by omega)) m7⟩
/-- what an enum has told: so many constants, tables, checks, holders, switches, and its bodies -/
def EI (c : Int → Int) (N M gm : Mem) (ow K P W E : Int → Int) (nt b B X ln e nc nu nk nh ns : Int) : Prop := (∀ i, 0 ≤ i → i < nc → IC c N M gm ow b B X ln e (24 * (12 * b + e) + i) i) ∧ (∀ i, 0 ≤ i → i < nu → IT c N M gm ow B X ln e (4 * (12 * b + e) + i) i) ∧ (∀ i, 0 ≤ i → i < nk → IK N M gm ow B X ln e (12 * b + e) i) ∧ (∀ i, 0 ≤ i → i < nh → IH N M gm ow B X ln e (12 * b + e) i) ∧ (∀ i, 0 ≤ i → i < ns → IS c N M gm ow K P W E nt b B X ln (3 * (12 * b + e) + i)) ∧ (∀ a, 0 ≤ a → a < 4 → BOD N M gm ow B X ln (128 * (12 * b + e) + 7) 19 (4 * (12 * b + e)) a 2)
def itN (g nc nu nk nh ns L k : Int) : Prop := ((L % 128 = 5 ∨ L % 128 = 6) ∧ 24 * g ≤ L / 128 ∧ L / 128 < 24 * g + nc) ∨ ((L % 128 = 9 ∨ L % 128 = 10 ∨ L % 128 = 11) ∧ 4 * g ≤ L / 128 ∧ L / 128 < 4 * g + nu) ∨ (L = 128 * g + 12 ∧ 0 ≤ k ∧ k < nk) ∨ ((L = 128 * g + 13 ∨ L = 128 * g + 14) ∧ 0 ≤ k ∧ k < nh) ∨ ((L % 128 = 17 ∨ L % 128 = 18 ∨ L % 128 = 19) ∧ 3 * g ≤ L / 128 ∧ L / 128 < 3 * g + ns) ∨ (L = 128 * g + 7 ∧ 0 ≤ k ∧ k < 4)
def itM (g nc nu nk nh ns k i : Int) : Prop := ((k = 20 ∨ k = 21) ∧ 24 * g ≤ i ∧ i < 24 * g + nc) ∨ (k = 22 ∧ 96 * g ≤ i ∧ i < 96 * g + 4 * nc) ∨ ((k = 23 ∨ k = 24) ∧ 4 * g ≤ i ∧ i < 4 * g + nu) ∨ (k = 25 ∧ 48 * g ≤ i ∧ i < 48 * g + 12 * nu) ∨ (k = 26 ∧ 3 * g ≤ i ∧ i < 3 * g + nk) ∨ ((k = 27 ∨ k = 28) ∧ 4 * g ≤ i ∧ i < 4 * g + nh) ∨ ((k = 29 ∨ k = 30 ∨ k = 34) ∧ 3 * g ≤ i ∧ i < 3 * g + ns) ∨ ((k = 31 ∨ k = 33) ∧ 36 * g ≤ i ∧ i < 36 * g + 12 * ns) ∨ (k = 19 ∧ 4 * g ≤ i ∧ i < 4 * g + 4) ∨ k = 7
section ITR
variable {g nc nu nk nh ns i k a : Int}
theorem itn5 (i0 : 0 ≤ i) (i1 : i < nc) : itN g nc nu nk nh ns (128 * (24 * g + i) + 5) k := Or.inl ⟨by omega, by omega, by omega⟩
theorem itn6 (i0 : 0 ≤ i) (i1 : i < nc) : itN g nc nu nk nh ns (128 * (24 * g + i) + 6) k := Or.inl ⟨by omega, by omega, by omega⟩
theorem itn9 (i0 : 0 ≤ i) (i1 : i < nu) : itN g nc nu nk nh ns (128 * (4 * g + i) + 9) k := Or.inr (Or.inl ⟨by omega, by omega, by omega⟩)
theorem itn10 (i0 : 0 ≤ i) (i1 : i < nu) : itN g nc nu nk nh ns (128 * (4 * g + i) + 10) k := Or.inr (Or.inl ⟨by omega, by omega, by omega⟩)
theorem itn11 (i0 : 0 ≤ i) (i1 : i < nu) : itN g nc nu nk nh ns (128 * (4 * g + i) + 11) k := Or.inr (Or.inl ⟨by omega, by omega, by omega⟩)
theorem itn12 (i0 : 0 ≤ k) (i1 : k < nk) : itN g nc nu nk nh ns (128 * g + 12) k := Or.inr (Or.inr (Or.inl ⟨rfl, i0, i1⟩))
theorem itn13 (i0 : 0 ≤ k) (i1 : k < nh) : itN g nc nu nk nh ns (128 * g + 13) k := Or.inr (Or.inr (Or.inr (Or.inl ⟨Or.inl rfl, i0, i1⟩)))
theorem itn14 (i0 : 0 ≤ k) (i1 : k < nh) : itN g nc nu nk nh ns (128 * g + 14) k := Or.inr (Or.inr (Or.inr (Or.inl ⟨Or.inr rfl, i0, i1⟩)))
theorem itn17 (i0 : 0 ≤ i) (i1 : i < ns) : itN g nc nu nk nh ns (128 * (3 * g + i) + 17) k := Or.inr (Or.inr (Or.inr (Or.inr (Or.inl ⟨by omega, by omega, by omega⟩))))
theorem itn18 (i0 : 0 ≤ i) (i1 : i < ns) : itN g nc nu nk nh ns (128 * (3 * g + i) + 18) k := Or.inr (Or.inr (Or.inr (Or.inr (Or.inl ⟨by omega, by omega, by omega⟩))))
theorem itn19 (i0 : 0 ≤ i) (i1 : i < ns) : itN g nc nu nk nh ns (128 * (3 * g + i) + 19) k := Or.inr (Or.inr (Or.inr (Or.inr (Or.inl ⟨by omega, by omega, by omega⟩))))
theorem itn7 (i0 : 0 ≤ k) (i1 : k < 4) : itN g nc nu nk nh ns (128 * g + 7) k := Or.inr (Or.inr (Or.inr (Or.inr (Or.inr ⟨rfl, i0, i1⟩))))
theorem itm20 (i0 : 0 ≤ i) (i1 : i < nc) : itM g nc nu nk nh ns 20 (24 * g + i) := Or.inl ⟨by omega, by omega, by omega⟩
theorem itm21 (i0 : 0 ≤ i) (i1 : i < nc) : itM g nc nu nk nh ns 21 (24 * g + i) := Or.inl ⟨by omega, by omega, by omega⟩
theorem itm22 (i0 : 0 ≤ i) (i1 : i < nc) (a0 : 0 ≤ a) (a1 : a < 4) : itM g nc nu nk nh ns 22 (4 * (24 * g + i) + a) := Or.inr (Or.inl ⟨rfl, by omega, by omega⟩)
theorem itm23 (i0 : 0 ≤ i) (i1 : i < nu) : itM g nc nu nk nh ns 23 (4 * g + i) := Or.inr (Or.inr (Or.inl ⟨by omega, by omega, by omega⟩))
theorem itm24 (i0 : 0 ≤ i) (i1 : i < nu) : itM g nc nu nk nh ns 24 (4 * g + i) := Or.inr (Or.inr (Or.inl ⟨by omega, by omega, by omega⟩))
theorem itm25 (i0 : 0 ≤ i) (i1 : i < nu) (a0 : 0 ≤ a) (a1 : a < 12) : itM g nc nu nk nh ns 25 (12 * (4 * g + i) + a) := Or.inr (Or.inr (Or.inr (Or.inl ⟨rfl, by omega, by omega⟩)))
theorem itm26 (i0 : 0 ≤ i) (i1 : i < nk) : itM g nc nu nk nh ns 26 (3 * g + i) := Or.inr (Or.inr (Or.inr (Or.inr (Or.inl ⟨rfl, by omega, by omega⟩))))
theorem itm27 (i0 : 0 ≤ i) (i1 : i < nh) : itM g nc nu nk nh ns 27 (4 * g + i) := Or.inr (Or.inr (Or.inr (Or.inr (Or.inr (Or.inl ⟨by omega, by omega, by omega⟩)))))
theorem itm28 (i0 : 0 ≤ i) (i1 : i < nh) : itM g nc nu nk nh ns 28 (4 * g + i) := Or.inr (Or.inr (Or.inr (Or.inr (Or.inr (Or.inl ⟨by omega, by omega, by omega⟩)))))
theorem itm29 (i0 : 0 ≤ i) (i1 : i < ns) (q : k = 29 ∨ k = 30 ∨ k = 34) : itM g nc nu nk nh ns k (3 * g + i) := Or.inr (Or.inr (Or.inr (Or.inr (Or.inr (Or.inr (Or.inl ⟨q, by omega, by omega⟩))))))
theorem itm31 (i0 : 0 ≤ i) (i1 : i < ns) (a0 : 0 ≤ a) (a1 : a < 12) (q : k = 31 ∨ k = 33) : itM g nc nu nk nh ns k (12 * (3 * g + i) + a) := Or.inr (Or.inr (Or.inr (Or.inr (Or.inr (Or.inr (Or.inr (Or.inl ⟨q, by omega, by omega⟩)))))))
theorem itm19 (a0 : 0 ≤ a) (a1 : a < 4) : itM g nc nu nk nh ns 19 (4 * g + a) := Or.inr (Or.inr (Or.inr (Or.inr (Or.inr (Or.inr (Or.inr (Or.inr (Or.inl ⟨rfl, by omega, by omega⟩))))))))
theorem itm7 : itM g nc nu nk nh ns 7 i := Or.inr (Or.inr (Or.inr (Or.inr (Or.inr (Or.inr (Or.inr (Or.inr (Or.inr rfl))))))))
end ITR
theorem EI.fr {nc nu nk nh ns : Int} (h : EI c N M gm ow K P W E nt b B X ln e nc nu nk nh ns) (G : GRW X ln R N M gm ow N' M' gm' ow') (hr : rcn (N 121) ln.toNat = R) (a1 : X ≤ X') (a2 : ln ≤ ln') (hN : ∀ L k, itN (12 * b + e) nc nu nk nh ns L k → c' L = c L ∧ N' L k = N L k) (hM : ∀ k i, itM (12 * b + e) nc nu nk nh ns k i → M' k i = M k i) : EI c' N' M' gm' ow' K P W E nt b B X' ln' e nc nu nk nh ns := by
  have m7 : ∀ i, M' 7 i = M 7 i := fun i => hM 7 i itm7
  obtain ⟨h1, h2, h3, h4, h5, h6⟩ := h
  refine ⟨fun i i0 i1 => (h1 i i0 i1).fr G a1 a2 (hN _ 0 (itn6 i0 i1)).1 (fun k => (hN _ k (itn5 i0 i1)).2) (fun k => (hN _ k (itn6 i0 i1)).2) (hM _ _ (itm20 i0 i1)) (hM _ _ (itm21 i0 i1)) (fun a a0 a1 => hM _ _ (itm22 i0 i1 a0 a1)) m7, fun i i0 i1 => (h2 i i0 i1).fr G a1 a2 (hN _ 0 (itn10 i0 i1)).1 (hN _ 0 (itn11 i0 i1)).1 (fun k => (hN _ k (itn9 i0 i1)).2) (fun k => (hN _ k (itn10 i0 i1)).2) (fun k => (hN _ k (itn11 i0 i1)).2) (hM _ _ (itm23 i0 i1)) (hM _ _ (itm24 i0 i1)) (fun a a0 a1 => hM _ _ (itm25 i0 i1 a0 a1)) m7, fun i i0 i1 => ?_, fun i i0 i1 => ?_, fun i i0 i1 => (h5 i i0 i1).fr G hr a1 a2 (hN _ 0 (itn18 i0 i1)).1 (hN _ 0 (itn19 i0 i1)).1 (fun k => (hN _ k (itn17 i0 i1)).2) (fun k => (hN _ k (itn18 i0 i1)).2) (fun k => (hN _ k (itn19 i0 i1)).2) (hM _ _ (itm29 i0 i1 (Or.inl rfl))) (hM _ _ (itm29 i0 i1 (Or.inr (Or.inl rfl)))) (hM _ _ (itm29 i0 i1 (Or.inr (Or.inr rfl)))) (fun a a0 a1 => hM _ _ (itm31 i0 i1 a0 a1 (Or.inl rfl))) (fun a a0 a1 => hM _ _ (itm31 i0 i1 a0 a1 (Or.inr rfl))) m7, fun a a0 a1' => (h6 a a0 a1').fr G a1 a2 (hN _ a (itn7 a0 a1')).2 (hM _ _ (itm19 a0 a1'))⟩
  · unfold IK
    rw [(hN (128 * (12 * b + e) + 12) i (itn12 i0 i1)).2, hM 26 _ (itm26 i0 i1)]
    exact (h3 i i0 i1).fr G a1 a2
  · unfold IH
    rw [(hN (128 * (12 * b + e) + 13) i (itn13 i0 i1)).2, (hN (128 * (12 * b + e) + 14) i (itn14 i0 i1)).2, hM 27 _ (itm27 i0 i1), hM 28 _ (itm28 i0 i1)]
    exact ⟨(h4 i i0 i1).1.m7 m7, (h4 i i0 i1).2.fr G a1 a2⟩
/-- the enum's header under a change elsewhere -/
def hdL (g L : Int) : Prop := L = 128 * g + 3 ∨ L = 128 * g + 4 ∨ L = 128 * g + 7 ∨ L = 128 * g + 8 ∨ (128 * g + 12 ≤ L ∧ L ≤ 128 * g + 16)
def hiL (g L : Int) : Prop := (L % 128 = 5 ∧ 24 * g ≤ L / 128 ∧ L / 128 < 24 * g + 24) ∨ (L % 128 = 9 ∧ 4 * g ≤ L / 128 ∧ L / 128 < 4 * g + 4) ∨ (L % 128 = 17 ∧ 3 * g ≤ L / 128 ∧ L / 128 < 3 * g + 3)
theorem HE.fr (h : HE c N M g) (hN : ∀ L k, hdL g L → c' L = c L ∧ N' L k = N L k) (hI : ∀ L, hiL g L → c' L = c L ∧ N' L (-1) = N L (-1)) (hM : ∀ k, 13 ≤ k → k ≤ 18 → M' k g = M k g) (m7 : ∀ i, M' 7 i = M 7 i) : HE c' N' M' g := by
  have n := fun L k q => (hN L k q).2
  have fc := fun L q => (hN L 0 q).1
  have nc := h.nc1
  have nu := h.nt1
  have nw := h.nw1
  obtain ⟨a1, a2, a3, a4, a5, a6, a7, a8, a9, a10, a11, a12, a13, a14, a15, a16, a17, a18, a19, a20, a21, a22, a23, a24, a25, a26, a27, a28, a29, a30, a31, a32, a33, a34, a35, a36, a37, a38, a39, a40, a41, a42, a43, a44, a45⟩ := h
  unfold HE
  rw [hM 13 (by decide) (by decide), hM 14 (by decide) (by decide), hM 15 (by decide) (by decide), hM 16 (by decide) (by decide), hM 17 (by decide) (by decide), hM 18 (by decide) (by decide)]
  simp (disch := (unfold hdL; omega)) only [n, fc]
  refine ⟨a1, a2, a3, a4, a5, a6, a7, a8, a9, a10, a11, a12, a13, a14, a15, a16, a17, a18, a19, a20, a21, a22, a23, a24, a25, a26.m7 m7, a27, a28, a29, a30, a31, a32, a33, a34, a35, a36, a37, a38, a39, a40, a41, a42, fun i i0 i1 => ?_, fun i i0 i1 => ?_, fun i i0 i1 => ?_⟩
  · obtain ⟨q1, q2⟩ := hI (128 * (24 * g + i) + 5) (by unfold hiL; omega)
    rw [q1, q2]; exact a43 i i0 i1
  · obtain ⟨q1, q2⟩ := hI (128 * (4 * g + i) + 9) (by unfold hiL; omega)
    rw [q1, q2]; exact a44 i i0 i1
  · obtain ⟨q1, q2⟩ := hI (128 * (3 * g + i) + 17) (by unfold hiL; omega)
    rw [q1, q2]; exact a45 i i0 i1
end ITM
