section FNR
variable {d : Nat} {M : Mem} {Q : Int → Mem → Prop} {b x1 x2 x3 : Int}
theorem cmp0 {x4 x6 : Int} (x30 : 0 ≤ x3) (x31 : x3 < 3000) (h : PM (d + 1) n_constantHere_34 [x1, x2, x3 + 1] M Q) : PM (d + 1) n_constantHere_84 [x1, x2, x3, x4, 0, x6] M Q := st_constantHere_84 ⟨fun _ => ⟨fun _ => ⟨by omega, by omega, h⟩, fun z => absurd rfl z⟩, fun _ => ⟨fun _ => ⟨fun _ => ⟨by omega, by omega, h⟩, fun z => absurd rfl z⟩, fun z => absurd rfl z⟩⟩
theorem cmp_loop {nm : Int} (m0 : 0 ≤ nm) (mb : nm / 16 + nm % 16 ≤ 30000) (p0 : 0 ≤ M 0 4) (pb : M 0 4 + nm % 16 ≤ 3000) (x30 : 0 ≤ x3) (x31 : x3 < 3000) (h1 : (∀ t, 0 ≤ t → t < nm % 16 → M 7 (nm / 16 + t) = M 1 (M 0 4 + t)) → Q x3 M) (h0 : ¬ (∀ t, 0 ≤ t → t < nm % 16 → M 7 (nm / 16 + t) = M 1 (M 0 4 + t)) → PM (d + 1) n_constantHere_34 [x1, x2, x3 + 1] M Q) : ∀ (r : Nat) (t : Int), nm % 16 - t = r → 0 ≤ t → (∀ i, 0 ≤ i → i < t → M 7 (nm / 16 + i) = M 1 (M 0 4 + i)) → PM (d + 1) n_constantHere_84 [x1, x2, x3, nm, 1, t] M Q := by
  have t1 : nm.tmod 16 = nm % 16 := Int.tmod_eq_emod_of_nonneg m0
  have t2 : nm.tdiv 16 = nm / 16 := Int.tdiv_eq_ediv_of_nonneg m0
  intro r
  induction r with
  | zero =>
    intro t hr t0 hb
    refine st_constantHere_84 ⟨fun _ => ⟨fun z => absurd z (by decide), fun _ => h1 (fun i a q => hb i a (by omega))⟩, fun z => absurd (by omega) z⟩
  | succ r ih =>
    intro t hr t0 hb
    refine st_constantHere_84 ⟨fun z => absurd z (by omega), fun _ => ⟨fun z => absurd z (by decide), fun _ => ?_⟩⟩
    rw [t2]
    refine ⟨by omega, by omega, by omega, by omega, by omega, by omega, by omega, by omega, fun z => ⟨by omega, by omega, cmp0 x30 x31 (h0 (fun q => z (q t t0 (by omega))))⟩, fun z => ⟨by omega, by omega, ih (t + 1) (by omega) (by omega) (fun i a q => ?_)⟩⟩
    by_cases y : i = t
    · rw [y]; exact Classical.not_not.1 z
    · exact hb i a (by omega)
theorem nr_eq {v nm w p L : Int} (h : NR M v nm) (L1 : 1 ≤ L) (ha : ∀ i, p ≤ i → i < p + L → 1 ≤ rnk (M 1 i)) (hw : w = pkd (fun i => rnk (M 1 i)) L.toNat p) : v = w ↔ (nm % 16 = L ∧ ∀ t, 0 ≤ t → t < nm % 16 → M 7 (nm / 16 + t) = M 1 (p + t)) := by
  obtain ⟨n0, n1, n2, n3, n4, n5⟩ := h
  rw [n5, hw]
  constructor
  · intro e
    obtain ⟨x, y⟩ := pkd_inj (f := fun p => rnk (M 7 p)) (g := fun i => rnk (M 1 i)) (p := nm / 16) (q := p) _ _ (fun k a q => ⟨n4 k a (by omega), by have := rnk_le (M 7 (nm / 16 + k)); show rnk (M 7 (nm / 16 + k)) ≤ 63; omega⟩) (fun k a q => ⟨ha (p + k) (by omega) (by omega), by have := rnk_le (M 1 (p + k)); show rnk (M 1 (p + k)) ≤ 63; omega⟩) e
    exact ⟨by omega, fun t a q => rnk_inj (n4 t a q) (y t a (by omega))⟩
  · intro ⟨e1, e2⟩
    rw [show L.toNat = (nm % 16).toNat from by omega]
    exact pkd_cg _ (fun k a q => by show rnk (M 7 (nm / 16 + k)) = rnk (M 1 (p + k)); rw [e2 k a (by omega)])
variable {c : Int → Int} {N : Mem} {K P W E : Int → Int} {j : Int}
theorem const34 {g : Int} (t : Tok1 M K P W E j) (k3 : K j = 3) (hB : BkE c N M g) (g0 : 0 ≤ g) (g1 : g < 120) (h1 : ∀ i, 0 ≤ i → i < M 14 g → cnm N g i = W j → (∀ i', 0 ≤ i' → i' < i → cnm N g i' ≠ W j) → Q (24 * g + i) M) (h0 : NonE N M (W j) g → PM (d + 1) n_constantHere_14 [b, g + 1] M Q) : ∀ (r : Nat) (i : Int), M 14 g - i = r → 0 ≤ i → (∀ i', 0 ≤ i' → i' < i → cnm N g i' ≠ W j) → PM (d + 1) n_constantHere_34 [b, g, 24 * g + i] M Q := by
  have n24 := hB.en.nc1
  have pl := t.pl
  have k4 := t.k4
  have k5 := t.k5
  have hl := t.2.1
  obtain ⟨w0, w1, w2, w3, w4⟩ := t.wd (by omega) (by omega)
  intro r
  induction r with
  | zero =>
    intro i hr i0 hb
    exact st_constantHere_34 ⟨by omega, by omega, g0, g1, by omega, by omega, fun _ => ⟨by omega, by omega, h0 (fun i' a q => hb i' a (by omega))⟩, fun z => absurd (by omega) z⟩
  | succ r ih =>
    intro i hr i0 hb
    have nr : NR M (cnm N g i) (M 20 (24 * g + i)) := (hB.cn i0 (by omega)).nm
    have key := nr_eq (w := W j) (p := P j) (L := E j - P j) nr (by omega) (fun i a q => w1 i a (by omega)) w4
    obtain ⟨n0, n1, n2, n3, _⟩ := nr
    have t1 : (M 20 (24 * g + i)).tmod 16 = M 20 (24 * g + i) % 16 := Int.tmod_eq_emod_of_nonneg n0
    have nx : cnm N g i ≠ W j → PM (d + 1) n_constantHere_34 [b, g, 24 * g + i + 1] M Q := fun ne => by
      have := ih (i + 1) (by omega) (by omega) (fun i' a q => by
        by_cases y : i' = i
        · rw [y]; exact ne
        · exact hb i' a (by omega))
      rw [show 24 * g + i + 1 = 24 * g + (i + 1) from by omega]
      exact this
    refine st_constantHere_34 ⟨by omega, by omega, g0, g1, by omega, by omega, fun z => absurd z (by omega), fun _ => ⟨by omega, by omega, by omega, by omega, fun z => cmp0 (by omega) (by omega) (nx (fun e => z (by rw [t1, k4, k5]; exact (key.1 e).1))), fun z => ?_⟩⟩
    rw [t1, k4, k5] at z
    have z := Classical.not_not.1 z
    exact cmp_loop n0 n3 (by omega) (by omega) (by omega) (by omega) (fun q => h1 i i0 (by omega) (key.2 ⟨z, fun t a y => by rw [← k4]; exact q t a y⟩) hb) (fun q => nx (fun e => q (fun t a y => by rw [k4]; exact (key.1 e).2 t a y))) (M 20 (24 * g + i) % 16).toNat 0 (by omega) (by decide) (fun i a q => by omega)
theorem const14 (t : Tok1 M K P W E j) (k3 : K j = 3) (hB : BkR c N M b) (b0 : 0 ≤ b) (b1 : b < 10) (h1 : ∀ e i, Fst N M b (W j) e i → Q (24 * (12 * b + e) + i) M) (h0 : Non N M b (W j) → Q (-1) M) : ∀ (r : Nat) (e : Int), M 10 b - e = r → 0 ≤ e → (∀ e', 0 ≤ e' → e' < e → NonE N M (W j) (12 * b + e')) → PM (d + 1) n_constantHere_14 [b, 12 * b + e] M Q := by
  have n12 := hB.bk.ne1
  intro r
  induction r with
  | zero =>
    intro e hr e0 hb
    exact st_constantHere_14 ⟨by omega, by omega, b0, b1, by omega, by omega, fun _ => h0 (fun e' a q => hb e' a (by omega)), fun z => absurd (by omega) z⟩
  | succ r ih =>
    intro e hr e0 hb
    have hbe := hB.be e0 (by omega : e < M 10 b)
    have n0 := hbe.en.nc0
    refine st_constantHere_14 ⟨by omega, by omega, b0, b1, by omega, by omega, fun z => absurd z (by omega), fun _ => ⟨by omega, by omega, ?_⟩⟩
    have := const34 (d := d) (b := b) (Q := Q) t k3 hbe (by omega) (by omega) (fun i i0 i1 ie ib => h1 e i ⟨e0, by omega, i0, i1, ie, ib, hb⟩) (fun no => by
      have := ih (e + 1) (by omega) (by omega) (fun e' a q => by
        by_cases y : e' = e
        · rw [y]; exact no
        · exact hb e' a (by omega))
      rw [show 12 * b + e + 1 = 12 * b + (e + 1) from by omega]
      exact this) (M 14 (12 * b + e)).toNat 0 (by omega) (by decide) (fun i' a q => by omega)
    rw [Int.add_zero] at this
    exact this
theorem pm_constantHere (t : Tok1 M K P W E j) (hB : BkR c N M b) (b0 : 0 ≤ b) (b1 : b < 10) (h1 : ∀ e i, K j = 3 → Fst N M b (W j) e i → Q (24 * (12 * b + e) + i) M) (h0 : (K j = 3 → Non N M b (W j)) → Q (-1) M) : PM (d + 9) n_constantHere_0 [b] M Q := by
  have n12 := hB.bk.ne0
  refine st_constantHere_0 (pm_isName t (fun k3 => ⟨fun _ => ⟨by omega, by omega, ?_⟩, fun z => absurd (by decide) z⟩) (fun k3 => ⟨fun z => absurd rfl z, fun _ => h0 (fun q => absurd q k3)⟩))
  have := const14 (d := d + 8) t k3 hB b0 b1 (fun e i => h1 e i k3) (fun q => h0 (fun _ => q)) (M 10 b).toNat 0 (by omega) (by decide) (fun e' a q => by omega)
  rw [Int.add_zero] at this
  exact this
end FNR

