/-! ===== tokens: what the reference asks of one ===== -/
theorem pkd_inj {f g : Int → Int} {p q : Int} : ∀ n m : Nat, (∀ k : Int, 0 ≤ k → k < n → 1 ≤ f (p + k) ∧ f (p + k) ≤ 63) → (∀ k : Int, 0 ≤ k → k < m → 1 ≤ g (q + k) ∧ g (q + k) ≤ 63) → pkd f n p = pkd g m q → n = m ∧ ∀ k : Int, 0 ≤ k → k < n → f (p + k) = g (q + k) := by
  intro n
  induction n with
  | zero =>
    intro m _ hg e
    cases m with
    | zero => exact ⟨rfl, fun k a b => by omega⟩
    | succ m =>
      have := pkd_pos (f := g) (p := q) (n := m + 1) (by omega) (fun k a b => (hg k a b).1)
      rw [← e] at this
      exact absurd this (by show ¬ (1 : Int) ≤ 0; decide)
  | succ n ih =>
    intro m hf hg e
    cases m with
    | zero =>
      have := pkd_pos (f := f) (p := p) (n := n + 1) (by omega) (fun k a b => (hf k a b).1)
      rw [e] at this
      exact absurd this (by show ¬ (1 : Int) ≤ 0; decide)
    | succ m =>
      rw [pkd_succ, pkd_succ] at e
      have a := hf n (by omega) (by omega)
      have b := hg m (by omega) (by omega)
      obtain ⟨e1, e2⟩ := ih m (fun k x y => hf k x (by omega)) (fun k x y => hg k x (by omega)) (by omega)
      subst e1
      refine ⟨rfl, fun k x y => ?_⟩
      by_cases z : k = n
      · subst z; omega
      · exact e2 k x (by omega)
theorem pkd_cg {f g : Int → Int} {p q : Int} : ∀ n : Nat, (∀ k : Int, 0 ≤ k → k < n → f (p + k) = g (q + k)) → pkd f n p = pkd g n q := by
  intro n
  induction n with
  | zero => intro _; rfl
  | succ n ih =>
    intro h
    rw [pkd_succ, pkd_succ, ih (fun k a b => h k a (by omega)), h n (by omega) (by omega)]
theorem rnk_le (s : Int) : rnk s ≤ 62 := by
  unfold rnk
  repeat' (first | omega | split)
theorem rnk_inj {x y : Int} (h : 1 ≤ rnk x) (e : rnk x = rnk y) : x = y := by
  unfold rnk at *
  repeat' (first | omega | split at *)
def kwv (i : Nat) : Int := pkd (fun t => rnk (js_b i t.toNat)) (js_len.getD i 0) 0
theorem kwv_ok : ∀ i : Nat, i < 12 → kow (kwv (i + 4)) = i + 4 ∧ (∀ t : Nat, t < js_len.getD (i + 4) 0 → 1 ≤ rnk (js_b (i + 4) t)) ∧ js_len.getD (i + 4) 0 ≤ 10 := by decide +kernel
theorem kow_inj {v : Int} : ∀ i : Nat, i < 12 → kow v = i + 4 → v = kwv (i + 4) := by
  intro i hi h
  have e : ∀ i : Nat, i < 12 → kwv (i + 4) = [1369421, 4308, 335815429, 52449483, 8844755282, 20789412040, 791749, 1361093, 369411397, 62596, 5019269, 17364357].getD i 0 := by decide +kernel
  have hh : i = 0 ∨ i = 1 ∨ i = 2 ∨ i = 3 ∨ i = 4 ∨ i = 5 ∨ i = 6 ∨ i = 7 ∨ i = 8 ∨ i = 9 ∨ i = 10 ∨ i = 11 := by omega
  rw [e i hi]
  unfold kow at h
  rcases hh with rfl | rfl | rfl | rfl | rfl | rfl | rfl | rfl | rfl | rfl | rfl | rfl <;> (simp only [List.getD_cons_zero, List.getD_cons_succ]; repeat' (first | omega | split at h))
theorem tok_word {f : Int → Int} {len p q k v : Int} (h : TokS f len p q k v) (k1 : 3 ≤ k) (k2 : k ≤ 15) : (∀ i, p ≤ i → i < q → 1 ≤ rnk (f i)) ∧ q - p ≤ 10 ∧ k = kow v ∧ v = pkd (fun i => rnk (f i)) (q - p).toNat p := by
  rcases h.2.2.2.2 with ⟨_, _, rfl⟩ | ⟨ha, _, hr⟩
  · unfold sgn at k1 k2
    have := sgn_ok (f p % 256).toNat (by omega)
    rw [show (((f p % 256).toNat : Nat) : Int) = f p % 256 from by omega] at this
    split at k1
    · omega
    · rename_i y
      rw [if_neg y] at k2
      omega
  · rcases hr with ⟨_, ⟨_, _, rfl, _⟩ | ⟨_, rfl⟩⟩ | ⟨_, ⟨a, b, c⟩ | ⟨_, rfl⟩⟩
    · omega
    · omega
    · exact ⟨ha, a, b, c⟩
    · omega
theorem tok_sign {f : Int → Int} {len p q k v : Int} (h : TokS f len p q k v) (k1 : 16 ≤ k) : k = f p % 256 ∧ q = p + 1 := by
  rcases h.2.2.2.2 with ⟨_, e, rfl⟩ | ⟨ha, _, hr⟩
  · unfold sgn at k1 ⊢
    split at k1
    · omega
    · rename_i y
      rw [if_neg y]
      exact ⟨rfl, e⟩
  · rcases hr with ⟨_, ⟨_, _, rfl, _⟩ | ⟨_, rfl⟩⟩ | ⟨_, ⟨a, rfl, c⟩ | ⟨_, rfl⟩⟩
    · omega
    · omega
    · have := kow_rng v
      omega
    · omega
section QRY
variable {d : Nat} {M : Mem} {K P W E : Int → Int} {n j : Int} {Q : Int → Mem → Prop}
/-- the token at j, and that it is one of the text's -/
def Tok1 (M : Mem) (K P W E : Int → Int) (j : Int) : Prop := AtT M K P W E j ∧ M 0 2 ≤ 3000 ∧ ((K j = 1 ∧ P j = M 0 2 ∧ E j = M 0 2 ∧ 0 ≤ P j) ∨ (K j ≠ 1 ∧ TokS (M 1) (M 0 2) (P j) (E j) (K j) (W j)))
theorem Tok1.k3 (h : Tok1 M K P W E j) : M 0 3 = rkd (K j) := h.1.1
theorem Tok1.k4 (h : Tok1 M K P W E j) : M 0 4 = P j := h.1.2.1
theorem Tok1.k5 (h : Tok1 M K P W E j) : M 0 5 = E j := h.1.2.2.1
theorem Tok1.rg (h : Tok1 M K P W E j) : (0 ≤ K j ∧ K j ≤ 15) ∨ (40 ≤ K j ∧ K j ≤ 125) := by
  rcases h.2.2 with h | ⟨_, h⟩
  · omega
  · have := tok_range h
    omega
theorem Tok1.pl (h : Tok1 M K P W E j) : 0 ≤ P j ∧ P j ≤ E j ∧ E j ≤ M 0 2 := by
  rcases h.2.2 with h | ⟨_, h⟩
  · omega
  · have a := h.1
    have b := h.2.1
    have c := h.2.2.1
    omega
theorem Tok1.wd (h : Tok1 M K P W E j) (k1 : 3 ≤ K j) (k2 : K j ≤ 15) : P j < E j ∧ (∀ i, P j ≤ i → i < E j → 1 ≤ rnk (M 1 i)) ∧ E j - P j ≤ 10 ∧ K j = kow (W j) ∧ W j = pkd (fun i => rnk (M 1 i)) (E j - P j).toNat (P j) := by
  rcases h.2.2 with h | ⟨_, h⟩
  · omega
  · exact ⟨h.2.1, tok_word h k1 k2⟩
theorem rkd_w {k : Int} (h : (0 ≤ k ∧ k ≤ 15) ∨ (40 ≤ k ∧ k ≤ 125)) : (rkd k = 2 ↔ (3 ≤ k ∧ k ≤ 15)) ∧ (rkd k = 4 ↔ 40 ≤ k) ∧ (rkd k = 0 ↔ k = 1) ∧ (rkd k = 3 ↔ k = 2) ∧ (rkd k = 1 ↔ k = 0) := by
  unfold rkd
  repeat' (first | omega | split)
theorem pm_isSign {c : Int} (t : Tok1 M K P W E j) (hc : 40 ≤ c) (h1 : K j = c → Q 1 M) (h0 : K j ≠ c → Q 0 M) : PM (d + 2) n_isSign_0 [c] M Q := by
  have rg := t.rg
  have rw4 := (rkd_w rg).2.1
  have k3 := t.k3
  have pl := t.pl
  have k4 := t.k4
  refine st_isSign_0 ⟨fun h => h0 (fun e => h (by rw [k3, rw4]; omega)), fun h => ?_⟩
  have k40 : 40 ≤ K j := rw4.1 (by rw [← k3]; exact Classical.not_not.1 h)
  obtain ⟨n1, ts⟩ : K j ≠ 1 ∧ TokS (M 1) (M 0 2) (P j) (E j) (K j) (W j) := by
    rcases t.2.2 with q | q
    · omega
    · exact q
  obtain ⟨e1, e2⟩ := tok_sign ts (by omega)
  refine pm_at (by omega) t.2.1 ?_
  rw [atv_in (by omega), k4, ← e1]
  exact ⟨fun q => h0 q, fun q => h1 (Classical.not_not.1 q)⟩
theorem word_loop {i : Nat} (hi : i < 16) (m4 : 0 ≤ M 0 4) (hl : M 0 2 ≤ 3000) (m4' : M 0 4 ≤ 3000) (h1 : (∀ t : Int, 0 ≤ t → t < (js_len.getD i 0 : Nat) → atv M (M 0 4 + t) = js_b i t.toNat) → Q 1 M) (h0 : ¬ (∀ t : Int, 0 ≤ t → t < (js_len.getD i 0 : Nat) → atv M (M 0 4 + t) = js_b i t.toNat) → Q 0 M) : ∀ (r : Nat) (x3 : Int), (js_len.getD i 0 : Nat) - x3 = r → 0 ≤ x3 → (∀ t : Int, 0 ≤ t → t < x3 → atv M (M 0 4 + t) = js_b i t.toNat) → PM (d + 6) n_isWord_32 [(i : Int), 1, x3] M Q := by
  have l66 : js_len.getD i 0 ≤ 66 := (by decide : ∀ i : Nat, i < 16 → js_len.getD i 0 ≤ 66) i hi
  have ti : ((i : Int)).toNat = i := by omega
  intro r
  induction r with
  | zero =>
    intro x3 hr x0 hb
    refine st_isWord_32 ⟨by omega, by omega, fun _ => ⟨Or.inr rfl, h1 (fun t a b => hb t a (by omega))⟩, fun z => absurd (by rw [ti]; omega) z⟩
  | succ r ih =>
    intro x3 hr x0 hb
    refine st_isWord_32 ⟨by omega, by omega, fun z => absurd z (by rw [ti]; omega), fun _ => ⟨fun z => absurd z (by decide), fun _ => ⟨by omega, by omega, pm_at (by omega) hl ⟨by omega, by omega, x0, by rw [ti]; omega, fun z => ⟨by omega, by omega, ?_⟩, fun z => ⟨by omega, by omega, ?_⟩⟩⟩⟩⟩
    · rw [ti] at z
      have q0 : Q 0 M := h0 (fun q => z (q x3 x0 (by omega)))
      exact st_isWord_32 ⟨by omega, by omega, fun _ => ⟨Or.inl rfl, q0⟩, fun _ => ⟨fun _ => ⟨Or.inl rfl, q0⟩, fun y => absurd rfl y⟩⟩
    · rw [ti] at z
      refine ih (x3 + 1) (by omega) (by omega) (fun t a b => ?_)
      by_cases y : t = x3
      · rw [y]; exact Classical.not_not.1 z
      · exact hb t a (by omega)
theorem pm_isWord {i : Nat} (hi : i < 12) (t : Tok1 M K P W E j) (h1 : K j = i + 4 → Q 1 M) (h0 : K j ≠ i + 4 → Q 0 M) : PM (d + 6) n_isWord_0 [(i : Int) + 4] M Q := by
  have rg := t.rg
  have rw2 := (rkd_w rg).1
  have k3 := t.k3
  have pl := t.pl
  have k4 := t.k4
  have k5 := t.k5
  have hl := t.2.1
  obtain ⟨w1, w2, w3⟩ := kwv_ok i hi
  have ti : ((i : Int) + 4).toNat = i + 4 := by omega
  have q0 : K j ≠ i + 4 → PM (d + 6) n_isWord_32 [(i : Int) + 4, 0, 0] M Q := fun q => st_isWord_32 ⟨by omega, by omega, fun _ => ⟨Or.inl rfl, h0 q⟩, fun _ => ⟨fun _ => ⟨Or.inl rfl, h0 q⟩, fun y => absurd rfl y⟩⟩
  refine st_isWord_0 ⟨fun h => q0 (fun e => h (by rw [k3, rw2]; omega)), fun h => ?_⟩
  have k315 := rw2.1 (by rw [← k3]; exact Classical.not_not.1 h)
  obtain ⟨v0, v1, v2, v3, v4⟩ := t.wd k315.1 k315.2
  have key : (K j = i + 4) ↔ (E j - P j = (js_len.getD (i + 4) 0 : Nat) ∧ ∀ t : Int, 0 ≤ t → t < E j - P j → M 1 (P j + t) = js_b (i + 4) t.toNat) := by
    constructor
    · intro e
      have ev : W j = kwv (i + 4) := kow_inj i hi (by omega)
      rw [v4] at ev
      unfold kwv at ev
      obtain ⟨a, b⟩ := pkd_inj (f := fun i => rnk (M 1 i)) (p := P j) (q := 0) _ _ (fun k x y => ⟨v1 (P j + k) (by omega) (by omega), by have := rnk_le (M 1 (P j + k)); show rnk (M 1 (P j + k)) ≤ 63; omega⟩) (fun k x y => ⟨by show 1 ≤ rnk (js_b (i + 4) (0 + k).toNat); rw [Int.zero_add]; exact w2 k.toNat (by omega), by have := rnk_le (js_b (i + 4) (0 + k).toNat); show rnk (js_b (i + 4) (0 + k).toNat) ≤ 63; omega⟩) ev
      refine ⟨by omega, fun t x y => rnk_inj (v1 _ (by omega) (by omega)) ?_⟩
      have := b t x (by omega)
      simp only [Int.zero_add] at this
      exact this
    · intro ⟨e1, e2⟩
      have : W j = kwv (i + 4) := by
        rw [v4]
        unfold kwv
        rw [show (E j - P j).toNat = js_len.getD (i + 4) 0 from by omega]
        refine pkd_cg _ (fun k x y => ?_)
        show rnk (M 1 (P j + k)) = rnk (js_b (i + 4) (0 + k).toNat)
        rw [Int.zero_add, e2 k x (by omega)]
      rw [v3, this, w1]
  refine ⟨by omega, by omega, by omega, by omega, fun z => q0 (fun e => z (by rw [ti, k4, k5]; exact (key.1 e).1)), fun z => ?_⟩
  rw [ti, k4, k5] at z
  have z := Classical.not_not.1 z
  have av : ∀ t : Int, 0 ≤ t → t < E j - P j → atv M (M 0 4 + t) = M 1 (P j + t) := fun t a b => by
    have := rnk_rng (v1 (P j + t) (by omega) (by omega))
    rw [atv_in (by omega), k4]
    omega
  have := word_loop (d := d) (Q := Q) (i := i + 4) (by omega) (by omega) hl (by omega) (fun q => h1 (key.2 ⟨z, fun t a b => by rw [← av t a b]; exact q t a (by omega)⟩)) (fun q => h0 (fun e => q (fun t a b => by rw [av t a (by omega)]; exact (key.1 e).2 t a (by omega)))) (js_len.getD (i + 4) 0) 0 (by omega) (by omega) (fun t a b => by omega)
  exact this
theorem pm_isKeyword (t : Tok1 M K P W E j) (h1 : 4 ≤ K j → K j ≤ 15 → Q 1 M) (h0 : ¬ (4 ≤ K j ∧ K j ≤ 15) → Q 0 M) : PM (d + 7) n_isKeyword_0 [] M Q := by
  have y : (1 : Int) ≠ 0 := by decide
  have W := fun (i : Nat) (hi : i < 12) (Q : Int → Mem → Prop) (a : K j = i + 4 → Q 1 M) (b : K j ≠ i + 4 → Q 0 M) => pm_isWord (d := d) (Q := Q) hi t a b
  refine st_isKeyword_0 (W 0 (by decide) _ (fun e => ⟨fun _ => h1 (by omega) (by omega), fun z => absurd y z⟩) (fun e0 => ⟨fun z => absurd rfl z, fun _ => ?_⟩))

  refine W 1 (by decide) _ (fun e => ⟨fun _ => h1 (by omega) (by omega), fun z => absurd y z⟩) (fun e1 => ⟨fun z => absurd rfl z, fun _ => ?_⟩)
  refine W 2 (by decide) _ (fun e => ⟨fun _ => h1 (by omega) (by omega), fun z => absurd y z⟩) (fun e2 => ⟨fun z => absurd rfl z, fun _ => ?_⟩)
  refine W 3 (by decide) _ (fun e => ⟨fun _ => h1 (by omega) (by omega), fun z => absurd y z⟩) (fun e3 => ⟨fun z => absurd rfl z, fun _ => ?_⟩)
  refine W 4 (by decide) _ (fun e => ⟨fun _ => h1 (by omega) (by omega), fun z => absurd y z⟩) (fun e4 => ⟨fun z => absurd rfl z, fun _ => ?_⟩)
  refine W 5 (by decide) _ (fun e => ⟨fun _ => h1 (by omega) (by omega), fun z => absurd y z⟩) (fun e5 => ⟨fun z => absurd rfl z, fun _ => ?_⟩)
  refine W 6 (by decide) _ (fun e => ⟨fun _ => h1 (by omega) (by omega), fun z => absurd y z⟩) (fun e6 => ⟨fun z => absurd rfl z, fun _ => ?_⟩)
  refine W 7 (by decide) _ (fun e => ⟨fun _ => h1 (by omega) (by omega), fun z => absurd y z⟩) (fun e7 => ⟨fun z => absurd rfl z, fun _ => ?_⟩)
  refine W 8 (by decide) _ (fun e => ⟨fun _ => h1 (by omega) (by omega), fun z => absurd y z⟩) (fun e8 => ⟨fun z => absurd rfl z, fun _ => ?_⟩)
  refine W 9 (by decide) _ (fun e => ⟨fun _ => h1 (by omega) (by omega), fun z => absurd y z⟩) (fun e9 => ⟨fun z => absurd rfl z, fun _ => ?_⟩)
  refine W 10 (by decide) _ (fun e => ⟨fun _ => h1 (by omega) (by omega), fun z => absurd y z⟩) (fun e10 => ⟨fun z => absurd rfl z, fun _ => ?_⟩)
  refine W 11 (by decide) _ (fun e => ⟨fun z => absurd z y, fun _ => h1 (by omega) (by omega)⟩) (fun e11 => ⟨fun _ => h0 (by omega), fun z => absurd rfl z⟩)
theorem pm_isName (t : Tok1 M K P W E j) (h1 : K j = 3 → Q 1 M) (h0 : K j ≠ 3 → Q 0 M) : PM (d + 8) n_isName_0 [] M Q := by
  have rg := t.rg
  have rw2 := (rkd_w rg).1
  have k3 := t.k3
  refine st_isName_0 ⟨fun h => h0 (fun e => h (by rw [k3, rw2]; omega)), fun h => ?_⟩
  have k315 := rw2.1 (by rw [← k3]; exact Classical.not_not.1 h)
  exact pm_isKeyword t (fun a b => ⟨fun _ => h0 (by omega), fun z => absurd (by decide) z⟩) (fun a => ⟨fun z => absurd rfl z, fun _ => h1 (by omega)⟩)
end QRY

