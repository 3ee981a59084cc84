/-! ===== tokens: the reference's side ===== -/
def rkd (k : Int) : Int := if k = 0 then 1 else if k = 1 then 0 else if k = 2 then 3 else if k ≤ 15 then 2 else 4
def ltr (x : Int) : Prop := (97 ≤ x ∧ x ≤ 122) ∨ (65 ≤ x ∧ x ≤ 90)
def AtT (M : Mem) (K P W E : Int → Int) (j : Int) : Prop := M 0 3 = rkd (K j) ∧ M 0 4 = P j ∧ M 0 5 = E j ∧ (K j = 2 → M 0 6 = W j)
def Lxs (M M' : Mem) : Prop := ∀ k j, ¬ (k = 0 ∧ 3 ≤ j ∧ j ≤ 6) → M' k j = M k j
theorem Lxs.rf {M : Mem} : Lxs M M := fun _ _ _ => rfl
theorem Lxs.tr {M M1 M2 : Mem} (h : Lxs M M1) (h2 : Lxs M1 M2) : Lxs M M2 := fun k j q => (h2 k j q).trans (h k j q)
theorem Lxs.up {M : Mem} {j x : Int} (h : 3 ≤ j ∧ j ≤ 6) : Lxs M (up M 0 j x) := fun k i q => up_ne (by omega)
theorem rnk_ld {x : Int} : 1 ≤ rnk x ↔ (ltr x ∨ dgt x) := by
  unfold rnk ltr dgt
  split
  · omega
  · split
    · omega
    · split <;> omega
theorem sgn_ok : ∀ n : Nat, n < 256 → (js_ix 1 (n : Int) < 0 ↔ js_ix 3 (n : Int) < 0) ∧ (js_ix 1 (n : Int) < 0 ∨ 40 ≤ n ∧ n ≤ 125) := by decide +kernel
theorem kow_rng (v : Int) : 3 ≤ kow v ∧ kow v ≤ 15 := by
  unfold kow
  repeat' (first | omega | split)
def atv (M : Mem) (p : Int) : Int := if M 0 2 ≤ p then 0 else M 1 p % 256
section RLX
variable {d : Nat} {M : Mem} {Q : Int → Mem → Prop}
theorem pm_at {p : Int} (p0 : 0 ≤ p) (hl : M 0 2 ≤ 3000) (hq : Q (atv M p) M) : PM (d + 1) n_at_0 [p] M Q := by
  refine st_at_0 ⟨fun h => ?_, fun h => ⟨p0, by omega, ?_⟩⟩
  · unfold atv at hq; rw [if_pos h] at hq; exact hq
  · unfold atv at hq; rw [if_neg h] at hq; rw [and255i]; exact hq
theorem pm_isLetter {x : Int} (h1 : ltr x → Q 1 M) (h2 : ¬ ltr x → Q 0 M) : PM (d + 1) n_isLetter_0 [x] M Q := by
  unfold ltr at *
  exact st_isLetter_0 ⟨fun a => ⟨fun b => h2 (by omega), fun b => ⟨fun e => h2 (by omega), fun e => h1 (by omega)⟩⟩, fun a => ⟨fun b => h1 (by omega), fun b => ⟨fun e => h2 (by omega), fun e => ⟨fun f => h2 (by omega), fun f => h1 (by omega)⟩⟩⟩⟩
theorem pm_isDigit {x : Int} (h1 : dgt x → Q 1 M) (h2 : ¬ dgt x → Q 0 M) : PM (d + 1) n_isDigit_0 [x] M Q := by
  unfold dgt at *
  exact st_isDigit_0 ⟨fun a => h2 (by omega), fun a => ⟨fun b => h2 (by omega), fun b => h1 (by omega)⟩⟩
end RLX
/-- bytes: what the reference reads at a place within the tape -/
theorem atv_in {M : Mem} {p : Int} (h : p < M 0 2) : atv M p = M 1 p % 256 := by unfold atv; rw [if_neg (by omega)]
theorem atv_end {M : Mem} {p : Int} (h : M 0 2 ≤ p) : atv M p = 0 := by unfold atv; rw [if_pos h]
theorem skip_loop {d : Nat} {P : Int} : ∀ (r : Nat) (M : Mem), P - M 0 4 = r → 0 ≤ M 0 4 → P ≤ M 0 2 → M 0 2 ≤ 3000 → (∀ i, M 0 4 ≤ i → i < P → blk (M 1 i)) → ∃ M', (∀ Qr : Int → Mem → Prop, PM (d + 2) n_next_8 [] M' Qr → PM (d + 2) n_next_8 [] M Qr) ∧ M' 0 4 = P ∧ (∀ k j, ¬ (k = 0 ∧ j = 4) → M' k j = M k j) := by
  intro r
  induction r with
  | zero =>
    intro M hr p0 pl hl hb
    exact ⟨M, fun Qr q => q, by omega, fun _ _ _ => rfl⟩
  | succ r ih =>
    intro M hr p0 pl hl hb
    have e4 : up M 0 4 (M 0 4 + 1) 0 4 = M 0 4 + 1 := up_eq
    have ne : ∀ k j, ¬ (k = 0 ∧ j = 4) → up M 0 4 (M 0 4 + 1) k j = M k j := fun k j q => up_ne (by omega)
    have e2 := ne 0 2 (by omega)
    obtain ⟨M', h1, h2, h3⟩ := ih (up M 0 4 (M 0 4 + 1)) (by omega) (by omega) (by omega) (by omega) (fun i a b => by rw [ne _ _ (by omega)]; exact hb i (by omega) b)
    refine ⟨M', fun Qr q => st_next_8 (pm_at p0 hl ?_), h2, fun k j q => (h3 k j q).trans (ne k j q)⟩
    have b := hb (M 0 4) (by omega) (by omega)
    rw [atv_in (by omega)]
    unfold blk at b
    refine ⟨fun _ => ⟨by omega, by omega, h1 Qr q⟩, fun n32 => pm_at p0 hl ?_⟩
    rw [atv_in (by omega)]
    exact ⟨fun z => absurd (by omega) z, fun _ => ⟨by omega, by omega, h1 Qr q⟩⟩
theorem row_ref {d : Nat} {E x1 : Int} : ∀ (r : Nat) (M : Mem) (x2 : Int), E - M 0 5 = r → 0 ≤ M 0 4 → M 0 4 ≤ M 0 5 → E ≤ M 0 2 → M 0 2 ≤ 3000 → (∀ i, M 0 4 ≤ i → i < E → 1 ≤ rnk (M 1 i)) → (∀ i, 0 ≤ i → i < M 0 2 → wb (M 1 i) = M 1 i) → ((x2 = 0 ∧ ∀ i, M 0 4 ≤ i → i < M 0 5 → dgt (M 1 i)) ∨ (x2 = 1 ∧ ∃ i, M 0 4 ≤ i ∧ i < M 0 5 ∧ ¬ dgt (M 1 i))) → ∃ M' x2', (∀ Qr : Int → Mem → Prop, PM (d + 2) n_next_115 [x1, x2'] M' Qr → PM (d + 2) n_next_115 [x1, x2] M Qr) ∧ M' 0 5 = E ∧ (∀ k j, ¬ (k = 0 ∧ j = 5) → M' k j = M k j) ∧ ((x2' = 0 ∧ ∀ i, M 0 4 ≤ i → i < E → dgt (M 1 i)) ∨ (x2' = 1 ∧ ∃ i, M 0 4 ≤ i ∧ i < E ∧ ¬ dgt (M 1 i))) := by
  intro r
  induction r with
  | zero =>
    intro M x2 hr p0 p45 pl hl ha hw hx
    have e : M 0 5 = E := by omega
    rw [e] at hx
    exact ⟨M, x2, fun Qr q => q, e, fun _ _ _ => rfl, hx⟩
  | succ r ih =>
    intro M x2 hr p0 p45 pl hl ha hw hx
    have e5 : up M 0 5 (M 0 5 + 1) 0 5 = M 0 5 + 1 := up_eq
    have ne : ∀ k j, ¬ (k = 0 ∧ j = 5) → up M 0 5 (M 0 5 + 1) k j = M k j := fun k j q => up_ne (by omega)
    have e2 := ne 0 2 (by omega)
    have e4 := ne 0 4 (by omega)
    have rk := ha (M 0 5) (by omega) (by omega)
    have wbx := hw (M 0 5) (by omega) (by omega)
    have rg := rnk_rng rk
    have av : atv M (M 0 5) = M 1 (M 0 5) := by rw [atv_in (by omega)]; omega
    have ld := rnk_ld.1 rk
    have excl : ltr (M 1 (M 0 5)) → ¬ dgt (M 1 (M 0 5)) := by unfold ltr dgt; omega
    have step : ∀ y, ((y = 0 ∧ ∀ i, M 0 4 ≤ i → i < M 0 5 + 1 → dgt (M 1 i)) ∨ (y = 1 ∧ ∃ i, M 0 4 ≤ i ∧ i < M 0 5 + 1 ∧ ¬ dgt (M 1 i))) → (∀ Qr : Int → Mem → Prop, PM (d + 2) n_next_115 [x1, y] (up M 0 5 (M 0 5 + 1)) Qr → PM (d + 2) n_next_115 [x1, x2] M Qr) → ∃ M' x2', (∀ Qr : Int → Mem → Prop, PM (d + 2) n_next_115 [x1, x2'] M' Qr → PM (d + 2) n_next_115 [x1, x2] M Qr) ∧ M' 0 5 = E ∧ (∀ k j, ¬ (k = 0 ∧ j = 5) → M' k j = M k j) ∧ ((x2' = 0 ∧ ∀ i, M 0 4 ≤ i → i < E → dgt (M 1 i)) ∨ (x2' = 1 ∧ ∃ i, M 0 4 ≤ i ∧ i < E ∧ ¬ dgt (M 1 i))) := by
      intro y hy reach
      have m1 : ∀ i, up M 0 5 (M 0 5 + 1) 1 i = M 1 i := fun i => ne 1 i (by omega)
      obtain ⟨M', x2', h1, h2, h3, h4⟩ := ih (up M 0 5 (M 0 5 + 1)) y (by omega) (by omega) (by omega) (by omega) (by omega) (fun i a b => by rw [m1]; exact ha i (by omega) b) (fun i a b => by rw [m1]; exact hw i a (by omega)) (by simp only [m1, e4, e5]; exact hy)
      simp only [m1, e4] at h4
      exact ⟨M', x2', fun Qr q => reach Qr (h1 Qr q), h2, fun k j q => (h3 k j q).trans (ne k j q), h4⟩
    by_cases L : ltr (M 1 (M 0 5))
    · refine step 1 (Or.inr ⟨rfl, M 0 5, by omega, by omega, excl L⟩) (fun Qr q => st_next_115 (pm_at (by omega) hl (pm_isLetter (fun _ => ⟨fun _ => ⟨fun _ => ⟨by omega, by omega, q⟩, fun _ => pm_at (by omega) hl (pm_isLetter (fun _ => ⟨fun z => absurd z (by decide), fun _ => ⟨by omega, by omega, q⟩⟩) (fun n => absurd (by rw [av]; exact L) n))⟩, fun z => absurd (by decide) z⟩) (fun n => absurd (by rw [av]; exact L) n))))
    · have D : dgt (M 1 (M 0 5)) := by
        rcases ld with y | y
        · exact absurd y L
        · exact y
      rcases hx with ⟨rfl, hx⟩ | ⟨rfl, i, i1, i2, i3⟩
      · refine step 0 (Or.inl ⟨rfl, fun i a b => ?_⟩) (fun Qr q => st_next_115 (pm_at (by omega) hl (pm_isLetter (fun y => absurd (by rw [← av]; exact y) L) (fun _ => ⟨fun z => absurd rfl z, fun _ => pm_at (by omega) hl (pm_isDigit (fun _ => ⟨fun z => absurd z (by decide), fun _ => ⟨fun z => absurd rfl z, fun _ => pm_at (by omega) hl (pm_isLetter (fun y => absurd (by rw [← av]; exact y) L) (fun _ => ⟨fun _ => ⟨by omega, by omega, q⟩, fun z => absurd rfl z⟩))⟩⟩) (fun n => absurd (by rw [av]; exact D) n))⟩))))
        by_cases y : i = M 0 5
        · rw [y]; exact D
        · exact hx i a (by omega)
      · exact step 1 (Or.inr ⟨rfl, i, i1, by omega, i3⟩) (fun Qr q => st_next_115 (pm_at (by omega) hl (pm_isLetter (fun y => absurd (by rw [← av]; exact y) L) (fun _ => ⟨fun z => absurd rfl z, fun _ => pm_at (by omega) hl (pm_isDigit (fun _ => ⟨fun z => absurd z (by decide), fun _ => ⟨fun _ => ⟨by omega, by omega, q⟩, fun z => absurd (by decide) z⟩⟩) (fun n => absurd (by rw [av]; exact D) n))⟩))))
theorem num_ref {d : Nat} {x1 x2 x3 E p : Int} : ∀ (r : Nat) (M : Mem) (a : Int), E - a = r → M 0 3 = 3 → M 0 5 = E → 0 ≤ p → p ≤ a → E ≤ M 0 2 → M 0 2 ≤ 3000 → E - p ≤ 9 → (∀ i, p ≤ i → i < E → dgt (M 1 i)) → M 0 6 = dcm (M 1) (a - p).toNat p → ∃ M', (∀ Qr : Int → Mem → Prop, Qr 0 M' → PM (d + 2) n_next_249 [x1, x2, x3, a] M Qr) ∧ M' 0 6 = dcm (M 1) (E - p).toNat p ∧ (∀ k j, ¬ (k = 0 ∧ j = 6) → M' k j = M k j) := by
  intro r
  induction r with
  | zero =>
    intro M a hr h3 h5 p0 pa el hl h9 ha h6
    exact ⟨M, fun Qr q => st_next_249 ⟨fun _ => q, fun z => absurd (by omega) z⟩, by rw [h6, show a = E from by omega], fun _ _ _ => rfl⟩
  | succ r ih =>
    intro M a hr h3 h5 p0 pa el hl h9 ha h6
    have dg := ha a pa (by omega)
    unfold dgt at dg
    have av : atv M a = M 1 a := by rw [atv_in (by omega)]; omega
    have db := dcm_bd (f := M 1) (p := p) (a - p).toNat (by omega) (fun i x y => ha i x (by omega))
    have p9 : (10 : Int) ^ (a - p).toNat ≤ 100000000 := (by decide : ∀ k : Nat, k ≤ 8 → (10 : Int) ^ k ≤ 100000000) _ (by omega)
    have e : dcm (M 1) (a + 1 - p).toNat p = 10 * M 0 6 + M 1 a - 48 := by
      rw [show (a + 1 - p).toNat = (a - p).toNat + 1 from by omega, dcm_succ, ← h6, show p + ((a - p).toNat : Int) = a from by omega]
      omega
    have ne : ∀ k j, ¬ (k = 0 ∧ j = 6) → up M 0 6 (10 * M 0 6 + M 1 a - 48) k j = M k j := fun k j q => up_ne (by omega)
    have m1 : up M 0 6 (10 * M 0 6 + M 1 a - 48) 1 = M 1 := funext fun i => ne 1 i (by omega)
    obtain ⟨M', k1, k2, k3⟩ := ih (up M 0 6 (10 * M 0 6 + M 1 a - 48)) (a + 1) (by omega) (by rw [ne _ _ (by omega)]; exact h3) (by rw [ne _ _ (by omega)]; exact h5) p0 (by omega) (by rw [ne _ _ (by omega)]; exact el) (by rw [ne _ _ (by omega)]; exact hl) h9 (by rw [m1]; exact ha) (by rw [m1, up_eq, e])
    rw [m1] at k2
    refine ⟨M', fun Qr q => st_next_249 ⟨fun z => absurd z (by omega), fun _ => ⟨fun z => absurd h3 z, fun _ => ⟨by omega, by omega, pm_at (by omega) hl ?_⟩⟩⟩, k2, fun k j q => (k3 k j q).trans (ne k j q)⟩
    rw [av]
    exact ⟨by omega, by omega, by omega, by omega, by omega, by omega, k1 Qr q⟩
theorem tok_range {f : Int → Int} {len p q k v : Int} (h : TokS f len p q k v) : k = 0 ∨ (2 ≤ k ∧ k ≤ 15) ∨ (40 ≤ k ∧ k ≤ 125) := by
  rcases h.2.2.2.2 with ⟨_, _, rfl⟩ | ⟨_, _, hr⟩
  · unfold sgn
    have := sgn_ok (f p % 256).toNat (by omega)
    rw [show (((f p % 256).toNat : Nat) : Int) = f p % 256 from by omega] at this
    split
    · exact Or.inl rfl
    · omega
  · rcases hr with ⟨_, ⟨_, _, rfl, _⟩ | ⟨_, rfl⟩⟩ | ⟨_, ⟨_, rfl, _⟩ | ⟨_, rfl⟩⟩
    · omega
    · omega
    · have := kow_rng v
      omega
    · omega
theorem pm_next {d : Nat} {M : Mem} {K P W E : Int → Int} {n j : Int} (tk : TK (M 1) (M 0 2) K P W E n) (hw : ∀ i, 0 ≤ i → i < M 0 2 → wb (M 1 i) = M 1 i) (j0 : 0 ≤ j) (j1 : j < n) (hb : M 0 5 = bef E j ∨ (j = n - 1 ∧ M 0 5 = M 0 2)) : ∃ M', RunM (d + 7) n_next_0 [] M 0 M' ∧ Lxs M M' ∧ AtT M' K P W E j := by
  obtain ⟨⟨t1, t2, t3, t4, t5, t6⟩, n1, kE, pE, eE, l0, l1⟩ := tk
  have n4 : ∀ k i, ¬ (k = 0 ∧ i = 4) → up M 0 4 (M 0 5) k i = M k i := fun k i q => up_ne (by omega)
  have m4 : up M 0 4 (M 0 5) 0 4 = M 0 5 := up_eq
  have m2 := n4 0 2 (by omega)
  have m1 : ∀ i, up M 0 4 (M 0 5) 1 i = M 1 i := fun i => n4 1 i (by omega)
  by_cases je : j = n - 1
  · subst je
    have pb : 0 ≤ M 0 5 ∧ M 0 5 ≤ M 0 2 ∧ ∀ i, M 0 5 ≤ i → i < M 0 2 → blk (M 1 i) := by
      rcases hb with hb | ⟨_, hb⟩
      · rw [hb]; exact ⟨t2, t3, t4⟩
      · exact ⟨by omega, by omega, fun i a b => by omega⟩
    obtain ⟨M1, k1, k2, k3⟩ := skip_loop (d := d + 5) (P := M 0 2) (M 0 2 - M 0 5).toNat (up M 0 4 (M 0 5)) (by omega) (by omega) (by omega) (by omega) (fun i a b => by rw [m1]; exact pb.2.2 i (by omega) b)
    have q2 : M1 0 2 = M 0 2 := (k3 0 2 (by omega)).trans m2
    have av : atv M1 (M1 0 4) = 0 := atv_end (by omega)
    have q5 : up M1 0 5 (M1 0 4) 0 2 = M 0 2 := (up_ne (by omega)).trans q2
    have q4 : up M1 0 5 (M1 0 4) 0 4 = M 0 2 := (up_ne (by omega)).trans k2
    refine ⟨up (up (up (up M1 0 5 (M1 0 4)) 0 4 (M 0 2)) 0 5 (M 0 2)) 0 3 0, fun Q hq => st_next_0 (k1 Q (st_next_8 (pm_at (by omega) (by omega) ?_))), ?_, ?_⟩
    · rw [av]
      refine ⟨fun z => absurd z (by decide), fun _ => pm_at (by omega) (by omega) ?_⟩
      rw [av]
      refine ⟨fun _ => ?_, fun z => absurd (by decide) z⟩
      refine pm_at (p := M1 0 4) (by omega) (by omega) ⟨fun z => absurd z (by omega), fun _ => ?_⟩
      rw [q5]
      exact hq
    · intro k i q
      rw [up_ne (by omega), up_ne (by omega), up_ne (by omega), up_ne (by omega), k3 k i (by omega), n4 k i (by omega)]
    · refine ⟨?_, ?_, ?_, fun z => ?_⟩
      · rw [kE, up_eq]; rfl
      · rw [pE, up_ne (by omega), up_ne (by omega), up_eq]
      · rw [eE, up_ne (by omega), up_eq]
      · rw [kE] at z
        exact absurd z (by decide)
  · obtain ⟨ts, b1, b2⟩ := t1 j j0 (by omega)
    have hb' : M 0 5 = bef E j := by
      rcases hb with hb | ⟨q, _⟩
      · exact hb
      · exact absurd q je
    have bj : 0 ≤ bef E j := by
      unfold bef
      split
      · omega
      · have := (t1 (j - 1) (by omega) (by omega)).1
        have := this.1
        have := (t1 (j - 1) (by omega) (by omega)).1.2.1
        omega
    obtain ⟨p0, pq, ql, nb, cs⟩ := id ts
    obtain ⟨M1, k1, k2, k3⟩ := skip_loop (d := d + 5) (P := P j) (P j - M 0 5).toNat (up M 0 4 (M 0 5)) (by omega) (by omega) (by omega) (by omega) (fun i a b => by rw [m1]; exact b2 i (by omega) b)
    have q2 : M1 0 2 = M 0 2 := (k3 0 2 (by omega)).trans m2
    have q1 : ∀ i, M1 1 i = M 1 i := fun i => (k3 1 i (by omega)).trans (m1 i)
    have wbp := hw (P j) p0 (by omega)
    have rg : -128 ≤ M 1 (P j) ∧ M 1 (P j) ≤ 127 := by unfold wb at wbp; omega
    have av : atv M1 (M1 0 4) = M 1 (P j) % 256 := by rw [atv_in (by omega), q1, k2]
    have n32 : ¬ M 1 (P j) % 256 = 32 := fun z => nb (Or.inl (by omega))
    have n10 : ¬ M 1 (P j) % 256 = 10 := fun z => nb (Or.inr (by omega))
    have rm := rnk_m wbp
    have ne5 : ∀ k i, ¬ (k = 0 ∧ i = 5) → up M1 0 5 (M1 0 4) k i = M1 k i := fun k i q => up_ne (by omega)
    have s2 : up M1 0 5 (M1 0 4) 0 2 = M 0 2 := (ne5 0 2 (by omega)).trans q2
    have s4 : up M1 0 5 (M1 0 4) 0 4 = P j := (ne5 0 4 (by omega)).trans k2
    have s5 : up M1 0 5 (M1 0 4) 0 5 = P j := up_eq.trans k2
    have s1 : ∀ i, up M1 0 5 (M1 0 4) 1 i = M 1 i := fun i => (ne5 1 i (by omega)).trans (q1 i)
    have av5 : atv (up M1 0 5 (M1 0 4)) (M1 0 4) = M 1 (P j) % 256 := by rw [atv_in (by omega), s1, k2]
    have head : ∀ Qr : Int → Mem → Prop, (PM (d + 6) n_isLetter_0 [M 1 (P j) % 256] (up M1 0 5 (M1 0 4)) (fun z10 M10 => (z10 ≠ 0 → PM (d + 7) n_next_115 [M 1 (P j) % 256, 0] M10 Qr) ∧ (¬ (z10 ≠ 0) → PM (d + 6) n_isDigit_0 [M 1 (P j) % 256] M10 (fun z13 M13 => (z13 = 0 → -2147483648 ≤ (M13 0 5) + 1 ∧ (M13 0 5) + 1 ≤ 2147483647 ∧ 5 ≤ d + 6 ∧ ((js_ix 3 (M 1 (P j) % 256)) < 0 → Qr 0 (up (up M13 0 5 ((M13 0 5) + 1)) 0 3 1)) ∧ (¬ ((js_ix 3 (M 1 (P j) % 256)) < 0) → Qr 0 (up (up M13 0 5 ((M13 0 5) + 1)) 0 3 4))) ∧ (¬ (z13 = 0) → PM (d + 7) n_next_115 [M 1 (P j) % 256, 0] M13 Qr))))) → PM (d + 7) n_next_0 [] M Qr := by
      intro Qr hq
      refine st_next_0 (k1 Qr (st_next_8 (pm_at (by omega) (by omega) ?_)))
      rw [av]
      refine ⟨fun z => absurd z n32, fun _ => pm_at (by omega) (by omega) ?_⟩
      rw [av]
      refine ⟨fun _ => pm_at (by omega) (by omega) ?_, fun z => absurd n10 z⟩
      rw [av5]
      exact ⟨fun _ => hq, fun z => absurd (by omega) z⟩
    rcases cs with ⟨rz, eq, kq⟩ | ⟨hall, hmax, hrow⟩
    · have nl : ¬ (ltr (M 1 (P j) % 256) ∨ dgt (M 1 (P j) % 256)) := fun z => by
        have := rnk_ld.2 z
        omega
      have so := sgn_ok (M 1 (P j) % 256).toNat (by omega)
      rw [show (((M 1 (P j) % 256).toNat : Nat) : Int) = M 1 (P j) % 256 from by omega] at so
      have mk : ∀ kk, (js_ix 3 (M 1 (P j) % 256) < 0 → kk = 1) → (¬ js_ix 3 (M 1 (P j) % 256) < 0 → kk = 4) → ∃ M', RunM (d + 7) n_next_0 [] M 0 M' ∧ Lxs M M' ∧ M' 0 3 = kk ∧ M' 0 4 = P j ∧ M' 0 5 = E j := by
        intro kk h1 h4
        refine ⟨up (up (up M1 0 5 (M1 0 4)) 0 5 (P j + 1)) 0 3 kk, fun Q hq => head Q (pm_isLetter (fun z => absurd (Or.inl z) nl) (fun _ => ⟨fun z => absurd rfl z, fun _ => pm_isDigit (fun z => absurd (Or.inr z) nl) (fun _ => ⟨fun _ => ?_, fun z => absurd rfl z⟩)⟩)), ?_, up_eq, ?_, ?_⟩
        · rw [s5]
          exact ⟨by omega, by omega, by omega, fun z => by rw [h1 z] at hq; exact hq, fun z => by rw [h4 z] at hq; exact hq⟩
        · intro k i q
          rw [up_ne (by omega), up_ne (by omega), up_ne (by omega), k3 k i (by omega), n4 k i (by omega)]
        · rw [up_ne (by omega), up_ne (by omega)]; exact s4
        · rw [up_ne (by omega), up_eq]; omega
      unfold sgn at kq
      by_cases y : js_ix 1 (M 1 (P j) % 256) < 0
      · obtain ⟨M', r1, r2, r3, r4, r5⟩ := mk 1 (fun _ => rfl) (fun z => absurd (so.1.1 y) z)
        rw [if_pos y] at kq
        exact ⟨M', r1, r2, by rw [kq]; exact r3, r4, r5, fun z => by omega⟩
      · obtain ⟨M', r1, r2, r3, r4, r5⟩ := mk 4 (fun z => absurd (so.1.2 z) y) (fun _ => rfl)
        rw [if_neg y] at kq
        refine ⟨M', r1, r2, ?_, r4, r5, fun z => by omega⟩
        rw [kq, r3]
        unfold rkd
        rw [if_neg (by omega), if_neg (by omega), if_neg (by omega), if_neg (by omega)]
    · have rp := hall (P j) (by omega) (by omega)
      have rr := rnk_rng rp
      have xp : M 1 (P j) % 256 = M 1 (P j) := by omega
      have ld := rnk_ld.1 rp
      have excl : ltr (M 1 (P j)) → ¬ dgt (M 1 (P j)) := by unfold ltr dgt; omega
      rw [xp] at head
      obtain ⟨M6, y, h1, h5, hf, hy⟩ := row_ref (d := d + 5) (E := E j) (x1 := M 1 (P j)) (E j - P j).toNat (up M1 0 5 (M1 0 4)) 0 (by omega) (by omega) (by omega) (by omega) (by omega) (fun i a b => by rw [s1]; exact hall i (by omega) b) (fun i a b => by rw [s1]; exact hw i a (by omega)) (Or.inl ⟨rfl, fun i a b => by omega⟩)
      simp only [s1, s4] at hy
      have g1 : ∀ i, M6 1 i = M 1 i := fun i => (hf 1 i (by omega)).trans (s1 i)
      have g2 : M6 0 2 = M 0 2 := (hf 0 2 (by omega)).trans s2
      have g4 : M6 0 4 = P j := (hf 0 4 (by omega)).trans s4
      have nl : ¬ (ltr (atv M6 (M6 0 5)) ∨ dgt (atv M6 (M6 0 5))) := fun z => by
        have z' := rnk_ld.2 z
        by_cases e : E j < M 0 2
        · rw [h5, atv_in (by omega), g1, rnk_m (hw (E j) (by omega) e), hmax e] at z'
          exact absurd z' (by decide)
        · rw [h5, atv_end (by omega)] at z'
          exact absurd z' (by decide)
      have mid : ∀ (kk z : Int) (Q : Int → Mem → Prop), ((ltr (M 1 (P j)) ∧ z = 1 ∧ ((E j - P j ≤ 10 ∧ kk = 2) ∨ (10 < E j - P j ∧ kk = 1))) ∨ (¬ ltr (M 1 (P j)) ∧ z = 0 ∧ ((y ≠ 0 ∧ kk = 1) ∨ (y = 0 ∧ E j - P j ≤ 9 ∧ kk = 3) ∨ (y = 0 ∧ 9 < E j - P j ∧ kk = 1)))) → PM (d + 7) n_next_249 [M 1 (P j), y, z, M6 0 4] (up (up M6 0 3 kk) 0 6 0) Q → PM (d + 7) n_next_0 [] M Q := by
        intro kk z Q hc hq
        have X : PM (d + 7) n_next_115 [M 1 (P j), 0] (up M1 0 5 (M1 0 4)) Q := by
          refine h1 Q (st_next_115 (pm_at (by omega) (by omega) (pm_isLetter (fun q => absurd (Or.inl q) nl) (fun _ => ⟨fun q => absurd rfl q, fun _ => pm_at (by omega) (by omega) (pm_isDigit (fun q => absurd (Or.inr q) nl) (fun _ => ⟨fun _ => ?_, fun q => absurd rfl q⟩))⟩))))
          rcases hc with ⟨L, rfl, hc⟩ | ⟨L, rfl, hc⟩
          · refine pm_isLetter (fun _ => ⟨fun q => absurd q (by decide), fun _ => ⟨by omega, by omega, fun q => ?_, fun q => ?_⟩⟩) (fun q => absurd L q)
            · rcases hc with ⟨_, rfl⟩ | ⟨c, _⟩
              · exact hq
              · omega
            · rcases hc with ⟨c, _⟩ | ⟨_, rfl⟩
              · omega
              · exact hq
          · refine pm_isLetter (fun q => absurd q L) (fun _ => ⟨fun _ => ⟨fun q => ?_, fun q => ⟨by omega, by omega, fun u => ?_, fun u => ?_⟩⟩, fun q => absurd rfl q⟩)
            · rcases hc with ⟨_, rfl⟩ | ⟨c, _⟩ | ⟨c, _⟩
              · exact hq
              · exact absurd c q
              · exact absurd c q
            · rcases hc with ⟨c, _⟩ | ⟨_, _, rfl⟩ | ⟨_, c, _⟩
              · exact absurd c q
              · exact hq
              · omega
            · rcases hc with ⟨c, _⟩ | ⟨_, c, _⟩ | ⟨_, _, rfl⟩
              · exact absurd c q
              · omega
              · exact hq
        exact head Q (pm_isLetter (fun _ => ⟨fun _ => X, fun q => absurd (by decide) q⟩) (fun n => ⟨fun q => absurd rfl q, fun _ => pm_isDigit (fun _ => ⟨fun q => absurd q (by decide), fun _ => X⟩) (fun m => by
          rcases ld with l | l
          · exact absurd l n
          · exact absurd l m)⟩))
      have lx : ∀ kk, Lxs M (up (up M6 0 3 kk) 0 6 0) := fun kk k i q => by
        rw [up_ne (by omega), up_ne (by omega), hf k i (by omega), ne5 k i (by omega), k3 k i (by omega), n4 k i (by omega)]
      have u3 : ∀ kk, up (up M6 0 3 kk) 0 6 0 0 3 = kk := fun kk => (up_ne (by omega)).trans up_eq
      have u4 : ∀ kk, up (up M6 0 3 kk) 0 6 0 0 4 = P j := fun kk => ((up_ne (by omega)).trans (up_ne (by omega))).trans g4
      have u5 : ∀ kk, up (up M6 0 3 kk) 0 6 0 0 5 = E j := fun kk => ((up_ne (by omega)).trans (up_ne (by omega))).trans h5
      have u2 : ∀ kk, up (up M6 0 3 kk) 0 6 0 0 2 = M 0 2 := fun kk => ((up_ne (by omega)).trans (up_ne (by omega))).trans g2
      have u1 : ∀ kk i, up (up M6 0 3 kk) 0 6 0 1 i = M 1 i := fun kk i => ((up_ne (by omega)).trans (up_ne (by omega))).trans (g1 i)
      have fin : ∀ (kk z : Int) (Q : Int → Mem → Prop), kk ≠ 3 → Q 0 (up (up M6 0 3 kk) 0 6 0) → PM (d + 7) n_next_249 [M 1 (P j), y, z, M6 0 4] (up (up M6 0 3 kk) 0 6 0) Q := fun kk z Q n3 hq => st_next_249 ⟨fun _ => hq, fun _ => ⟨fun _ => hq, fun q => absurd (by rw [u3]; exact n3) q⟩⟩
      have rk1 : ∀ k, K j = 0 → k = 1 → k = rkd (K j) := fun k a b => by rw [a, b]; rfl
      rcases hrow with ⟨dg, hr⟩ | ⟨ndg, hr⟩
      · have nL : ¬ ltr (M 1 (P j)) := fun q => excl q dg
        rcases hr with ⟨l9, had, hk, hv⟩ | ⟨hn, hk⟩
        · have y0 : y = 0 := by
            rcases hy with ⟨a, _⟩ | ⟨_, i, a, b, c'⟩
            · exact a
            · exact absurd (had i a b) c'
          have mm : up (up M6 0 3 3) 0 6 0 1 = M 1 := funext (u1 3)
          obtain ⟨M', r1, r2, r3⟩ := num_ref (d := d + 5) (x1 := M 1 (P j)) (x2 := y) (x3 := 0) (E := E j) (p := P j) (E j - P j).toNat (up (up M6 0 3 3) 0 6 0) (P j) (by omega) (u3 3) (u5 3) p0 (by omega) (by rw [u2]; omega) (by rw [u2]; omega) l9 (by rw [mm]; exact had) (by rw [up_eq, show (P j - P j).toNat = 0 from by omega]; rfl)
          rw [mm] at r2
          refine ⟨M', fun Q hq => mid 3 0 Q (Or.inr ⟨nL, rfl, Or.inr (Or.inl ⟨y0, l9, rfl⟩)⟩) (by rw [g4]; exact r1 Q hq), fun k i q => (r3 k i (by omega)).trans (lx 3 k i q), ?_, ?_, ?_, fun _ => by rw [r2, hv]⟩
          · rw [r3 _ _ (by omega), u3, hk]; rfl
          · rw [r3 _ _ (by omega), u4]
          · rw [r3 _ _ (by omega), u5]
        · refine ⟨up (up M6 0 3 1) 0 6 0, fun Q hq => mid 1 0 Q (Or.inr ⟨nL, rfl, ?_⟩) (fin 1 0 Q (by decide) hq), lx 1, rk1 _ hk (u3 1), u4 1, u5 1, fun z => by omega⟩
          rcases hy with ⟨a, b⟩ | ⟨a, _⟩
          · refine Or.inr (Or.inr ⟨a, ?_, rfl⟩)
            by_cases e : E j - P j ≤ 9
            · exact absurd ⟨e, b⟩ hn
            · omega
          · exact Or.inl ⟨by omega, rfl⟩
      · have L : ltr (M 1 (P j)) := by
          rcases ld with l | l
          · exact l
          · exact absurd l ndg
        rcases hr with ⟨l10, hk, hv⟩ | ⟨l10, hk⟩
        · have kr := kow_rng (W j)
          refine ⟨up (up M6 0 3 2) 0 6 0, fun Q hq => mid 2 1 Q (Or.inl ⟨L, rfl, Or.inl ⟨l10, rfl⟩⟩) (fin 2 1 Q (by decide) hq), lx 2, ?_, u4 2, u5 2, fun z => by omega⟩
          rw [u3]
          unfold rkd
          rw [if_neg (by omega), if_neg (by omega), if_neg (by omega), if_pos (by omega)]
        · exact ⟨up (up M6 0 3 1) 0 6 0, fun Q hq => mid 1 1 Q (Or.inl ⟨L, rfl, Or.inr ⟨l10, rfl⟩⟩) (fin 1 1 Q (by decide) hq), lx 1, rk1 _ hk (u3 1), u4 1, u5 1, fun z => by omega⟩

