/-! ===== book: a constant: the reference's bodies cleared ===== -/
theorem con93 {e : Nat} {q nm : Int} (q0 : 0 ≤ q) (q1 : q < 2880) : ∀ (r : Nat) (i : Int) (M : Mem), 4 - i = r → 0 ≤ i → ∃ M', (∀ Qr : Int → Mem → Prop, PM (e + 1) n_readConstant_93 [q, nm, 4] M' Qr → PM (e + 1) n_readConstant_93 [q, nm, i] M Qr) ∧ (∀ k j, ¬ (k = 22 ∧ 4 * q + i ≤ j ∧ j < 4 * q + 4) → M' k j = M k j) ∧ (∀ j, 4 * q + i ≤ j → j < 4 * q + 4 → M' 22 j = -1) := by
  intro r
  induction r with
  | zero =>
    intro i M hr i0
    have : i = 4 := by omega
    subst this
    exact ⟨M, fun Qr h => h, fun _ _ _ => rfl, fun j a c => by omega⟩
  | succ r ih =>
    intro i M hr i0
    obtain ⟨M', h1, h2, h3⟩ := ih (i + 1) (up M 22 (4 * q + i) (-1)) (by omega) (by omega)
    refine ⟨M', fun Qr h => st_readConstant_93 ⟨fun y => absurd y (by omega), fun _ => ⟨by omega, by omega, by omega, by omega, by omega, by omega, by omega, by omega, h1 Qr h⟩⟩, fun k j z => (h2 k j (by omega)).trans (up_ne (by omega)), fun j a c => ?_⟩
    by_cases y : j = 4 * q + i
    · rw [h2 22 j (by omega), y, up_eq]
    · exact h3 j (by omega) c
/-- so many of four bodies that are set -/
def cn4 (f : Int → Int) : Int := (if f 0 = -1 then 0 else 1) + (if f 1 = -1 then 0 else 1) + (if f 2 = -1 then 0 else 1) + (if f 3 = -1 then 0 else 1)
theorem cn4_le (f : Int → Int) : 0 ≤ cn4 f ∧ cn4 f ≤ 4 := by
  unfold cn4
  constructor <;> (repeat' split) <;> omega
theorem cn4_add {f f' : Int → Int} {a : Int} (a0 : 0 ≤ a) (a1 : a < 4) (h : f a = -1) (h' : 0 ≤ f' a) (ne : ∀ a', 0 ≤ a' → a' ≠ a → f' a' = f a') : cn4 f' = cn4 f + 1 := by
  have ha : f' a ≠ -1 := by omega
  unfold cn4
  have hh : a = 0 ∨ a = 1 ∨ a = 2 ∨ a = 3 := by omega
  rcases hh with rfl | rfl | rfl | rfl
  · rw [ne 1 (by decide) (by decide), ne 2 (by decide) (by decide), ne 3 (by decide) (by decide), if_neg ha, if_pos h]; omega
  · rw [ne 0 (by decide) (by decide), ne 2 (by decide) (by decide), ne 3 (by decide) (by decide), if_neg ha, if_pos h]; omega
  · rw [ne 0 (by decide) (by decide), ne 1 (by decide) (by decide), ne 3 (by decide) (by decide), if_neg ha, if_pos h]; omega
  · rw [ne 0 (by decide) (by decide), ne 1 (by decide) (by decide), ne 2 (by decide) (by decide), if_neg ha, if_pos h]; omega
