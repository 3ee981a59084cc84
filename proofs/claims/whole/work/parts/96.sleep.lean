/-! ===== book: asleep, the other calls ===== -/
section SLP
variable {e : Nat} {b : Int}
theorem slp_2 (b0 : 0 ≤ b) (b1 : b < 10) : ∀ (r : Nat) (i : Int) (M : Mem), 160 - i = r → 0 ≤ i → ∃ M', (∀ Qr : Int → Mem → Prop, PM (e + 1) n_asleep_33 [b, 12 * b] M' Qr → PM (e + 1) n_asleep_2 [b, i] M Qr) ∧ (∀ k j, ¬ (k = 52 ∧ 160 * b + i ≤ j ∧ j < 160 * b + 160) → M' k j = M k j) ∧ (∀ j, 160 * b + i ≤ j → j < 160 * b + 160 → M' 52 j = 0) := by
  intro r
  induction r with
  | zero =>
    intro i M hr i0
    exact ⟨M, fun Qr q => st_asleep_2 ⟨fun _ => ⟨by omega, by omega, q⟩, fun y => absurd (by omega) y⟩, fun _ _ _ => rfl, fun j a c => by omega⟩
  | succ r ih =>
    intro i M hr i0
    obtain ⟨M', h1, h2, h3⟩ := ih (i + 1) (up M 52 (160 * b + i) 0) (by omega) (by omega)
    refine ⟨M', fun Qr q => st_asleep_2 ⟨fun y => absurd y (by omega), fun _ => ⟨by omega, by omega, by omega, by omega, by omega, by omega, by omega, by omega, h1 Qr q⟩⟩, fun k j q => (h2 k j (by omega)).trans (up_ne (by omega)), fun j a c => ?_⟩
    by_cases y : j = 160 * b + i
    · rw [h2 52 j (by omega), y, up_eq]
    · exact h3 j (by omega) c
theorem slp_53 {x2 : Int} (x0 : 0 ≤ x2) (x1 : x2 < 120) : ∀ (r : Nat) (i : Int) (M : Mem), 4 - i = r → 0 ≤ i → ∃ M', (∀ Qr : Int → Mem → Prop, PM (e + 1) n_asleep_33 [b, x2 + 1] M' Qr → PM (e + 1) n_asleep_53 [b, x2, i] M Qr) ∧ (∀ k j, ¬ (k = 55 ∧ 4 * x2 + i ≤ j ∧ j < 4 * x2 + 4) → M' k j = M k j) ∧ (∀ j, 4 * x2 + i ≤ j → j < 4 * x2 + 4 → M' 55 j = 0) := by
  intro r
  induction r with
  | zero =>
    intro i M hr i0
    exact ⟨M, fun Qr q => st_asleep_53 ⟨fun _ => ⟨by omega, by omega, q⟩, fun y => absurd (by omega) y⟩, fun _ _ _ => rfl, fun j a c => by omega⟩
  | succ r ih =>
    intro i M hr i0
    obtain ⟨M', h1, h2, h3⟩ := ih (i + 1) (up M 55 (4 * x2 + i) 0) (by omega) (by omega)
    refine ⟨M', fun Qr q => st_asleep_53 ⟨fun y => absurd y (by omega), fun _ => ⟨by omega, by omega, by omega, by omega, by omega, by omega, by omega, by omega, h1 Qr q⟩⟩, fun k j q => (h2 k j (by omega)).trans (up_ne (by omega)), fun j a c => ?_⟩
    by_cases y : j = 4 * x2 + i
    · rw [h2 55 j (by omega), y, up_eq]
    · exact h3 j (by omega) c
theorem slp_33 (b0 : 0 ≤ b) (b1 : b < 10) : ∀ (r : Nat) (x : Int) (M : Mem), 12 * b + 12 - x = r → 12 * b ≤ x → ∃ M', (∀ Qr : Int → Mem → Prop, Qr 0 M' → PM (e + 1) n_asleep_33 [b, x] M Qr) ∧ (∀ k j, ¬ (k = 53 ∧ x ≤ j ∧ j < 12 * b + 12) → ¬ (k = 55 ∧ 4 * x ≤ j ∧ j < 48 * b + 48) → ¬ ((k = 59 ∨ k = 62) ∧ j = b) → M' k j = M k j) ∧ (∀ j, x ≤ j → j < 12 * b + 12 → M' 53 j = 0) ∧ (∀ j, 4 * x ≤ j → j < 48 * b + 48 → M' 55 j = 0) ∧ M' 59 b = 0 ∧ M' 62 b = 0 := by
  intro r
  induction r with
  | zero =>
    intro x M hr x0
    refine ⟨up (up M 59 b 0) 62 b 0, fun Qr q => st_asleep_33 ⟨by omega, by omega, by omega, by omega, fun _ => ⟨b0, b1, q⟩, fun y => absurd (by omega) y⟩, fun k j q1 q2 q3 => by rw [up_ne (by omega), up_ne (by omega)], fun j a c => by omega, fun j a c => by omega, by rw [up_ne (by omega), up_eq], up_eq⟩
  | succ r ih =>
    intro x M hr x0
    obtain ⟨M1, h1, h2, h3⟩ := slp_53 (e := e) (b := b) (x2 := x) (by omega) (by omega) 4 0 (up M 53 x 0) (by omega) (by decide)
    obtain ⟨M', g1, g2, g3, g4, g5, g6⟩ := ih (x + 1) M1 (by omega) (by omega)
    refine ⟨M', fun Qr q => st_asleep_33 ⟨by omega, by omega, by omega, by omega, fun y => absurd y (by omega), fun _ => ⟨by omega, by omega, h1 Qr (g1 Qr q)⟩⟩, fun k j q1 q2 q3 => ?_, fun j a c => ?_, fun j a c => ?_, g5, g6⟩
    · rw [g2 k j (by omega) (by omega) q3, h2 k j (by omega), up_ne (by omega)]
    · by_cases y : j = x
      · rw [g2 53 j (by omega) (by omega) (by omega), h2 53 j (by omega), y, up_eq]
      · exact g3 j (by omega) c
    · by_cases y : j < 4 * x + 4
      · rw [g2 55 j (by omega) (by omega) (by omega)]
        exact h3 j (by omega) y
      · exact g4 j (by omega) c
theorem rn_asleep {M : Mem} (b0 : 0 ≤ b) (b1 : b < 10) (he : 1 ≤ e) : ∃ M', RunM e n_asleep_0 [b] M 0 M' ∧ (∀ k j, ¬ (k = 52 ∧ 160 * b ≤ j ∧ j < 160 * b + 160) → ¬ (k = 53 ∧ 12 * b ≤ j ∧ j < 12 * b + 12) → ¬ (k = 55 ∧ 48 * b ≤ j ∧ j < 48 * b + 48) → ¬ ((k = 59 ∨ k = 62) ∧ j = b) → M' k j = M k j) ∧ (∀ j, 160 * b ≤ j → j < 160 * b + 160 → M' 52 j = 0) ∧ (∀ j, 12 * b ≤ j → j < 12 * b + 12 → M' 53 j = 0) ∧ (∀ j, 48 * b ≤ j → j < 48 * b + 48 → M' 55 j = 0) ∧ M' 59 b = 0 ∧ M' 62 b = 0 := by
  obtain ⟨e', rfl⟩ : ∃ e', e = e' + 1 := ⟨e - 1, by omega⟩
  obtain ⟨M1, h1, h2, h3⟩ := slp_2 (e := e') b0 b1 160 0 M (by omega) (by decide)
  obtain ⟨M', g1, g2, g3, g4, g5, g6⟩ := slp_33 (e := e') b0 b1 12 (12 * b) M1 (by omega) (by omega)
  refine ⟨M', fun Q hq => st_asleep_0 (h1 Q (g1 Q hq)), fun k j q1 q2 q3 q4 => ?_, fun j a c => ?_, g3, fun j a c => g4 j (by omega) c, g5, g6⟩
  · rw [g2 k j (by omega) (by omega) q4, h2 k j (by omega)]
  · rw [g2 52 j (by omega) (by omega) (by omega)]
    exact h3 j (by omega) c
end SLP
/-- all calls, out of book's -/
theorem all_calls (hb : CallOK CI bX11_book n_book_0 [] []) : AllCalls CI := ⟨call_feed, call_cut, hb, call_wrong, call_told, call_about, call_state, call_letter, call_body, call_use, call_argument, call_act, call_entry, call_holder, call_branch, call_out, call_cause, call_start, call_seen, call_set, call_add, call_take, call_join, call_member, call_map, call_put, call_get, call_encode, call_signal, call_decode⟩
