/-! ===== book: regions, once and for all ===== -/
section RGN
variable {b e X R g nc nu nk nh ns L k i : Int}
theorem cum4 (hk : k = 19 ∨ k = 23 ∨ k = 24 ∨ k = 27 ∨ k = 28) (i0 : 0 ≤ i) (i1 : i < 4) : cuM b e X R k (4 * (12 * b + e) + i) := Or.inr (Or.inr (Or.inr (Or.inr (Or.inl ⟨hk, by omega, by omega⟩))))
theorem cum1 (h : 14 ≤ k) (h2 : k ≤ 18) : cuM b e X R k (12 * b + e) := Or.inr (Or.inr (Or.inr (Or.inl ⟨h, h2, rfl⟩)))
theorem cum3 (hk : k = 26 ∨ k = 29 ∨ k = 30 ∨ k = 34) (i0 : 0 ≤ i) (i1 : i < 3) : cuM b e X R k (3 * (12 * b + e) + i) := Or.inr (Or.inr (Or.inr (Or.inr (Or.inr (Or.inr (Or.inr (Or.inr (Or.inl ⟨hk, by omega, by omega⟩))))))))
theorem itn_ne (q : itN g nc nu nk nh ns L k) : L % 128 < 30 ∧ L ≠ 128 * g + 3 ∧ L ≠ 128 * g + 4 ∧ L ≠ 128 * g + 8 ∧ L ≠ 128 * g + 16 ∧ L ≠ 128 * g + 15 ∧ 3 ≤ L % 128 ∧ ¬ ((L = 128 * g + 13 ∨ L = 128 * g + 14) ∧ nh ≤ k) ∧ ¬ (L = 128 * g + 12 ∧ nk ≤ k) := by
  rcases q with q | q | q | q | q | q
  · exact ⟨by omega, by omega, by omega, by omega, by omega, by omega, by omega, by omega, by omega⟩
  · exact ⟨by omega, by omega, by omega, by omega, by omega, by omega, by omega, by omega, by omega⟩
  · exact ⟨by omega, by omega, by omega, by omega, by omega, by omega, by omega, by omega, by omega⟩
  · exact ⟨by omega, by omega, by omega, by omega, by omega, by omega, by omega, by omega, by omega⟩
  · exact ⟨by omega, by omega, by omega, by omega, by omega, by omega, by omega, by omega, by omega⟩
  · exact ⟨by omega, by omega, by omega, by omega, by omega, by omega, by omega, by omega, by omega⟩
theorem itn_nq (q : itN g nc nu nk nh ns L k) : L ≠ 128 * (24 * g + nc) + 5 ∧ L ≠ 128 * (24 * g + nc) + 6 ∧ L ≠ 128 * (4 * g + nu) + 9 ∧ L ≠ 128 * (4 * g + nu) + 10 ∧ L ≠ 128 * (4 * g + nu) + 11 ∧ L ≠ 128 * (3 * g + ns) + 17 ∧ L ≠ 128 * (3 * g + ns) + 18 ∧ L ≠ 128 * (3 * g + ns) + 19 := by
  rcases q with q | q | q | q | q | q
  · exact ⟨by omega, by omega, by omega, by omega, by omega, by omega, by omega, by omega⟩
  · exact ⟨by omega, by omega, by omega, by omega, by omega, by omega, by omega, by omega⟩
  · exact ⟨by omega, by omega, by omega, by omega, by omega, by omega, by omega, by omega⟩
  · exact ⟨by omega, by omega, by omega, by omega, by omega, by omega, by omega, by omega⟩
  · exact ⟨by omega, by omega, by omega, by omega, by omega, by omega, by omega, by omega⟩
  · exact ⟨by omega, by omega, by omega, by omega, by omega, by omega, by omega, by omega⟩
theorem itm_ne (q : itM g nc nu nk nh ns k i) : k ≠ 0 ∧ ¬ (35 ≤ k ∧ k ≤ 39) ∧ ¬ (48 ≤ k ∧ k ≤ 50) ∧ ¬ (11 ≤ k ∧ k ≤ 18) ∧ ¬ ((k = 27 ∨ k = 28) ∧ 4 * g + nh ≤ i) ∧ ¬ (k = 26 ∧ 3 * g + nk ≤ i) ∧ ¬ (k = 22 ∧ 4 * (24 * g + nc) ≤ i) ∧ ¬ ((k = 20 ∨ k = 21) ∧ 24 * g + nc ≤ i) ∧ ¬ ((k = 23 ∨ k = 24) ∧ 4 * g + nu ≤ i) ∧ ¬ (k = 25 ∧ 12 * (4 * g + nu) ≤ i) ∧ ¬ ((k = 29 ∨ k = 30 ∨ k = 34) ∧ 3 * g + ns ≤ i) ∧ ¬ ((k = 31 ∨ k = 33) ∧ 12 * (3 * g + ns) ≤ i) ∧ k ≠ 32 := by
  rcases q with q | q | q | q | q | q | q | q | q | q
  all_goals exact ⟨by omega, by omega, by omega, by omega, by omega, by omega, by omega, by omega, by omega, by omega, by omega, by omega, by omega⟩
end RGN
