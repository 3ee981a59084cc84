/-! ===== the law out of its calls ===== -/
theorem Rel.vc {c c' : Int → Int} {N N' M : Mem} (h : Rel c N M) (fc : ∀ L, ¬ (L = 80 ∨ L % 128 = 81) → c' L = c L) (f : ∀ L j, ¬ (L = 80 ∨ L % 128 = 81) → N' L j = N L j) : Rel c' N' M := by
  refine ⟨?_, ?_, ?_, fun s s0 s1 => ?_, fun s s0 s1 => ?_, fun s s0 s1 => ?_, fun s s0 s1 => ?_, fun s s0 s1 => ?_⟩
  · apply Rtop.fr h.top <;> intros <;> first | rfl | exact fc _ (by omega) | exact f _ _ (by omega)
  · apply Rwk.fr h.wk <;> intros <;> first | rfl | exact fc _ (by omega) | exact f _ _ (by omega)
  · apply Rrd.fr h.rd <;> intros <;> first | rfl | exact fc _ (by omega) | exact f _ _ (by omega)
  · apply Rst.fr (h.st s0 s1) <;> intros <;> first | rfl | exact fc _ (by omega) | exact f _ _ (by omega)
  · apply Rmp.fr (h.mp s0 s1) <;> intros <;> first | rfl | exact fc _ (by omega) | exact f _ _ (by omega)
  · apply Rdr.fr (h.dr s0 s1) <;> intros <;> first | rfl | exact fc _ (by omega) | exact f _ _ (by omega)
  · apply Rms.fr (h.ms s0 s1) <;> intros <;> first | rfl | exact fc _ (by omega) | exact f _ _ (by omega)
  · exact (h.bk s0 s1).fr s0 (fun L j q => f L j (by omega)) (fun L q => fc L (by omega)) (fun _ _ _ => rfl) rfl
def mks : List Int := [82, 80, 79, 78, 77, 75, 74, 73, 71, 70, 67, 66, 63, 62, 61, 60, 59, 58, 57, 56, 55, 54, 53, 52, 50, 49, 48, 39, 38, 37, 36, 35, 34, 33, 32, 31, 30, 29, 28, 27, 26, 25, 24, 23, 22, 21, 20, 19, 18, 17, 16, 15, 14, 13, 12, 11, 10, 7, 1]
theorem mks_a : ∀ k ∈ mks, mt k ≠ 0 ∧ 0 ≤ k := by decide
theorem mks_b : ∀ k : Nat, k < 84 → mt k ≠ 0 → (k : Int) ∈ mks := by decide
theorem mks_c {k : Int} (h : mt k ≠ 0) : k ∈ mks := by
  have k0 : 0 ≤ k := by
    by_cases y : 0 ≤ k
    · exact y
    · exact absurd (by unfold mt; rw [if_neg y]) h
  have k1 : k.toNat < 84 := by
    by_cases y : k.toNat < 84
    · exact y
    · have ll : mtL.length ≤ k.toNat := by
        have : mtL.length ≤ 84 := by decide
        omega
      exact absurd (by unfold mt; rw [if_pos k0]; simp [List.getD, List.getElem?_eq_none ll]) h
  have := mks_b k.toNat k1 (by rw [show ((k.toNat : Nat) : Int) = k from by omega]; exact h)
  rw [show ((k.toNat : Nat) : Int) = k from by omega] at this
  exact this
theorem MI.mr {c0 : Int → Int} {N0 : Mem} {m : Int} {c : Int → Int} {S : Sh} {V : Mem} (h : MI mks mks c0 N0 m c S V) : MR m (fun k => c (128 * k + 81)) S V (fun _ _ => 0) := by
  have tg := h.tg
  obtain ⟨a1, a2, a3, a4, a5, a6, a7, a8, a9⟩ := h
  have el : ∀ L j, ∃ j', j' ≠ -1 ∧ j' ≠ -2 ∧ (0 ≤ j' → j' = j) ∧ Wv c S V L j' = V (c L) j := fun L j => by
    by_cases y : 0 ≤ j
    · exact ⟨j, by omega, by omega, fun _ => rfl, Wv_el y⟩
    · exact ⟨j - 2, by omega, by omega, fun q => by omega, Wv_neg (by omega)⟩
  refine ⟨tg, fun k hk => ?_, fun k hk => ?_, fun k k' _ _ e => ?_⟩
  · obtain ⟨j, j1, j2, j3, j4⟩ := el 80 k
    rw [a3] at j4
    rw [← j4]
    exact a7 j j1 j2 (fun q => by
      have := mks_a j q
      rw [j3 this.2] at this
      exact this.1 hk)
  · have hm := mks_c hk
    have k0 := (mks_a k hm).2
    obtain ⟨b1, b2, b3⟩ := a5 k hm
    refine ⟨?_, ?_, ?_, fun j => ?_⟩
    · rw [← a3, ← Wv_el (c := c) (S := S) (V := V) k0]; exact (a6 k hm).2
    · rw [Wv_tag] at b1; exact b1
    · rw [Wv_len] at b2; exact b2
    · obtain ⟨j', j1, j2, j3, j4⟩ := el (128 * k + 81) j
      show V (c (128 * k + 81)) j = 0
      rw [← j4]; exact b3 j' j1 j2
  · have := a1.1 _ _ e
    omega
