/-! ===== the constructors: the reference's arrays, one step ===== -/
def MI (A D : List Int) (c0 : Int → Int) (N0 : Mem) (m : Int) (c : Int → Int) (S : Sh) (V : Mem) : Prop := Cn c S ∧ 0 ≤ S.2.2 ∧ c 80 = m ∧ Wv c S V 80 (-1) = 13 ∧ (∀ k ∈ A, Wv c S V (128 * k + 81) (-1) = mt k ∧ Wv c S V (128 * k + 81) (-2) = ml k ∧ ∀ j, j ≠ -1 → j ≠ -2 → Wv c S V (128 * k + 81) j = 0) ∧ (∀ k ∈ D, k ∈ A ∧ Wv c S V 80 k = c (128 * k + 81)) ∧ (∀ k, k ≠ -1 → k ≠ -2 → ¬ k ∈ D → Wv c S V 80 k = 0) ∧ (∀ L, L % 128 ≠ 81 → c L = c0 L) ∧ (∀ L j, L ≠ 80 → L % 128 ≠ 81 → Wv c S V L j = N0 L j)
section MIN
variable {A D : List Int} {c0 : Int → Int} {N0 : Mem} {m : Int} {c : Int → Int} {S : Sh} {V : Mem}
theorem MI.tg (h : MI A D c0 N0 m c S V) : S.1 m = 13 := by
  have q := h.2.2.2.1
  rw [Wv_tag, h.2.2.1] at q
  exact q
theorem MI.alo {k : Int} (h : MI A D c0 N0 m c S V) (hk : ¬ k ∈ A) : ∃ c1, MI (k :: A) D c0 N0 m c1 (nw S (mt k) (ml k)) (clr V (S.2.2 + 1)) ∧ c1 (128 * k + 81) = S.2.2 + 1 := by
  obtain ⟨a1, a2, a3, a4, a5, a6, a7, a8, a9⟩ := h
  obtain ⟨c1, hc1, h1, hW1, e1, f1⟩ := al (L := 128 * k + 81) (t := mt k) (n := ml k) a1 a2 (rfl : Wv c S V = Wv c S V)
  refine ⟨c1, ⟨hc1, h1, (f1 80 (by omega)).trans a3, ?_, fun i hi => ?_, fun i hi => ?_, fun i h1 h2 h3 => ?_, fun L q => (f1 L (by omega)).trans (a8 L q), fun L j q1 q2 => ?_⟩, e1⟩
  · rw [hW1, nwl_ne (by omega)]; exact a4
  · rw [hW1]
    rcases List.mem_cons.1 hi with rfl | hi
    · refine ⟨nwl_tag, nwl_len, fun j j1 j2 => ?_⟩
      unfold nwl
      rw [if_pos rfl, if_neg j1, if_neg j2]
    · have ne : 128 * i + 81 ≠ 128 * k + 81 := fun y => hk (by rw [show k = i from by omega]; exact hi)
      obtain ⟨b1, b2, b3⟩ := a5 i hi
      exact ⟨by rw [nwl_ne ne]; exact b1, by rw [nwl_ne ne]; exact b2, fun j j1 j2 => by rw [nwl_ne ne]; exact b3 j j1 j2⟩
  · obtain ⟨b1, b2⟩ := a6 i hi
    have ne : 128 * i + 81 ≠ 128 * k + 81 := fun y => hk (by rw [show k = i from by omega]; exact b1)
    refine ⟨List.mem_cons_of_mem _ b1, ?_⟩
    rw [hW1, nwl_ne (by omega), f1 _ ne]; exact b2
  · rw [hW1, nwl_ne (by omega)]; exact a7 i h1 h2 h3
  · rw [hW1, nwl_ne (by omega)]; exact a9 L j q1 q2
theorem MI.put {k r : Int} (h : MI A D c0 N0 m c S V) (hk : k ∈ A) (k0 : 0 ≤ k) (hr : c (128 * k + 81) = r) : MI A (k :: D) c0 N0 m c S (up V m k r) := by
  obtain ⟨a1, a2, a3, a4, a5, a6, a7, a8, a9⟩ := h
  have e : Wv c S (up V m k r) = up (Wv c S V) 80 k r := by rw [← a3, Wv_up a1 k0]
  refine ⟨a1, a2, a3, ?_, fun i hi => ?_, fun i hi => ?_, fun i h1 h2 h3 => ?_, a8, fun L j q1 q2 => ?_⟩
  · rw [e, up_ne (by omega)]; exact a4
  · rw [e]
    obtain ⟨b1, b2, b3⟩ := a5 i hi
    exact ⟨by rw [up_ne (by omega)]; exact b1, by rw [up_ne (by omega)]; exact b2, fun j j1 j2 => by rw [up_ne (by omega)]; exact b3 j j1 j2⟩
  · rw [e]
    by_cases y : i = k
    · subst y
      exact ⟨hk, by rw [up_eq]; exact hr.symm⟩
    · rcases List.mem_cons.1 hi with y' | hi
      · exact absurd y' y
      · obtain ⟨b1, b2⟩ := a6 i hi
        exact ⟨b1, by rw [up_ne (by omega)]; exact b2⟩
  · rw [e, up_ne (by have : i ≠ k := fun y => h3 (by rw [y]; exact List.mem_cons_self ..); omega)]
    exact a7 i h1 h2 (fun y => h3 (List.mem_cons_of_mem _ y))
  · rw [e, up_ne (by omega)]; exact a9 L j q1 q2
end MIN
