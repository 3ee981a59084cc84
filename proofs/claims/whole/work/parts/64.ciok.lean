/-! ===== the class's side stands while the reference works ===== -/
theorem Rel.vw {c : Int → Int} {N N' M : Mem} (h : Rel c N M) (f : ∀ L j, ¬ (L = 80 ∨ L % 128 = 81) → N' L j = N L j) : Rel c N' M := by
  refine ⟨?_, ?_, ?_, fun s s0 s1 => ?_, fun s s0 s1 => ?_, fun s s0 s1 => ?_, fun s s0 s1 => ?_, fun s s0 s1 => ?_⟩
  · apply Rtop.fr h.top <;> intros <;> first | rfl | exact f _ _ (by omega)
  · apply Rwk.fr h.wk <;> intros <;> first | rfl | exact f _ _ (by omega)
  · apply Rrd.fr h.rd <;> intros <;> first | rfl | exact f _ _ (by omega)
  · apply Rst.fr (h.st s0 s1) <;> intros <;> first | rfl | exact f _ _ (by omega)
  · apply Rmp.fr (h.mp s0 s1) <;> intros <;> first | rfl | exact f _ _ (by omega)
  · apply Rdr.fr (h.dr s0 s1) <;> intros <;> first | rfl | exact f _ _ (by omega)
  · apply Rms.fr (h.ms s0 s1) <;> intros <;> first | rfl | exact f _ _ (by omega)
  · exact (h.bk s0 s1).fr s0 (fun L j q => f L j (by omega)) (fun _ _ => rfl) (fun _ _ _ => rfl) rfl
theorem ci_ok : CIok CI := by
  refine ⟨fun x m a S V M h => ?_, fun x m a S V V' M h mf => ?_⟩
  · obtain ⟨c, hc, rfl, rfl, ha, R⟩ := h
    exact ⟨R.top.vg60, by rw [R.top.vtl]; exact R.top.tl0⟩
  · obtain ⟨c, hc, rfl, rfl, ha, R⟩ := h
    have q : ∀ L j, ¬ (L = 80 ∨ L % 128 = 81) → V' (c L) j = V (c L) j := fun L j n => mf (c L) (fun e => n (Or.inl (hc.1 _ _ e))) (fun k hk e => by
      rw [← ha k hk] at e
      have := hc.1 _ _ e
      omega) j
    have q' : ∀ L j, ¬ (L = 80 ∨ L % 128 = 81) → Wv c S V' L j = Wv c S V L j := fun L j n => by
      unfold Wv
      simp only [q L _ n]
    exact ⟨⟨c, hc, rfl, rfl, ha, R.vw q'⟩, q 60 1 (by omega)⟩
