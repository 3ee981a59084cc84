/-! ===== book: a table told ===== -/
section TBF
variable {c c' : Int → Int} {N N' M M' gm gm' : Mem} {ow ow' eo eo' cs K P W E : Int → Int} {nt b B j ln e nc nu nk nh ns cb j' ln' : Int}
set_option maxHeartbeats 1000000 in
theorem tb_fin (h : RDI c N M gm ow eo cs K P W E nt b B 0 j ln e nc nu nk nh ns cb 0) (nu4 : nu < 4) (fc : ∀ L, L ≠ 128 * (4 * (12 * b + e) + nu) + 9 → L ≠ 128 * (4 * (12 * b + e) + nu) + 10 → L ≠ 128 * (4 * (12 * b + e) + nu) + 11 → c' L = c L) (n : ∀ L k, ¬ (L = 50 ∧ 5 ≤ k ∧ k ≤ 11) → ¬ (L = 120 ∧ k = 2) → ¬ ((L = 121 ∨ L = 122) ∧ ln ≤ k) → L ≠ 128 * (4 * (12 * b + e) + nu) + 9 → L ≠ 128 * (4 * (12 * b + e) + nu) + 10 → L ≠ 128 * (4 * (12 * b + e) + nu) + 11 → ¬ (L = 128 * (12 * b + e) + 3 ∧ k = 8) → ¬ (L = 128 * (12 * b + e) + 8 ∧ k = nu) → N' L k = N L k) (n8 : N' (128 * (12 * b + e) + 3) 8 = nu + 1) (na : N' (128 * (12 * b + e) + 8) nu = c' (128 * (4 * (12 * b + e) + nu) + 9)) (m : ∀ k i, ¬ (k = 0 ∧ ((3 ≤ i ∧ i ≤ 6) ∨ i = 40 ∨ (42 ≤ i ∧ i ≤ 47) ∨ i = 51)) → ¬ (35 ≤ k ∧ k ≤ 39 ∧ M 0 40 ≤ i) → ¬ (48 ≤ k ∧ k ≤ 50 ∧ M 0 51 ≤ i) → ¬ (k = 15 ∧ i = 12 * b + e) → ¬ ((k = 23 ∨ k = 24) ∧ i = 4 * (12 * b + e) + nu) → ¬ (k = 25 ∧ 12 * (4 * (12 * b + e) + nu) ≤ i ∧ i < 12 * (4 * (12 * b + e) + nu) + 12) → M' k i = M k i) (m15 : M' 15 (12 * b + e) = nu + 1) (it : IT c' N' M' gm' ow' B (M' 0 40) ln' e (4 * (12 * b + e) + nu) nu) (ls : MLS c' N' M' K P W E nt b (12 * b + e) 0 B j' ln') (gg : ∀ k y, y < M 0 40 → gm' k y = gm k y) (oq : ∀ p, p < ln → ow' p = ow p) (eq : ∀ p, p < ln → eo' p = eo p) (a1 : M 0 40 ≤ M' 0 40) (a2 : ln ≤ ln') (wd : WLD N' M' gm' ow' eo' cs K P E nt b B (M' 0 40) ln' e (N (128 * (12 * b + e) + 3) 1) cb) : RDI c' N' M' gm' ow' eo' cs K P W E nt b B 0 j' ln' e nc (nu + 1) nk nh ns cb 0 ∧ fCn b e ln c N c' N' ∧ fCm b e (M 0 40) (M 0 51) M M' := by
  obtain ⟨e0, e1, b0, b1, B0, B1⟩ := h.bd
  have hE := h.he
  have hr := h.ls.r
  have l0 := h.ls.l0
  have nc1 := hE.nc1
  have nw1 := hE.nw1
  obtain ⟨q14, q15, q16, q17, q18⟩ := h.ct
  have nu0 : 0 ≤ nu := by have := hE.nt0; omega
  have tc : ∀ k, k = 9 ∨ k = 10 ∨ k = 11 → cuN b e (128 * (4 * (12 * b + e) + nu) + k) := fun k q => Or.inr (Or.inr (Or.inl ⟨by omega, by omega, by omega⟩))
  have fn : fCn b e ln c N c' N' := ⟨fun L q => fc L (fun y => q (by rw [y]; exact tc 9 (by omega))) (fun y => q (by rw [y]; exact tc 10 (by omega))) (fun y => q (by rw [y]; exact tc 11 (by omega))), fun L k q1 q2 q3 q4 q5 q6 => n L k q2 q5 q6 (fun y => q1 (by rw [y]; exact tc 9 (by omega))) (fun y => q1 (by rw [y]; exact tc 10 (by omega))) (fun y => q1 (by rw [y]; exact tc 11 (by omega))) (fun y => q1 (by rw [y.1]; exact cu3 (by omega))) (fun y => q1 (by rw [y.1]; exact cu3 (by omega))), fc _ (by omega) (by omega) (by omega), n _ _ (by omega) (by omega) (by omega) (by omega) (by omega) (by omega) (by omega) (by omega), n _ _ (by omega) (by omega) (by omega) (by omega) (by omega) (by omega) (by omega) (by omega)⟩
  have fm : fCm b e (M 0 40) (M 0 51) M M' := fun k i q => m k i (fun y => q (Or.inl y)) (fun y => q (Or.inr (Or.inr (Or.inr (Or.inr (Or.inr (Or.inr (Or.inr (Or.inr (Or.inr (Or.inr (Or.inl y)))))))))))) (fun y => q (Or.inr (Or.inr (Or.inr (Or.inr (Or.inr (Or.inr (Or.inr (Or.inr (Or.inr (Or.inr (Or.inr y)))))))))))) (fun y => q (by rw [y.1, y.2]; exact cum1 (by decide) (by decide))) (fun y => q (by rw [y.2]; exact cum4 (by omega) nu0 nu4)) (fun y => q (by rw [y.1]; exact Or.inr (Or.inr (Or.inr (Or.inr (Or.inr (Or.inr (Or.inr (Or.inl ⟨rfl, by omega, by omega⟩)))))))))
  have GA : GRW (M 0 40) ln (M 0 51) N M gm ow N' M' gm' ow' := fC_grw gg oq fn fm
  have nq : ∀ L k, L % 128 < 30 → L ≠ 128 * (4 * (12 * b + e) + nu) + 9 → L ≠ 128 * (4 * (12 * b + e) + nu) + 10 → L ≠ 128 * (4 * (12 * b + e) + nu) + 11 → ¬ (L = 128 * (12 * b + e) + 3 ∧ k = 8) → ¬ (L = 128 * (12 * b + e) + 8 ∧ k = nu) → N' L k = N L k := fun L k q0 q1 q2 q3 q4 q5 => n L k (by omega) (by omega) (by omega) q1 q2 q3 q4 q5
  have mq : ∀ k i, k ≠ 0 → ¬ (35 ≤ k ∧ k ≤ 39) → ¬ (48 ≤ k ∧ k ≤ 50) → ¬ (k = 15 ∧ i = 12 * b + e) → ¬ ((k = 23 ∨ k = 24) ∧ i = 4 * (12 * b + e) + nu) → ¬ (k = 25 ∧ 12 * (4 * (12 * b + e) + nu) ≤ i ∧ i < 12 * (4 * (12 * b + e) + nu) + 12) → M' k i = M k i := fun k i q0 q1 q2 q3 q4 q5 => m k i (by omega) (by omega) (by omega) q3 q4 q5
  have ei : EI c' N' M' gm' ow' K P W E nt b B (M' 0 40) ln' e nc nu nk nh ns := h.ei.fr GA hr a1 a2 (fun L k q => ⟨fc L (itn_nq q).2.2.1 (itn_nq q).2.2.2.1 (itn_nq q).2.2.2.2.1, nq L k (itn_ne q).1 (itn_nq q).2.2.1 (itn_nq q).2.2.2.1 (itn_nq q).2.2.2.2.1 (fun y => (itn_ne q).2.1 y.1) (fun y => (itn_ne q).2.2.2.1 y.1)⟩) (fun k i q => mq k i (itm_ne q).1 (itm_ne q).2.1 (itm_ne q).2.2.1 (fun y => (itm_ne q).2.2.2.1 (by omega)) (fun y => (itm_ne q).2.2.2.2.2.2.2.2.1 ⟨y.1, by omega⟩) (fun y => (itm_ne q).2.2.2.2.2.2.2.2.2.1 ⟨y.1, by omega⟩))
  have mc : ∀ k, 13 ≤ k → k ≤ 18 → k ≠ 15 → M' k (12 * b + e) = M k (12 * b + e) := fun k k1 k2 k3 => mq _ _ (by omega) (by omega) (by omega) (by omega) (by omega) (by omega)
  refine ⟨h.nx fn fm GA a1 a2 eq ls (h.hb.cu e0 b0 fn fm (fun k _ => n _ _ (by omega) (by omega) (by omega) (by omega) (by omega) (by omega) (by omega) (by omega)) (nq _ _ (by omega) (by omega) (by omega) (by omega) (by omega) (by omega)) (mq _ _ (by omega) (by omega) (by omega) (by omega) (by omega) (by omega)) (fun i _ _ => mq _ _ (by omega) (by omega) (by omega) (by omega) (by omega) (by omega))) ?_ ⟨(mc 14 (by decide) (by decide) (by decide)).trans q14, m15, (mc 16 (by decide) (by decide) (by decide)).trans q16, (mc 17 (by decide) (by decide) (by decide)).trans q17, (mc 18 (by decide) (by decide) (by decide)).trans q18⟩ ⟨ei.1, fun i i0 i1 => ?_, ei.2.2⟩ wd, fn, fm⟩
  · refine hE.gen (fun L q => fc L (by unfold hdL at q; omega) (by unfold hdL at q; omega) (by unfold hdL at q; omega)) (fun L k q1 q2 q3 => nq L k (by unfold hdL at q1; omega) (by unfold hdL at q1; omega) (by unfold hdL at q1; omega) (by unfold hdL at q1; omega) (by omega) (by omega)) (mc 13 (by decide) (by decide) (by decide)) (fun i => mq _ _ (by omega) (by omega) (by omega) (by omega) (by omega) (by omega)) ?_ ?_ ?_ ?_ ?_ ?_ ?_ ?_
    · rw [nq _ _ (by omega) (by omega) (by omega) (by omega) (by omega) (by omega), mc 14 (by decide) (by decide) (by decide)]; exact ⟨hE.nc, hE.nc0, hE.nc1⟩
    · rw [n8, m15]; exact ⟨rfl, by omega, by omega⟩
    · rw [nq _ _ (by omega) (by omega) (by omega) (by omega) (by omega) (by omega), mc 16 (by decide) (by decide) (by decide)]; exact ⟨hE.nk, hE.nk0, hE.nk1⟩
    · rw [nq _ _ (by omega) (by omega) (by omega) (by omega) (by omega) (by omega), mc 17 (by decide) (by decide) (by decide)]; exact ⟨hE.nh, hE.nh0, hE.nh1⟩
    · rw [nq _ _ (by omega) (by omega) (by omega) (by omega) (by omega) (by omega), mc 18 (by decide) (by decide) (by decide)]; exact ⟨hE.nw, hE.nw0, hE.nw1⟩
    · intro i i0 i1
      rw [mc 14 (by decide) (by decide) (by decide)] at i1
      rw [nq _ _ (by omega) (by omega) (by omega) (by omega) (by omega) (by omega), nq _ _ (by omega) (by omega) (by omega) (by omega) (by omega) (by omega), fc _ (by omega) (by omega) (by omega)]; exact hE.ci i i0 i1
    · intro i i0 i1
      rw [m15] at i1
      by_cases y : i = nu
      · subst y
        exact ⟨na, it.1.1⟩
      · rw [nq _ _ (by omega) (by omega) (by omega) (by omega) (by omega) (by omega), nq _ _ (by omega) (by omega) (by omega) (by omega) (by omega) (by omega), fc _ (by omega) (by omega) (by omega)]; exact hE.ti i i0 (by omega)
    · intro i i0 i1
      rw [mc 18 (by decide) (by decide) (by decide)] at i1
      rw [nq _ _ (by omega) (by omega) (by omega) (by omega) (by omega) (by omega), nq _ _ (by omega) (by omega) (by omega) (by omega) (by omega) (by omega), fc _ (by omega) (by omega) (by omega)]; exact hE.si i i0 i1
  · by_cases y : i = nu
    · subst y; exact it
    · exact ei.2.1 i i0 (by omega)
end TBF
