/-! ===== book: a switch told ===== -/
section SWF
variable {c c' : Int → Int} {N N' M M' gm gm' : Mem} {ow ow' eo eo' cs cs' K P W E : Int → Int} {nt b B j ln e nc nu nk nh ns cb cb' j' ln' : Int}
set_option maxHeartbeats 1000000 in
theorem sw_fin (h : RDI c N M gm ow eo cs K P W E nt b B 0 j ln e nc nu nk nh ns cb 0) (ns3 : ns < 3) (fc : ∀ L, L ≠ 128 * (3 * (12 * b + e) + ns) + 17 → L ≠ 128 * (3 * (12 * b + e) + ns) + 18 → L ≠ 128 * (3 * (12 * b + e) + ns) + 19 → c' L = c L) (n : ∀ L k, ¬ (L = 50 ∧ 5 ≤ k ∧ k ≤ 11) → ¬ (L = 120 ∧ k = 2) → ¬ ((L = 121 ∨ L = 122) ∧ ln ≤ k) → L ≠ 128 * (3 * (12 * b + e) + ns) + 17 → L ≠ 128 * (3 * (12 * b + e) + ns) + 18 → L ≠ 128 * (3 * (12 * b + e) + ns) + 19 → ¬ (L = 128 * (12 * b + e) + 3 ∧ k = 16) → ¬ (L = 128 * (12 * b + e) + 16 ∧ k = ns) → N' L k = N L k) (n8 : N' (128 * (12 * b + e) + 3) 16 = ns + 1) (na : N' (128 * (12 * b + e) + 16) ns = c' (128 * (3 * (12 * b + e) + ns) + 17)) (m : ∀ k i, ¬ (k = 0 ∧ ((3 ≤ i ∧ i ≤ 6) ∨ i = 40 ∨ (42 ≤ i ∧ i ≤ 47) ∨ i = 51)) → ¬ (35 ≤ k ∧ k ≤ 39 ∧ M 0 40 ≤ i) → ¬ (48 ≤ k ∧ k ≤ 50 ∧ M 0 51 ≤ i) → ¬ (k = 18 ∧ i = 12 * b + e) → ¬ ((k = 29 ∨ k = 30 ∨ k = 34) ∧ i = 3 * (12 * b + e) + ns) → ¬ ((k = 31 ∨ k = 33) ∧ 12 * (3 * (12 * b + e) + ns) ≤ i ∧ i < 12 * (3 * (12 * b + e) + ns) + 12) → M' k i = M k i) (m18 : M' 18 (12 * b + e) = ns + 1) (is : IS c' N' M' gm' ow' K P W E nt b B (M' 0 40) ln' (3 * (12 * b + e) + ns)) (ls : MLS c' N' M' K P W E nt b (12 * b + e) 0 B j' ln') (gg : ∀ k y, y < M 0 40 → gm' k y = gm k y) (oq : ∀ p, p < ln → ow' p = ow p) (eq : ∀ p, p < ln → eo' p = eo p) (a1 : M 0 40 ≤ M' 0 40) (a2 : ln ≤ ln') (wd : WLD N' M' gm' ow' eo' cs' K P E nt b B (M' 0 40) ln' e (N (128 * (12 * b + e) + 3) 1) cb') : RDI c' N' M' gm' ow' eo' cs' K P W E nt b B 0 j' ln' e nc nu nk nh (ns + 1) cb' 0 ∧ fCn b e ln c N c' N' ∧ fCm b e (M 0 40) (M 0 51) M M' := by
  obtain ⟨e0, e1, b0, b1, B0, B1⟩ := h.bd
  have hE := h.he
  have hr := h.ls.r
  have l0 := h.ls.l0
  have nc1 := hE.nc1
  have nw1 := hE.nw1
  obtain ⟨q14, q15, q16, q17, q18⟩ := h.ct
  have ns0 : 0 ≤ ns := by have := hE.nw0; omega
  have tc : ∀ k, k = 17 ∨ k = 18 ∨ k = 19 → cuN b e (128 * (3 * (12 * b + e) + ns) + k) := fun k q => Or.inr (Or.inr (Or.inr ⟨by omega, by omega, by omega⟩))
  have fn : fCn b e ln c N c' N' := ⟨fun L q => fc L (fun y => q (by rw [y]; exact tc 17 (by omega))) (fun y => q (by rw [y]; exact tc 18 (by omega))) (fun y => q (by rw [y]; exact tc 19 (by omega))), fun L k q1 q2 q3 q4 q5 q6 => n L k q2 q5 q6 (fun y => q1 (by rw [y]; exact tc 17 (by omega))) (fun y => q1 (by rw [y]; exact tc 18 (by omega))) (fun y => q1 (by rw [y]; exact tc 19 (by omega))) (fun y => q1 (by rw [y.1]; exact cu3 (by omega))) (fun y => q1 (by rw [y.1]; exact cu3 (by omega))), fc _ (by omega) (by omega) (by omega), n _ _ (by omega) (by omega) (by omega) (by omega) (by omega) (by omega) (by omega) (by omega), n _ _ (by omega) (by omega) (by omega) (by omega) (by omega) (by omega) (by omega) (by omega)⟩
  have fm : fCm b e (M 0 40) (M 0 51) M M' := fun k i q => m k i (fun y => q (Or.inl y)) (fun y => q (Or.inr (Or.inr (Or.inr (Or.inr (Or.inr (Or.inr (Or.inr (Or.inr (Or.inr (Or.inr (Or.inl y)))))))))))) (fun y => q (Or.inr (Or.inr (Or.inr (Or.inr (Or.inr (Or.inr (Or.inr (Or.inr (Or.inr (Or.inr (Or.inr y)))))))))))) (fun y => q (by rw [y.1, y.2]; exact cum1 (by decide) (by decide))) (fun y => q (by rw [y.2]; exact cum3 (by omega) ns0 ns3)) (fun y => q (Or.inr (Or.inr (Or.inr (Or.inr (Or.inr (Or.inr (Or.inr (Or.inr (Or.inr (Or.inl ⟨by omega, by omega, by omega⟩)))))))))))
  have GA : GRW (M 0 40) ln (M 0 51) N M gm ow N' M' gm' ow' := fC_grw gg oq fn fm
  have nq : ∀ L k, L % 128 < 30 → L ≠ 128 * (3 * (12 * b + e) + ns) + 17 → L ≠ 128 * (3 * (12 * b + e) + ns) + 18 → L ≠ 128 * (3 * (12 * b + e) + ns) + 19 → ¬ (L = 128 * (12 * b + e) + 3 ∧ k = 16) → ¬ (L = 128 * (12 * b + e) + 16 ∧ k = ns) → N' L k = N L k := fun L k q0 q1 q2 q3 q4 q5 => n L k (by omega) (by omega) (by omega) q1 q2 q3 q4 q5
  have mq : ∀ k i, k ≠ 0 → ¬ (35 ≤ k ∧ k ≤ 39) → ¬ (48 ≤ k ∧ k ≤ 50) → ¬ (k = 18 ∧ i = 12 * b + e) → ¬ ((k = 29 ∨ k = 30 ∨ k = 34) ∧ i = 3 * (12 * b + e) + ns) → ¬ ((k = 31 ∨ k = 33) ∧ 12 * (3 * (12 * b + e) + ns) ≤ i ∧ i < 12 * (3 * (12 * b + e) + ns) + 12) → M' k i = M k i := fun k i q0 q1 q2 q3 q4 q5 => m k i (by omega) (by omega) (by omega) q3 q4 q5
  have ei : EI c' N' M' gm' ow' K P W E nt b B (M' 0 40) ln' e nc nu nk nh ns := h.ei.fr GA hr a1 a2 (fun L k q => ⟨fc L (itn_nq q).2.2.2.2.2.1 (itn_nq q).2.2.2.2.2.2.1 (itn_nq q).2.2.2.2.2.2.2, nq L k (itn_ne q).1 (itn_nq q).2.2.2.2.2.1 (itn_nq q).2.2.2.2.2.2.1 (itn_nq q).2.2.2.2.2.2.2 (fun y => (itn_ne q).2.1 y.1) (fun y => (itn_ne q).2.2.2.2.1 y.1)⟩) (fun k i q => mq k i (itm_ne q).1 (itm_ne q).2.1 (itm_ne q).2.2.1 (fun y => (itm_ne q).2.2.2.1 (by omega)) (fun y => (itm_ne q).2.2.2.2.2.2.2.2.2.2.1 ⟨y.1, by omega⟩) (fun y => (itm_ne q).2.2.2.2.2.2.2.2.2.2.2.1 ⟨y.1, by omega⟩))
  have mc : ∀ k, 13 ≤ k → k ≤ 18 → k ≠ 18 → M' k (12 * b + e) = M k (12 * b + e) := fun k k1 k2 k3 => mq _ _ (by omega) (by omega) (by omega) (by omega) (by omega) (by omega)
  refine ⟨h.nx fn fm GA a1 a2 eq ls (h.hb.cu e0 b0 fn fm (fun k _ => n _ _ (by omega) (by omega) (by omega) (by omega) (by omega) (by omega) (by omega) (by omega)) (nq _ _ (by omega) (by omega) (by omega) (by omega) (by omega) (by omega)) (mq _ _ (by omega) (by omega) (by omega) (by omega) (by omega) (by omega)) (fun i _ _ => mq _ _ (by omega) (by omega) (by omega) (by omega) (by omega) (by omega))) ?_ ⟨(mc 14 (by decide) (by decide) (by decide)).trans q14, (mc 15 (by decide) (by decide) (by decide)).trans q15, (mc 16 (by decide) (by decide) (by decide)).trans q16, (mc 17 (by decide) (by decide) (by decide)).trans q17, m18⟩ ⟨ei.1, ei.2.1, ei.2.2.1, ei.2.2.2.1, fun i i0 i1 => ?_, ei.2.2.2.2.2⟩ wd, fn, fm⟩
  · refine hE.gen (fun L q => fc L (by unfold hdL at q; omega) (by unfold hdL at q; omega) (by unfold hdL at q; omega)) (fun L k q1 q2 q3 => nq L k (by unfold hdL at q1; omega) (by unfold hdL at q1; omega) (by unfold hdL at q1; omega) (by unfold hdL at q1; omega) (by omega) (by omega)) (mc 13 (by decide) (by decide) (by decide)) (fun i => mq _ _ (by omega) (by omega) (by omega) (by omega) (by omega) (by omega)) ?_ ?_ ?_ ?_ ?_ ?_ ?_ ?_
    · rw [nq _ _ (by omega) (by omega) (by omega) (by omega) (by omega) (by omega), mc 14 (by decide) (by decide) (by decide)]; exact ⟨hE.nc, hE.nc0, hE.nc1⟩
    · rw [nq _ _ (by omega) (by omega) (by omega) (by omega) (by omega) (by omega), mc 15 (by decide) (by decide) (by decide)]; exact ⟨hE.nt, hE.nt0, hE.nt1⟩
    · rw [nq _ _ (by omega) (by omega) (by omega) (by omega) (by omega) (by omega), mc 16 (by decide) (by decide) (by decide)]; exact ⟨hE.nk, hE.nk0, hE.nk1⟩
    · rw [nq _ _ (by omega) (by omega) (by omega) (by omega) (by omega) (by omega), mc 17 (by decide) (by decide) (by decide)]; exact ⟨hE.nh, hE.nh0, hE.nh1⟩
    · rw [n8, m18]; exact ⟨rfl, by omega, by omega⟩
    · intro i i0 i1
      rw [mc 14 (by decide) (by decide) (by decide)] at i1
      rw [nq _ _ (by omega) (by omega) (by omega) (by omega) (by omega) (by omega), nq _ _ (by omega) (by omega) (by omega) (by omega) (by omega) (by omega), fc _ (by omega) (by omega) (by omega)]; exact hE.ci i i0 i1
    · intro i i0 i1
      rw [mc 15 (by decide) (by decide) (by decide)] at i1
      rw [nq _ _ (by omega) (by omega) (by omega) (by omega) (by omega) (by omega), nq _ _ (by omega) (by omega) (by omega) (by omega) (by omega) (by omega), fc _ (by omega) (by omega) (by omega)]; exact hE.ti i i0 i1
    · intro i i0 i1
      rw [m18] at i1
      by_cases y : i = ns
      · subst y
        exact ⟨na, is.1.1⟩
      · rw [nq _ _ (by omega) (by omega) (by omega) (by omega) (by omega) (by omega), nq _ _ (by omega) (by omega) (by omega) (by omega) (by omega) (by omega), fc _ (by omega) (by omega) (by omega)]; exact hE.si i i0 (by omega)
  · by_cases y : i = ns
    · subst y; exact is
    · exact ei.2.2.2.2.1 i i0 (by omega)
end SWF
section SWT
variable {l : Launch} {G : GT} {c c5 c0 : Int → Int} {S5 : Sh} {V6 N N6 M M2 gm N0 M0 : Mem} {Q : Int → Sh → Mem → Prop} {d mc ms ee : Nat} {ow eo cs K P W E : Int → Int} {nt b B j ln e nc nu nk nh ns cb t : Int}
set_option maxHeartbeats 2000000 in
theorem sw_tail (hc5 : Cn c5 S5) (h5 : 0 ≤ S5.2.2) (h : RDI c N M gm ow eo cs K P W E nt b B 0 j ln e nc nu nk nh ns cb 0) (gf : GF b B c0 N0 M0 c N M) (hd : 90 ≤ d) (he : 105 ≤ ee) (ht : t = 3 * (12 * b + e) + ns) (ns3 : ns < 3) (hcb : cb ≤ 12 * t) (y50 : c 50 = c5 50) (fc : ∀ L, L ≠ 128 * t + 17 → L ≠ 128 * t + 18 → L ≠ 128 * t + 19 → c5 L = c L) (hW6 : Wv c5 S5 V6 = N6) (n6 : ∀ L k, ¬ (L = 50 ∧ 6 ≤ k ∧ k ≤ 9) → L ≠ 128 * t + 17 → L ≠ 128 * t + 18 → L ≠ 128 * t + 19 → ¬ (L = 128 * (12 * b + e) + 3 ∧ k = 16) → ¬ (L = 128 * (12 * b + e) + 16 ∧ k = ns) → N6 L k = N L k) (n6b : N6 (128 * (12 * b + e) + 3) 16 = ns + 1) (n6a : N6 (128 * (12 * b + e) + 16) ns = c5 (128 * t + 17)) (s0 : N6 (128 * t + 17) (-1) = 8) (s1 : N6 (128 * t + 17) 0 = W (j + 1)) (s2 : N6 (128 * t + 17) 1 = c5 (128 * t + 18)) (s3 : N6 (128 * t + 17) 2 = c5 (128 * t + 19)) (s4 : N6 (128 * t + 18) (-1) = 22) (s5 : N6 (128 * t + 18) (-2) = 12) (s6 : N6 (128 * t + 19) (-1) = 20) (s7 : N6 (128 * t + 19) (-2) = 12) (s8 : N6 (128 * t + 17) 3 = 0) (ts6 : TS c5 N6 M2 K P W E nt (j + 1 + 1)) (m2 : ∀ k i, ¬ (k = 0 ∧ 3 ≤ i ∧ i ≤ 6) → ¬ ((k = 29 ∨ k = 30) ∧ i = t) → ¬ (k = 18 ∧ i = 12 * b + e) → M2 k i = M k i) (m229 : M2 29 t = nmv P E b (j + 1)) (m230 : M2 30 t = 0) (m218 : M2 18 (12 * b + e) = ns + 1) (nr : NR M (W (j + 1)) (nmv P E b (j + 1)))
    (pre2 : ∀ Qr : Int → Mem → Prop, PM ee n_sign_0 [123] M2 (fun z11 M11 => PM (ee + 1) n_readSwitch_95 [nmv P E b (j + 1), t] M11 (fun _ M47 => Qr 0 M47)) → PM (ee + 2) n_readMember_0 [] M Qr)
    (hok : ∀ V' M' gm' ow' eo' cs' j' ln', RDI c5 (Wv c5 S5 V') M' gm' ow' eo' cs' K P W E nt b B 0 j' ln' e nc nu nk nh (ns + 1) (36 * (12 * b + e) + 12 * (ns + 1)) 0 → GF b B c0 N0 M0 c5 (Wv c5 S5 V') M' → j < j' → RunM (ee + 2) n_readMember_0 [] M 0 M' → Q 1 S5 V')
    (hbad : ∀ V' M', GF b B c0 N0 M0 c5 (Wv c5 S5 V') M' → FTS (Wv c5 S5 V') M' → RunM (ee + 2) n_readMember_0 [] M 0 M' → Q 0 S5 V') :
    CT l G bX5_accept d mc ms [vr (c 50), vi 123] S5 V6 (fun z18 S18 V18 mc18 ms18 => XJ l G bX5_readSwitch Q d 75 [vr (c 50), vr (c5 (128 * t + 17)), vi z18, vi 0] [] S18 V18 mc18 ms18) := by
  subst ht
  obtain ⟨e0, e1, b0, b1, B0, B1⟩ := h.bd
  have ls := h.ls
  have hE := h.he
  have l0 := ls.l0
  have lj := ls.lj
  have w0 := ls.w
  have u0 : 0 ≤ ns := by have := hE.nw0; have := h.ct.2.2.2.2; omega
  have BX : B ≤ M 0 40 := h.wd.2.2.2.2.2.2.1
  have cn : CN b B 0 := ⟨b0, b1, B0, B1, by decide, by decide⟩
  rw [y50]
  have tc : ∀ k, k = 17 ∨ k = 18 ∨ k = 19 → cuN b e (128 * (3 * (12 * b + e) + ns) + k) := fun k q => Or.inr (Or.inr (Or.inr ⟨by omega, by omega, by omega⟩))
  have gfr : ∀ N' M' : Mem, (∀ L k, ¬ (L = 50 ∧ 5 ≤ k ∧ k ≤ 11) → ¬ (L = 120 ∧ k = 2) → ¬ ((L = 121 ∨ L = 122) ∧ ln ≤ k) → L ≠ 128 * (3 * (12 * b + e) + ns) + 17 → L ≠ 128 * (3 * (12 * b + e) + ns) + 18 → L ≠ 128 * (3 * (12 * b + e) + ns) + 19 → ¬ (L = 128 * (12 * b + e) + 3 ∧ k = 16) → ¬ (L = 128 * (12 * b + e) + 16 ∧ k = ns) → N' L k = N L k) → (∀ k i, ¬ (k = 0 ∧ ((3 ≤ i ∧ i ≤ 6) ∨ i = 40 ∨ (42 ≤ i ∧ i ≤ 47) ∨ i = 51)) → ¬ (35 ≤ k ∧ k ≤ 39 ∧ M 0 40 ≤ i) → ¬ (48 ≤ k ∧ k ≤ 50 ∧ M 0 51 ≤ i) → ¬ (k = 18 ∧ i = 12 * b + e) → ¬ ((k = 29 ∨ k = 30 ∨ k = 34) ∧ i = 3 * (12 * b + e) + ns) → ¬ ((k = 31 ∨ k = 33) ∧ 12 * (3 * (12 * b + e) + ns) ≤ i ∧ i < 12 * (3 * (12 * b + e) + ns) + 12) → M' k i = M k i) → GF b B c0 N0 M0 c5 N' M' := fun N' M' n m => gf.cu (ln := ln) (X := M 0 40) (R := M 0 51) e0 e1 l0 BX ⟨fun L q => fc L (fun y => q (by rw [y]; exact tc 17 (by omega))) (fun y => q (by rw [y]; exact tc 18 (by omega))) (fun y => q (by rw [y]; exact tc 19 (by omega))), fun L k q1 q2 q3 q4 q5 q6 => n L k q2 q5 q6 (fun y => q1 (by rw [y]; exact tc 17 (by omega))) (fun y => q1 (by rw [y]; exact tc 18 (by omega))) (fun y => q1 (by rw [y]; exact tc 19 (by omega))) (fun y => q1 (by rw [y.1]; exact cu3 (by omega))) (fun y => q1 (by rw [y.1]; exact cu3 (by omega))), fc _ (by omega) (by omega) (by omega), n _ _ (by omega) (by omega) (by omega) (by omega) (by omega) (by omega) (by omega) (by omega), n _ _ (by omega) (by omega) (by omega) (by omega) (by omega) (by omega) (by omega) (by omega)⟩ (fun k i q => m k i (fun y => q (Or.inl y)) (fun y => q (Or.inr (Or.inr (Or.inr (Or.inr (Or.inr (Or.inr (Or.inr (Or.inr (Or.inr (Or.inr (Or.inl y)))))))))))) (fun y => q (Or.inr (Or.inr (Or.inr (Or.inr (Or.inr (Or.inr (Or.inr (Or.inr (Or.inr (Or.inr (Or.inr y)))))))))))) (fun y => q (by rw [y.1, y.2]; exact cum1 (by decide) (by decide))) (fun y => q (by rw [y.2]; exact cum3 (by omega) u0 ns3)) (fun y => q (Or.inr (Or.inr (Or.inr (Or.inr (Or.inr (Or.inr (Or.inr (Or.inr (Or.inr (Or.inl ⟨by omega, by omega, by omega⟩)))))))))))) 
  have w95 : ∀ (Mx : Mem) (Qr : Int → Mem → Prop), 0 < Mx 0 46 → Qr 0 Mx → PM (ee + 1) n_readSwitch_95 [nmv P E b (j + 1), 3 * (12 * b + e) + ns] Mx Qr := fun Mx Qr hw hq => st_readSwitch_95 ⟨fun _ => ⟨fun y => absurd hw (by omega), fun _ => hq⟩, fun y => absurd hw (by omega)⟩
  have w2 : M2 0 46 = 0 := (m2 _ _ (by omega) (by omega) (by omega)).trans w0
  refine CT.im (by omega) (fun d1 hd1 => ?_)
  by_cases k123 : K (j + 1 + 1) = 123
  · refine ct_acc1 (e := ee - 1) hc5 hW6 ts6 k123 (by decide) (by omega) (by omega) (fun V8 M4 hW8 ts8 lx8 rn8 => ?_)
    have n8 : ∀ L k, ¬ (L = 50 ∧ 6 ≤ k ∧ k ≤ 8) → nPs N6 (j + 1 + 1 + 1) (K (j + 1 + 1 + 1)) (W (j + 1 + 1 + 1)) L k = N6 L k := fun L k q => nPs_ne q
    have m4 : ∀ k i, ¬ (k = 0 ∧ 3 ≤ i ∧ i ≤ 6) → M4 k i = M2 k i := lx8
    generalize hN8 : nPs N6 (j + 1 + 1 + 1) (K (j + 1 + 1 + 1)) (W (j + 1 + 1 + 1)) = N8 at *
    have n8N : ∀ L k, ¬ (L = 50 ∧ 6 ≤ k ∧ k ≤ 9) → L ≠ 128 * (3 * (12 * b + e) + ns) + 17 → L ≠ 128 * (3 * (12 * b + e) + ns) + 18 → L ≠ 128 * (3 * (12 * b + e) + ns) + 19 → ¬ (L = 128 * (12 * b + e) + 3 ∧ k = 16) → ¬ (L = 128 * (12 * b + e) + 16 ∧ k = ns) → N8 L k = N L k := fun L k q0 q1 q2 q3 q4 q5 => (n8 L k (by omega)).trans (n6 L k q0 q1 q2 q3 q4 q5)
    have m4M : ∀ k i, ¬ (k = 0 ∧ 3 ≤ i ∧ i ≤ 6) → ¬ ((k = 29 ∨ k = 30) ∧ i = 3 * (12 * b + e) + ns) → ¬ (k = 18 ∧ i = 12 * b + e) → M4 k i = M k i := fun k i q0 q1 q2 => (m4 k i q0).trans (m2 k i q0 q1 q2)
    have x40 : M4 0 40 = M 0 40 := m4M _ _ (by omega) (by omega) (by omega)
    have x51 : M4 0 51 = M 0 51 := m4M _ _ (by omega) (by omega) (by omega)
    have ls8 : MLS c5 N8 M4 K P W E nt b (12 * b + e) 0 B (j + 1 + 1 + 1) ln := ls.fr (st' := 0) ts8 ((n8N _ _ (by omega) (by omega) (by omega) (by omega) (by omega) (by omega)).trans ls.sv) ((n8N _ _ (by omega) (by omega) (by omega) (by omega) (by omega) (by omega)).trans ls.lv) (fun i _ _ => n8N _ _ (by omega) (by omega) (by omega) (by omega) (by omega) (by omega)) (by omega) x51 x40 ((m4 _ _ (by omega)).trans w2) ((n8N _ _ (by omega) (by omega) (by omega) (by omega) (by omega) (by omega)).trans ls.f) (m4M _ _ (by omega) (by omega) (by omega)) (m4M _ _ (by omega) (by omega) (by omega))
    have wd8 := (h.wd.fr (R := M 0 51) (gm' := gm) (N' := N8) (M' := M4) ⟨fun i _ _ => ⟨n8N _ _ (by omega) (by omega) (by omega) (by omega) (by omega) (by omega), n8N _ _ (by omega) (by omega) (by omega) (by omega) (by omega) (by omega)⟩, fun _ _ _ => rfl, fun _ _ => rfl, fun k i _ _ _ => m4M _ _ (by omega) (by omega) (by omega), fun k i _ _ _ => m4M _ _ (by omega) (by omega) (by omega)⟩ ls.r).cbm (cb' := 12 * (3 * (12 * b + e) + ns) + 0) (by omega)
    rw [← x40] at wd8
    have cvN : ∀ N' : Mem, fSa (3 * (12 * b + e) + ns) ln N8 N' → ∀ L k, ¬ (L = 50 ∧ 5 ≤ k ∧ k ≤ 11) → ¬ (L = 120 ∧ k = 2) → ¬ ((L = 121 ∨ L = 122) ∧ ln ≤ k) → L ≠ 128 * (3 * (12 * b + e) + ns) + 17 → L ≠ 128 * (3 * (12 * b + e) + ns) + 18 → L ≠ 128 * (3 * (12 * b + e) + ns) + 19 → ¬ (L = 128 * (12 * b + e) + 3 ∧ k = 16) → ¬ (L = 128 * (12 * b + e) + 16 ∧ k = ns) → N' L k = N L k := fun N' f L k q1 q2 q3 q4 q5 q6 q7 q8 => (f L k (by omega) q2 q3 (by omega) (by omega)).trans (n8N L k (by omega) q4 q5 q6 q7 q8)
    have cvM : ∀ M' : Mem, fSb (3 * (12 * b + e) + ns) (M4 0 40) (M4 0 51) M4 M' → ∀ k i, ¬ (k = 0 ∧ ((3 ≤ i ∧ i ≤ 6) ∨ i = 40 ∨ (42 ≤ i ∧ i ≤ 47) ∨ i = 51)) → ¬ (35 ≤ k ∧ k ≤ 39 ∧ M 0 40 ≤ i) → ¬ (48 ≤ k ∧ k ≤ 50 ∧ M 0 51 ≤ i) → ¬ (k = 18 ∧ i = 12 * b + e) → ¬ ((k = 29 ∨ k = 30 ∨ k = 34) ∧ i = 3 * (12 * b + e) + ns) → ¬ ((k = 31 ∨ k = 33) ∧ 12 * (3 * (12 * b + e) + ns) ≤ i ∧ i < 12 * (3 * (12 * b + e) + ns) + 12) → M' k i = M k i := fun M' f k i q1 q2 q3 q4 q5 q6 => (f k i q1 (by omega) (by omega) (by omega) q6).trans (m4M k i (by omega) (by omega) q4)
    have tx8 : ∀ i, 0 ≤ i → i < M4 0 2 → M4 7 (3000 * b + i) = M4 1 i := fun i i0 i1 => by
      rw [m4M _ _ (by omega) (by omega) (by omega)] at i1
      rw [m4M _ _ (by omega) (by omega) (by omega), m4M _ _ (by omega) (by omega) (by omega)]
      exact h.tx i i0 i1
    refine cs_loop (ee := ee) (N1 := N8) (M1 := M4) (gm1 := gm) (ow1 := ow) (eo1 := eo) (ln1 := ln) (F := N (128 * (12 * b + e) + 3) 1) (nm := nmv P E b (j + 1)) (j0 := j + 1 + 1 + 1) (Xq := fun QT => ∀ Qr : Int → Mem → Prop, QT = (fun _ M47 => Qr 0 M47) → PM (ee + 2) n_readMember_0 [] M Qr) hc5 cn (by omega) (by omega) (by omega) (by omega) (by omega) (by omega) ((n8 _ _ (by omega)).trans s0) ((n8 _ _ (by omega)).trans s2) ((n8 _ _ (by omega)).trans s3) ((n8 _ _ (by omega)).trans s4) ((n8 _ _ (by omega)).trans s5) ((n8 _ _ (by omega)).trans s6) ((n8 _ _ (by omega)).trans s7) tx8 (fun V9 M9 gm9 ow9 eo9 cs9 j9 l9 ls9 fa9 fb9 gg wd9 ct9 rt9 cse9 bn9 jj9 run9 => ?_) (fun V9 M9 f1 f2 fts run9 => hbad V9 M9 (gfr _ _ (cvN _ f1) (cvM _ f2)) fts (fun Qr hq => run9 (fun _ M47 => Qr 0 M47) hq Qr rfl)) 12 0 (j + 1 + 1 + 1) ln V8 N8 M4 gm ow eo cs (by omega) hW8 (Int.le_refl _) ⟨ls8, ⟨fun _ _ _ _ _ _ _ => rfl, fun _ _ _ _ _ _ _ => rfl⟩, ⟨fun _ _ _ => rfl, fun _ _ => rfl, fun _ _ => rfl⟩, wd8, ⟨(n8 _ _ (by omega)).trans s8, (m4 _ _ (by omega)).trans m230, by decide, by decide⟩, fun i i0 i1 => by omega, Int.le_refl _, Int.le_refl _, Int.le_refl _⟩ (fun QT hq Qr eQ => pre2 Qr (ts6.sn1 w2 (by decide) k123 (by omega) rn8 _ (by subst eQ; exact hq)))
    have nT : ∀ L k, (L = 128 * (3 * (12 * b + e) + ns) + 17 ∧ k ≠ 3 ∧ k ≠ 4) ∨ ((L = 128 * (3 * (12 * b + e) + ns) + 18 ∨ L = 128 * (3 * (12 * b + e) + ns) + 19) ∧ k < 0) ∨ L = 128 * (12 * b + e) + 3 ∨ L = 128 * (12 * b + e) + 16 → Wv c5 S5 V9 L k = N6 L k := fun L k q => (fa9 L k (by omega) (by omega) (by omega) (by omega) (by omega)).trans (n8 L k (by omega))
    have m29 : M9 29 (3 * (12 * b + e) + ns) = nmv P E b (j + 1) := (fb9 _ _ (by omega) (by omega) (by omega) (by omega) (by omega)).trans ((m4 _ _ (by omega)).trans m229)
    have m18 : M9 18 (12 * b + e) = ns + 1 := (fb9 _ _ (by omega) (by omega) (by omega) (by omega) (by omega)).trans ((m4 _ _ (by omega)).trans m218)
    have is9 : IS c5 (Wv c5 S5 V9) M9 gm9 ow9 K P W E nt b B (M9 0 40) l9 (3 * (12 * b + e) + ns) := by
      refine ⟨⟨(nT _ _ (by omega)).trans s0, (nT _ _ (by omega)).trans s2, (nT _ _ (by omega)).trans s4, (nT _ _ (by omega)).trans s5, (nT _ _ (by omega)).trans s3, (nT _ _ (by omega)).trans s6, (nT _ _ (by omega)).trans s7⟩, ?_, ct9, rt9, cse9⟩
      rw [nT _ _ (by omega), s1, m29]
      exact nr.m7 (fun i => cvM _ fb9 _ _ (by omega) (by omega) (by omega) (by omega) (by omega) (by omega))
    rw [x40] at bn9
    obtain ⟨rdB, fnB, fmB⟩ := sw_fin (cb' := 36 * (12 * b + e) + 12 * (ns + 1)) h ns3 fc (cvN _ fa9) ((nT _ _ (by omega)).trans n6b) ((nT _ _ (by omega)).trans n6a) (cvM _ fb9) m18 is9 ls9 (fun k y q => gg.1 k y (by omega)) gg.2.1 gg.2.2 (by omega) bn9.2 (wd9.cbm (by omega))
    exact hok V9 M9 gm9 ow9 eo9 cs9 j9 l9 rdB (gfr _ _ (cvN _ fa9) (cvM _ fb9)) (by omega) (fun Qr hq => run9 (fun _ M47 => Qr 0 M47) hq Qr rfl)
  · refine ct_acc0 hc5 hW6 ts6 k123 (by omega) (fun V7 hW7 => sw75_0 ?_)
    have wp : 0 < mFt M2 (if K (j + 1 + 1) = 0 then 1 else 2) (P (j + 1 + 1)) 0 46 := by rw [mFt_46]; exact ftp (by decide)
    refine hbad V7 (mFt M2 (if K (j + 1 + 1) = 0 then 1 else 2) (P (j + 1 + 1))) (gfr _ _ (fun L k q1 q2 q3 q4 q5 q6 q7 q8 => ?_) (fun k i q1 q2 q3 q4 q5 q6 => ?_)) (by rw [hW7]; exact FTS.ft (ftp (by decide))) (fun Qr hq => pre2 Qr (ts6.sn0 w2 (by decide) k123 (by omega) _ (w95 _ _ wp hq)))
    · rw [hW7, nFt_ne (by omega)]; exact n6 L k (by omega) q4 q5 q6 q7 q8
    · rw [mFt_ne (by omega)]; exact m2 k i (by omega) (by omega) q4
end SWT
section SWR
variable {l : Launch} {G : GT} {c c0 : Int → Int} {S : Sh} {V N M gm N0 M0 : Mem} {Q : Int → Sh → Mem → Prop} {d ee : Nat} {ow eo cs K P W E : Int → Int} {nt b B j ln e nc nu nk nh ns cb : Int}
set_option maxHeartbeats 2000000 in
theorem rd_switch (hc : Cn c S) (h0 : 0 ≤ S.2.2) (hW : Wv c S V = N) (h : RDI c N M gm ow eo cs K P W E nt b B 0 j ln e nc nu nk nh ns cb 0) (gf : GF b B c0 N0 M0 c N M) (k9 : K j = 9) (hcb : cb ≤ 36 * (12 * b + e) + 12 * ns) (hd : 95 ≤ d) (he : 110 ≤ ee)
    (hok : ∀ c' S' V' M' gm' ow' eo' cs' j' ln', Cn c' S' → 0 ≤ S'.2.2 → c' 50 = c 50 → RDI c' (Wv c' S' V') M' gm' ow' eo' cs' K P W E nt b B 0 j' ln' e nc nu nk nh (ns + 1) (36 * (12 * b + e) + 12 * (ns + 1)) 0 → GF b B c0 N0 M0 c' (Wv c' S' V') M' → j < j' → RunM (ee + 2) n_readMember_0 [] M 0 M' → Q 1 S' V')
    (hbad : ∀ c' S' V' M', Cn c' S' → 0 ≤ S'.2.2 → GF b B c0 N0 M0 c' (Wv c' S' V') M' → FTS (Wv c' S' V') M' → RunM (ee + 2) n_readMember_0 [] M 0 M' → Q 0 S' V') : Ct l G bX5_readSwitch Q d 3 29 [vr (c 50)] S V := by
  obtain ⟨e0, e1, b0, b1, B0, B1⟩ := h.bd
  have ls := h.ls
  have ts := ls.ts
  have hE := h.he
  have ntb := ts.ntb
  have l0 := ls.l0
  have lj := ls.lj
  have w0 := ls.w
  obtain ⟨q14, q15, q16, q17, q18⟩ := h.ct
  have u0 : 0 ≤ ns := by have := hE.nw0; omega
  have u1 := hE.nw1
  obtain ⟨ya, yb, yc, yd, ye, yf, yg⟩ := ts.x hW
  obtain ⟨v', tg, lnn⟩ := Wr hW
  have y4 : V (c 50) 4 = c (128 * (12 * b + e) + 3) := (v' _ _ (by decide)).trans h.cu
  have y8 : V (c (128 * (12 * b + e) + 3)) 16 = ns := (v' _ _ (by decide)).trans (hE.nw.trans q18)
  have BX : B ≤ M 0 40 := h.wd.2.2.2.2.2.2.1
  have cn : CN b B 0 := ⟨b0, b1, B0, B1, by decide, by decide⟩
  have pre : ∀ Qr : Int → Mem → Prop, B_readSwitch_0 (fun i' as' M' => PM (ee + 1) i' as' M' (fun _ M47 => Qr 0 M47)) (PM ee) (fun _ M47 => Qr 0 M47) ee M → PM (ee + 2) n_readMember_0 [] M Qr := fun Qr hq => st_readMember_0 (ts.wd0 1 (by decide) (by rw [k9]; decide) (by omega) _ ⟨fun _ => ts.wd0 2 (by decide) (by rw [k9]; decide) (by omega) _ ⟨fun _ => ts.wd0 3 (by decide) (by rw [k9]; decide) (by omega) _ ⟨fun _ => ts.wd0 4 (by decide) (by rw [k9]; decide) (by omega) _ ⟨fun _ => ts.wd1 5 (by decide) k9 (by omega) _ ⟨fun y => absurd y (by decide), fun _ => st_readSwitch_0 hq⟩, fun y => absurd rfl y⟩, fun y => absurd rfl y⟩, fun y => absurd rfl y⟩, fun y => absurd rfl y⟩)
  refine qX5_readSwitch fun c50 => vX5_readSwitch_0 ?_
  rw [y4, y8]
  refine ⟨yf, (tg _).trans hE.tg, fun k3 => CT.im (by omega) (fun d1 hd1 => ct_mem0 hc hW ts (by omega) (fun V1 hW1 => ⟨fun y => absurd rfl y, fun _ => ?_⟩)), fun k3 => CT.im (by omega) (fun d1 hd1 => ct_mem (ee := ee) (mu := fun M1 => up (up (up M1 29 (3 * (12 * b + e) + ns) (nmv P E b (j + 1))) 30 (3 * (12 * b + e) + ns) 0) 18 (12 * b + e) (ns + 1)) hc hW h (by omega) (by omega) (by omega) (fun M1 i hi => ?_) (fun M1 i => ?_) (fun V2 M1 M2 hW2 ts2 lx1 rn1 rt rnn lx2 rn2 k3' jl2 nr knp => ⟨fun _ => ?_, fun y => absurd (by decide) y⟩) (fun V' M1 M' z fN fM fts rn1 rt rnn => ⟨fun y => absurd rfl y, fun _ => ?_⟩))⟩
  · refine hbad c S V1 (mFt M (if K j = 0 then 1 else 5) (P j)) hc h0 (gf.tr (fun _ _ => rfl) (fun L k q => by rw [hW1]; exact gf_nft q) (fun k i q => gf_mft q)) (by rw [hW1]; exact FTS.ft (ftp (by decide))) (fun Qr hq => pre Qr ?_)
    unfold B_readSwitch_0
    rw [ls.g41]
    exact ⟨by omega, by omega, fun y => absurd (by omega) y, fun _ => ts.ft w0 (by omega) _ hq⟩
  · show up (up (up M1 29 (3 * (12 * b + e) + ns) (nmv P E b (j + 1))) 30 (3 * (12 * b + e) + ns) 0) 18 (12 * b + e) (ns + 1) 0 i = M1 0 i
    rw [up_ne (by omega), up_ne (by omega), up_ne (by omega)]
  · show up (up (up M1 29 (3 * (12 * b + e) + ns) (nmv P E b (j + 1))) 30 (3 * (12 * b + e) + ns) 0) 18 (12 * b + e) (ns + 1) 1 i = M1 1 i
    rw [up_ne (by omega), up_ne (by omega), up_ne (by omega)]
  · obtain ⟨t, ht⟩ : ∃ t, t = 3 * (12 * b + e) + ns := ⟨_, rfl⟩
    rw [← ht] at lx2 rn2
    have g1 : M1 0 41 = 12 * b + e := (lx1 _ _ (by omega)).trans ls.g41
    have h15 : M1 18 (12 * b + e) = ns := (lx1 _ _ (by omega)).trans q18
    have w1 : M1 0 46 = 0 := (lx1 _ _ (by omega)).trans w0
    have m2 : ∀ k i, ¬ (k = 0 ∧ 3 ≤ i ∧ i ≤ 6) → ¬ ((k = 29 ∨ k = 30) ∧ i = t) → ¬ (k = 18 ∧ i = 12 * b + e) → M2 k i = M k i := fun k i q0 q1 q2 => (lx2 k i q0).trans ((by show up (up (up M1 29 t (nmv P E b (j + 1))) 30 t 0) 18 (12 * b + e) (ns + 1) k i = M1 k i; rw [up_ne (by omega), up_ne (by omega), up_ne (by omega)] : up (up (up M1 29 t (nmv P E b (j + 1))) 30 t 0) 18 (12 * b + e) (ns + 1) k i = M1 k i).trans (lx1 k i q0))
    have m229 : M2 29 t = nmv P E b (j + 1) := (lx2 _ _ (by omega)).trans (by rw [up_ne (by omega), up_ne (by omega), up_eq])
    have m230 : M2 30 t = 0 := (lx2 _ _ (by omega)).trans (by rw [up_ne (by omega), up_eq])
    have m218 : M2 18 (12 * b + e) = ns + 1 := (lx2 _ _ (by omega)).trans up_eq
    have w2 : M2 0 46 = 0 := (m2 _ _ (by omega) (by omega) (by omega)).trans w0
    have pre2 : ∀ Qr : Int → Mem → Prop, PM ee n_sign_0 [123] M2 (fun z11 M11 => PM (ee + 1) n_readSwitch_95 [nmv P E b (j + 1), t] M11 (fun _ M47 => Qr 0 M47)) → PM (ee + 2) n_readMember_0 [] M Qr := fun Qr hq => pre Qr (by
      unfold B_readSwitch_0
      rw [ls.g41]
      refine ⟨by omega, by omega, fun _ => rn1 _ (rt _ (rnn _ ⟨fun _ => ?_, fun y => absurd (by omega) y⟩)), fun y => absurd (by omega) y⟩
      rw [g1, h15, ← ht]
      exact ⟨by omega, by omega, by omega, by omega, by omega, by omega, by omega, by omega, by omega, by omega, rn2 _ hq⟩)
    have n2 : ∀ L k, ¬ (L = 50 ∧ 6 ≤ k ∧ k ≤ 9) → Wv c S V2 L k = N L k := fun L k q => by rw [hW2, nPs_ne (by omega), nNn_ne (by omega), nPs_ne (by omega)]
    have n29 : Wv c S V2 50 9 = W (j + 1) := by rw [hW2, nPs_ne (by omega)]; exact up_eq
    have ts2' : TS c (Wv c S V2) M2 K P W E nt (j + 1 + 1) := by rw [hW2]; exact ts2
    generalize hM2 : M2 = M2' at *
    refine ⟨by decide, by decide, ?_⟩
    intro S3 V3 r3 mc3 ms3 z1 z2 z3 z4 z5
    subst z1 z2 z3 z4 z5
    obtain ⟨c3, hc3, h3, hW3, e3, f3⟩ := al (L := 128 * t + 17) (t := 8) (n := 0) hc h0 (rfl : Wv c S V2 = Wv c S V2)
    have x50 : c 50 = c3 50 := (f3 50 (by omega)).symm
    have hn9 : clr V2 (S.2.2 + 1) (c 50) 9 = W (j + 1) := by rw [x50, (Wr hW3).1 _ _ (by decide), nwl_ne (by omega)]; exact n29
    generalize nw S 8 0 = S3 at *
    generalize clr V2 (S.2.2 + 1) = V3 at *
    generalize hr3 : S.2.2 + 1 = r3 at *
    rw [hn9]
    refine ⟨by rw [x50, (Wr hW3).2.1, nwl_ne (by omega), n2 _ _ (by omega)]; exact ls.ts.rd.g50, by rw [← e3]; exact (hc3.2 _).1, ?_⟩
    refine CT.of (d - 1) 2 24 (ct_swiInit (t := t) (w := W (j + 1)) (Q := fun _ S5 V5 => ∃ c5 N5, Cn c5 S5 ∧ 0 ≤ S5.2.2 ∧ Wv c5 S5 V5 = N5 ∧ (∀ L, L ≠ 128 * t + 18 → L ≠ 128 * t + 19 → c5 L = c3 L) ∧ (∀ L k, ¬ (L = 128 * t + 17 ∧ (k = 0 ∨ k = 1 ∨ k = 2)) → L ≠ 128 * t + 18 → L ≠ 128 * t + 19 → N5 L k = nwl (Wv c S V2) (128 * t + 17) 8 0 L k) ∧ N5 (128 * t + 17) 0 = W (j + 1) ∧ N5 (128 * t + 17) 1 = c5 (128 * t + 18) ∧ N5 (128 * t + 17) 2 = c5 (128 * t + 19) ∧ N5 (128 * t + 18) (-1) = 22 ∧ N5 (128 * t + 18) (-2) = 12 ∧ N5 (128 * t + 19) (-1) = 20 ∧ N5 (128 * t + 19) (-2) = 12) hc3 h3 hW3 e3 nwl_tag (by omega) (fun c' S' V' N' a1 a2 a3 a4 a5 a6 a7 a8 a9 a10 a11 a12 => ⟨c', N', a1, a2, a3, a4, a5, a6, a7, a8, a9, a10, a11, a12⟩)) (by omega) (by decide) (by decide) (fun z5 S5 V5 hq5 => ?_)
    obtain ⟨c5, N5, hc5, h5, hW5, f5, n5, k0, k1, k2, i1, i2, i3, i4⟩ := hq5
    have fc : ∀ L, L ≠ 128 * t + 17 → L ≠ 128 * t + 18 → L ≠ 128 * t + 19 → c5 L = c L := fun L q1 q2 q3 => (f5 L q2 q3).trans (f3 L q1)
    have nn : ∀ L k, ¬ (L = 50 ∧ 6 ≤ k ∧ k ≤ 9) → L ≠ 128 * t + 17 → L ≠ 128 * t + 18 → L ≠ 128 * t + 19 → N5 L k = N L k := fun L k q0 q1 q2 q3 => by rw [n5 L k (by omega) q2 q3, nwl_ne q1, n2 L k q0]
    have nz : ∀ k, ¬ (k = 0 ∨ k = 1 ∨ k = 2) → 0 ≤ k → N5 (128 * t + 17) k = 0 := fun k q q0 => by rw [n5 _ _ (by omega) (by omega) (by omega)]; unfold nwl; rw [if_pos rfl, if_neg (by omega), if_neg (by omega)]
    have ntg : N5 (128 * t + 17) (-1) = 8 := by rw [n5 _ _ (by omega) (by omega) (by omega), nwl_tag]
    have y50 : c 50 = c5 50 := (fc 50 (by omega) (by omega) (by omega)).symm
    have y3 : r3 = c5 (128 * t + 17) := by rw [f5 _ (by omega) (by omega)]; exact e3.symm
    obtain ⟨v5, tg5, ln5⟩ := Wr hW5
    have d4 : V5 (c 50) 4 = c5 (128 * (12 * b + e) + 3) := by rw [y50, v5 _ _ (by decide), nn _ _ (by omega) (by omega) (by omega) (by omega), fc _ (by omega) (by omega) (by omega)]; exact h.cu
    have d8 : V5 (c5 (128 * (12 * b + e) + 3)) 16 = ns := by rw [v5 _ _ (by decide), nn _ _ (by omega) (by omega) (by omega) (by omega)]; exact hE.nw.trans q18
    have d7 : V5 (c5 (128 * (12 * b + e) + 3)) 15 = c5 (128 * (12 * b + e) + 16) := by rw [v5 _ _ (by decide), nn _ _ (by omega) (by omega) (by omega) (by omega), fc _ (by omega) (by omega) (by omega)]; exact hE.rs
    rw [d4, d8, d7]
    have g50 : S5.1 (c 50) = 6 := by rw [y50, tg5, nn _ _ (by omega) (by omega) (by omega) (by omega)]; exact ls.ts.rd.g50
    refine ⟨g50, by rw [tg5, nn _ _ (by omega) (by omega) (by omega) (by omega)]; exact hE.tg, by rw [tg5, nn _ _ (by omega) (by omega) (by omega) (by omega)]; exact hE.ts, by rw [y3, tg5]; exact ntg, u0, by rw [ln5, nn _ _ (by omega) (by omega) (by omega) (by omega), hE.ls]; omega, by omega, by omega, ?_⟩
    rw [y3]
    have hW6 : Wv c5 S5 (up (up V5 (c5 (128 * (12 * b + e) + 16)) ns (c5 (128 * t + 17))) (c5 (128 * (12 * b + e) + 3)) 16 (ns + 1)) = up (up N5 (128 * (12 * b + e) + 16) ns (c5 (128 * t + 17))) (128 * (12 * b + e) + 3) 16 (ns + 1) := by rw [Wv_up hc5 (by decide), Wv_up hc5 u0, hW5]
    have n6 : ∀ L k, ¬ (L = 128 * (12 * b + e) + 16 ∧ k = ns) → ¬ (L = 128 * (12 * b + e) + 3 ∧ k = 16) → up (up N5 (128 * (12 * b + e) + 16) ns (c5 (128 * t + 17))) (128 * (12 * b + e) + 3) 16 (ns + 1) L k = N5 L k := fun L k q1 q2 => by rw [up_ne' (by omega), up_ne' (by omega)]
    have n6a : up (up N5 (128 * (12 * b + e) + 16) ns (c5 (128 * t + 17))) (128 * (12 * b + e) + 3) 16 (ns + 1) (128 * (12 * b + e) + 16) ns = c5 (128 * t + 17) := by rw [up_ne' (by omega), up_eq]
    have n6b : up (up N5 (128 * (12 * b + e) + 16) ns (c5 (128 * t + 17))) (128 * (12 * b + e) + 3) 16 (ns + 1) (128 * (12 * b + e) + 3) 16 = ns + 1 := up_eq
    generalize hN6 : up (up N5 (128 * (12 * b + e) + 16) ns (c5 (128 * t + 17))) (128 * (12 * b + e) + 3) 16 (ns + 1) = N6 at *
    generalize up (up V5 (c5 (128 * (12 * b + e) + 16)) ns (c5 (128 * t + 17))) (c5 (128 * (12 * b + e) + 3)) 16 (ns + 1) = V6 at *
    have ts6 : TS c5 N6 M2' K P W E nt (j + 1 + 1) := ts2'.fr (fun L q => fc L (by unfold rdL at q; omega) (by unfold rdL at q; omega) (by unfold rdL at q; omega)) (fun L k q => by rw [n6 L k (by unfold rdR at q; omega) (by unfold rdR at q; omega), n5 L k (by unfold rdR at q; omega) (by unfold rdR at q; omega) (by unfold rdR at q; omega), nwl_ne (by unfold rdR at q; omega)]) (fun _ _ => rfl) (fun _ => rfl)
    exact sw_tail hc5 h5 h gf (by omega) (by omega) ht (by omega) (by omega) y50 fc hW6 (fun L k q0 q1 q2 q3 q4 q5 => by rw [n6 L k q5 q4, nn L k q0 q1 q2 q3]) n6b n6a ((n6 _ _ (by omega) (by omega)).trans ntg) ((n6 _ _ (by omega) (by omega)).trans k0) ((n6 _ _ (by omega) (by omega)).trans k1) ((n6 _ _ (by omega) (by omega)).trans k2) ((n6 _ _ (by omega) (by omega)).trans i1) ((n6 _ _ (by omega) (by omega)).trans i2) ((n6 _ _ (by omega) (by omega)).trans i3) ((n6 _ _ (by omega) (by omega)).trans i4) ((n6 _ _ (by omega) (by omega)).trans (nz 3 (by omega) (by omega))) ts6 m2 m229 m230 m218 nr.1 pre2 (fun V' M' gm' ow' eo' cs' j' ln' a1 a2 a3 a4 => hok c5 S5 V' M' gm' ow' eo' cs' j' ln' hc5 h5 y50.symm a1 a2 a3 a4) (fun V' M' a1 a2 a3 => hbad c5 S5 V' M' hc5 h5 a1 a2 a3)
  · have nw : 0 < M' 0 46 := fts.1
    refine hbad c S V' M' hc h0 (gf.tr (fun _ _ => rfl) (fun L k q => fN L k (fun y => q (Or.inr (Or.inl ⟨y.1, by omega, by omega⟩)))) (fun k i q => fM k i (fun y => q (Or.inl ⟨y.1, by omega⟩)))) fts (fun Qr hq => pre Qr ?_)
    unfold B_readSwitch_0
    rw [ls.g41]
    exact ⟨by omega, by omega, fun _ => rn1 _ (rt _ (rnn _ ⟨fun y => absurd nw (by omega), fun _ => hq⟩)), fun y => absurd (by omega) y⟩
end SWR
