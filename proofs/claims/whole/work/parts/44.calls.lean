/-! ===== into evaluation and back ===== -/
theorem Rt.cg {N N' gm : Mem} {b x p p' lv sl : Int} (h : Rt N gm b x p lv sl) (n : ∀ j, N' (128 * b + 21) j = N (128 * b + 21) j) (e : p' = p) : Rt N' gm b x p' lv sl := ⟨h.1, h.2.1.trans e.symm, h.2.2.1, (n _).trans h.2.2.2.1, h.2.2.2.2⟩
theorem BkR.frb {c : Int → Int} {b b' : Int} {N M N' M' : Mem} (h : BkR c N M b') (hne : b' ≠ b) (b0 : 0 ≤ b') (F : EvF b N M N' M') : BkR c N' M' b' := by
  have n : ∀ L j, bkL b' L → N' L j = N L j := fun L j q => F.1 L j (by unfold bkL at q; omega) (by unfold bkL at *; omega)
  have n62 : ∀ j, N' 62 j = N 62 j := fun j => F.1 62 j (by omega) (by unfold bkL; omega)
  have m : ∀ k j, ¬ dM b k j → M' k j = M k j := F.2.1
  have q := h.bk
  have ne1 := q.ne1
  have nt1 := q.nt1
  have nz1 := q.nz1
  have cl1 := q.cl1
  have m10 : ∀ j, M' 10 j = M 10 j := fun j => m _ _ (by unfold dM; omega)
  have m14 : ∀ j, M' 14 j = M 14 j := fun j => m _ _ (by unfold dM; omega)
  have m15 : ∀ j, M' 15 j = M 15 j := fun j => m _ _ (by unfold dM; omega)
  have m18 : ∀ j, M' 18 j = M 18 j := fun j => m _ _ (by unfold dM; omega)
  have hM : ∀ k j, 10 ≤ k ∧ k ≤ 39 → M' k j = M k j := fun k j q => m _ _ (by unfold dM; omega)
  have n21 : ∀ j, N' (128 * b' + 21) j = N (128 * b' + 21) j := fun j => n _ _ (by unfold bkL; omega)
  have n22 : ∀ j, N' (128 * b' + 22) j = N (128 * b' + 22) j := fun j => n _ _ (by unfold bkL; omega)
  have n20 : ∀ j, N' (128 * b' + 20) j = N (128 * b' + 20) j := fun j => n _ _ (by unfold bkL; omega)
  obtain ⟨gm, U, bn, bt, D⟩ := h.2.1
  refine ⟨⟨?_, fun e e0 e1 => ?_⟩, ⟨gm, U, ?_, fun e e0 e1 => ?_, ?_⟩, fun i i0 i1 => ?_⟩
  · apply Rbk.fr q <;> intros <;> first | rfl | exact n62 _ | exact n _ _ (by unfold bkL; omega) | exact m _ _ (by unfold dM; omega)
  · rw [m10] at e1
    have k := h.be e0 e1
    have nc1 := k.en.nc1
    have nt1 := k.en.nt1
    have nw1 := k.en.nw1
    refine ⟨?_, fun i i0 i1 => ?_, fun i i0 i1 => ?_, fun i i0 i1 => ?_⟩
    · apply Ren.fr k.en <;> intros <;> first | rfl | exact n _ _ (by unfold bkL; omega) | exact m _ _ (by unfold dM; omega) | exact funext fun _ => m _ _ (by unfold dM; omega)
    · rw [m14] at i1
      apply Rcn.fr (k.cn i0 i1) <;> intros <;> first | rfl | exact n _ _ (by unfold bkL; omega) | exact m _ _ (by unfold dM; omega) | exact funext fun _ => m _ _ (by unfold dM; omega)
    · rw [m15] at i1
      have w0 := k.tb i0 i1
      have w1 := w0.th1
      have w2 := w0.ne1
      apply Rtb.fr w0 <;> intros <;> first | rfl | exact n _ _ (by unfold bkL; omega) | exact m _ _ (by unfold dM; omega)
    · rw [m18] at i1
      apply Rsw.fr (k.sw i0 i1) <;> intros <;> first | rfl | exact n _ _ (by unfold bkL; omega) | exact m _ _ (by unfold dM; omega)
  · have hx : M' 0 40 = M 0 40 := m _ _ (by unfold dM; omega)
    unfold BkN LCn LCk at *
    simp (disch := omega) only [n20, n21, n22, hM, hx]
    exact bn
  · rw [m10] at e1
    have k := h.be e0 e1
    have nc1 := k.en.nc1
    have nt1 := k.en.nt1
    have nw1 := k.en.nw1
    have nk1 := k.en.nk1
    have nh1 := k.en.nh1
    have T := bt e e0 e1
    refine ⟨?_, ?_, ?_, ?_, ?_, ?_, ?_, ?_, ?_⟩
    · intro i i0 i1 q
      rw [hM _ _ (by omega)] at i1 q ⊢
      exact (T.ar i i0 i1 q).cg n21 (n _ _ (by unfold bkL; omega))
    · intro i a i0 i1 a0 a1 q
      rw [hM _ _ (by omega)] at i1 q ⊢
      exact (T.ob i a i0 i1 a0 a1 q).cg n21 (n _ _ (by unfold bkL; omega))
    · intro a a0 a1 q
      rw [hM _ _ (by omega)] at q ⊢
      exact (T.eb a a0 a1 q).cg n21 (n _ _ (by unfold bkL; omega))
    · intro t k' t0 t1 k0 k1
      rw [hM _ _ (by omega)] at t1 k1 ⊢
      exact (T.tb t k' t0 t1 k0 k1).cg n21 (n _ _ (by unfold bkL; omega))
    · intro k' k0 k1
      rw [hM _ _ (by omega)] at k1 ⊢
      exact (T.ck k' k0 k1).cg n21 (n _ _ (by unfold bkL; omega))
    · intro k' k0 k1
      rw [hM _ _ (by omega)] at k1 ⊢
      exact (T.ho k' k0 k1).cg n21 (n _ _ (by unfold bkL; omega))
    · intro s s0 s1
      rw [hM _ _ (by omega)] at s1 ⊢
      exact (T.el s s0 s1).cg n21 (n _ _ (by unfold bkL; omega))
    · intro s k' s0 s1 k0 k1
      rw [hM _ _ (by omega)] at s1 k1
      have y := T.ca s k' s0 s1 k0 k1
      have z : ∀ j, N' (128 * (3 * (12 * b' + e) + s) + 19) j = N (128 * (3 * (12 * b' + e) + s) + 19) j := fun j => n _ _ (by unfold bkL; omega)
      rw [z, n22, hM _ _ (by omega), hM _ _ (by omega)]
      exact ⟨y.1.cg n21 rfl, y.2⟩
    · intro s k' k2 s0 s1 k0 k1 k3
      rw [hM _ _ (by omega)] at s1 k3
      rw [hM _ _ (by omega), hM _ _ (by omega)]
      exact T.cd s k' k2 s0 s1 k0 k1 k3
  ·
    refine ⟨?_, ?_, ?_, ?_, ?_, ?_, ?_, ?_, ?_, ?_, ?_, ?_, ?_, ?_, ?_⟩
    · intro i i0 i1
      rw [m _ _ (by unfold dM; omega)]
      exact D.s0 i i0 i1
    · intro i i0 i1
      rw [m _ _ (by unfold dM; omega)]
      exact D.s3 i i0 i1
    · intro i i0 i1
      rw [m _ _ (by unfold dM; omega)]
      exact D.sz i i0 i1
    · rw [m _ _ (by unfold dM; omega)]
      refine D.sc.trans (cnt_congr 148 (fun i i0 i1 => ?_))
      rw [m _ _ (by unfold dM; omega)]
    · intro e e0 e1 hs
      rw [m10] at e1
      rw [m _ _ (by unfold dM; omega)] at hs
      rw [m _ _ (by unfold dM; omega), m _ _ (by unfold dM; omega)]
      exact D.wc e e0 e1 hs
    · intro e t e0 e1 hs t0 t1
      rw [m10] at e1
      have nt := (h.be e0 e1).en.nt1
      rw [m _ _ (by unfold dM; omega)] at hs t1
      rw [m _ _ (by unfold dM; omega), m _ _ (by unfold dM; omega)]
      exact D.wt e t e0 e1 hs t0 t1
    · intro e e0 e1 hs
      rw [m10] at e1
      rw [m _ _ (by unfold dM; omega)] at hs
      rw [m _ _ (by unfold dM; omega)]
      exact D.zc e e0 e1 hs
    · intro e t e0 e1 hs t0 t1
      rw [m10] at e1
      have nt := (h.be e0 e1).en.nt1
      rw [m _ _ (by unfold dM; omega)] at hs t1
      rw [m _ _ (by unfold dM; omega)]
      exact D.zt e t e0 e1 hs t0 t1
    · intro e i e0 e1 i0 i1
      rw [m10] at e1
      have nc := (h.be e0 e1).en.nc1
      have md := (h.be e0 e1).en.md1
      rw [m _ _ (by unfold dM; omega)] at i1
      rw [n _ _ (by unfold bkL; omega), m _ _ (by unfold dM; omega)]
      exact D.ar e i e0 e1 i0 i1
    · intro e i e0 e1 i0 i1 hs
      rw [m10] at e1
      have nc := (h.be e0 e1).en.nc1
      rw [m _ _ (by unfold dM; omega)] at i1 hs
      rw [n _ _ (by unfold bkL; omega)]
      exact D.an e i e0 e1 i0 i1 hs
    · intro e i e0 e1 i0 i1 hs
      rw [m10] at e1
      have nh := (h.be e0 e1).en.nh1
      rw [m _ _ (by unfold dM; omega)] at i1
      rw [m _ _ (by unfold dM; omega)] at hs
      rw [n _ _ (by unfold bkL; omega), m _ _ (by unfold dM; omega)]
      exact D.ho e i e0 e1 i0 i1 hs
    · exact D.ur
    · exact D.u
    · rw [n20, m _ _ (by unfold dM; omega)]
      exact D.uc
    · intro p p0 hs
      have := D.ur p p0
      rw [m _ _ (by unfold dM; omega)] at hs
      exact D.uz p p0 hs
  · rw [m _ _ (by unfold dM; omega)]
    exact h.2.2 i i0 i1
theorem Rel.ev {c : Int → Int} {b : Int} {N M N' M' gm : Mem} {U : Int → Int} (h : Rel c N M) (F : EvF b N M N' M') (E : EvI c N' M' gm U b) (nu : NU b M') : Rel c N' M' := by
  have m0 : ∀ j, j ≠ 9 → j ≠ 64 → j ≠ 65 → j ≠ 68 → M' 0 j = M 0 j := fun j a1 a2 a3 a4 => F.2.1 _ _ (by unfold dM; omega)
  have m : ∀ k j, k = 1 ∨ (69 ≤ k) ∨ (10 ≤ k ∧ k ≤ 39) → M' k j = M k j := fun k j q => F.2.1 _ _ (by unfold dM; omega)
  have n : ∀ L j, 40 ≤ L % 128 → N' L j = N L j := fun L j q => F.1 L j (by omega) (by unfold bkL; omega)
  refine ⟨?_, E.wk, ?_, fun s s0 s1 => ?_, fun s s0 s1 => ?_, fun s s0 s1 => ?_, fun s s0 s1 => ?_, fun s s0 s1 => ?_⟩
  · apply Rtop.fr h.top <;> intros <;> first | rfl | exact n _ _ (by omega) | exact m0 _ (by omega) (by omega) (by omega) (by omega) | exact m _ _ (by omega)
  · apply Rrd.fr h.rd <;> intros <;> first | rfl | exact n _ _ (by omega) | exact m0 _ (by omega) (by omega) (by omega) (by omega) | exact m _ _ (by omega)
  · rw [m0 _ (by omega) (by omega) (by omega) (by omega)] at s1
    apply Rst.fr (h.st s0 s1) <;> intros <;> first | rfl | exact n _ _ (by omega) | exact m0 _ (by omega) (by omega) (by omega) (by omega) | exact m _ _ (by omega)
  · rw [m0 _ (by omega) (by omega) (by omega) (by omega)] at s1
    apply Rmp.fr (h.mp s0 s1) <;> intros <;> first | rfl | exact n _ _ (by omega) | exact m0 _ (by omega) (by omega) (by omega) (by omega) | exact m _ _ (by omega)
  · rw [m0 _ (by omega) (by omega) (by omega) (by omega)] at s1
    apply Rdr.fr (h.dr s0 s1) <;> intros <;> first | rfl | exact n _ _ (by omega) | exact m0 _ (by omega) (by omega) (by omega) (by omega) | exact m _ _ (by omega)
  · rw [m0 _ (by omega) (by omega) (by omega) (by omega)] at s1
    apply Rms.fr (h.ms s0 s1) <;> intros <;> first | rfl | exact n _ _ (by omega) | exact m0 _ (by omega) (by omega) (by omega) (by omega) | exact m _ _ (by omega)
  · rw [m0 _ (by omega) (by omega) (by omega) (by omega)] at s1
    by_cases e : s = b
    · subst e
      exact ⟨E.bh, ⟨gm, U, E.bn, E.bt, E.bd⟩, nu⟩
    · exact (h.bk s0 s1).frb e s0 F

def nGo (N : Mem) (x : Int) : Mem := (up (up (up (up N (30) (0) (x)) (30) (1) (0)) (30) (3) (0)) (30) (5) (0))
theorem nGo_ne {N : Mem} {x L j : Int} (h : ¬ (L = 30 ∧ j = 0) ∧ ¬ (L = 30 ∧ j = 1) ∧ ¬ (L = 30 ∧ j = 3) ∧ ¬ (L = 30 ∧ j = 5)) : nGo N x L j = N L j := (up_ne (by omega)).trans ((up_ne (by omega)).trans ((up_ne (by omega)).trans (up_ne (by omega))))
theorem nGo_0 {N : Mem} {x : Int} : nGo N x (30) (0) = x := by unfold nGo; rw [up_ne (by omega), up_ne (by omega), up_ne (by omega), up_eq]
theorem nGo_1 {N : Mem} {x : Int} : nGo N x (30) (1) = 0 := by unfold nGo; rw [up_ne (by omega), up_ne (by omega), up_eq]
theorem nGo_2 {N : Mem} {x : Int} : nGo N x (30) (3) = 0 := by unfold nGo; rw [up_ne (by omega), up_eq]
theorem nGo_3 {N : Mem} {x : Int} : nGo N x (30) (5) = 0 := by unfold nGo; rw [up_eq]
def mGo (M : Mem) (b : Int) : Mem := (up (up (up M (0) (9) (b)) (0) (65) (0)) (0) (64) (0))
theorem mGo_ne {M : Mem} {b L j : Int} (h : ¬ (L = 0 ∧ j = 9) ∧ ¬ (L = 0 ∧ j = 65) ∧ ¬ (L = 0 ∧ j = 64)) : mGo M b L j = M L j := (up_ne (by omega)).trans ((up_ne (by omega)).trans (up_ne (by omega)))
theorem mGo_0 {M : Mem} {b : Int} : mGo M b (0) (9) = b := by unfold mGo; rw [up_ne (by omega), up_ne (by omega), up_eq]
theorem mGo_1 {M : Mem} {b : Int} : mGo M b (0) (65) = 0 := by unfold mGo; rw [up_ne (by omega), up_eq]
theorem mGo_2 {M : Mem} {b : Int} : mGo M b (0) (64) = 0 := by unfold mGo; rw [up_eq]
theorem Rel.ev0 {c : Int → Int} {b : Int} {N M : Mem} (h : Rel c N M) (b0 : 0 ≤ b) (b1 : b < M 0 8) : (∃ (gm : Mem) (U : Int → Int), EvI c (nGo N (c (128 * b + 1))) (mGo M b) gm U b) ∧ NU b (mGo M b) ∧ EvF b N M (nGo N (c (128 * b + 1))) (mGo M b) := by
  obtain ⟨bh, ⟨gm, U, bn, bt, bd⟩, nu⟩ := h.bk b0 b1
  have k := h.wk
  have b10 := h.top.nb1
  have hN : ∀ L j, L % 128 < 30 ∨ L = 62 → nGo N (c (128 * b + 1)) L j = N L j := fun L j q => nGo_ne (by omega)
  have hM : ∀ k j, bkk k → mGo M b k j = M k j := fun k j q => mGo_ne (by unfold bkk at q; omega)
  refine ⟨⟨gm, U, b0, by omega, ?_, bh.fr b0 hN (fun _ _ => rfl) hM, bn.fr (fun L j q => hN L j (Or.inl q)) hM (mGo_ne (by omega)), bt.fr (fun L j q => hN L j (Or.inl q)) hM, bd.fr (fun L j q => hN L j (Or.inl q)) hM, nGo_0, mGo_0, ?_, Or.inl mGo_1, ?_, ?_, ?_, fun j j0 j1 => ?_, ?_, ?_, fun q => ?_⟩, fun i i0 i1 => ?_, fun L j a q => nGo_ne (by omega), fun k j q => mGo_ne (by unfold dM at q; omega), fun j => nGo_ne (by omega)⟩
  · refine k.ch (fun L j _ _ _ => nGo_ne (by omega)) (nGo_ne (by omega)) (nGo_ne (by omega)) (nGo_ne (by omega)) (nGo_ne (by omega)) ?_ ?_ ?_ (fun j j0 j1 => ?_) (fun j j0 j1 => ?_)
    · rw [nGo_ne (by omega), mGo_ne (by omega)]; exact k.cc
    · rw [mGo_ne (by omega)]; exact k.cc0
    · rw [mGo_ne (by omega)]; exact k.cc1
    · rw [mGo_ne (by omega)] at j1
      rw [nGo_ne (by omega), mGo_ne (by omega)]; exact k.ck j j0 j1
    · rw [mGo_ne (by omega)] at j1
      rw [nGo_ne (by omega), mGo_ne (by omega)]; exact k.ci j j0 j1
  · rw [nGo_1, mGo_1]
  · rw [nGo_3, mGo_2]
  · rw [mGo_2]; decide
  · rw [mGo_2]; decide
  · rw [mGo_2] at j1
    omega
  · rw [nGo_2]; decide
  · rw [nGo_2]; decide
  · rw [mGo_1] at q
    omega
  · rw [mGo_ne (by omega)]
    exact nu i i0 i1
theorem call_gen {B : BT} {id : Nat} {cas : List AV} {as : List Int} (h : ∀ (l : Launch) (G : GT) (c : Int → Int) (S : Sh) (V M : Mem), Cn c S → Rel c (Wv c S V) M → ∃ mc1 ms1 : Nat, mc1 ≤ 1000 ∧ (ms1 : Int) ≤ 11100 + 4 * M 0 2 ∧ ∀ Q : Int → Sh → Mem → Prop, (∀ z c' S' V' M', RunM 2047 id as M z M' → Cn c' S' → c' 60 = c 60 → (∀ L, L = 80 ∨ L % 128 = 81 → c' L = c L ∧ ∀ j, Wv c' S' V' L j = Wv c S V L j) → Rel c' (Wv c' S' V') M' → (ms1 : Int) + 4 * M' 0 2 ≤ 11100 + 4 * M 0 2 → Q z S' V') → Ct l G B Q 2047 mc1 ms1 (vr (c 60) :: cas) S V) : CallOK CI B id cas as := by
  intro l G x m a S V M mr ci
  obtain ⟨c, hc, hx, hm, ha, hR⟩ := ci
  subst hx
  obtain ⟨mc1, ms1, q1, q2, q3⟩ := h l G c S V M hc hR
  have e1 : V (c 60) 1 = M 0 2 := hR.top.vtl
  refine ⟨mc1, ms1, q1, by omega, q3 _ (fun z c' S' V' M' hrun hc' e60 hL hR' ht => ?_)⟩
  have e3 : V' (c' 60) 1 = M' 0 2 := hR'.top.vtl
  rw [e60] at e3
  have key : ∀ L, L = 80 ∨ L % 128 = 81 → S'.1 (c L) = S.1 (c L) ∧ S'.2.1 (c L) = S.2.1 (c L) ∧ ∀ j, V' (c L) j = V (c L) j := by
    intro L q
    obtain ⟨k1, k2⟩ := hL L q
    have a1 := k2 (-1)
    have a2 := k2 (-2)
    rw [Wv_tag, Wv_tag, k1] at a1
    rw [Wv_len, Wv_len, k1] at a2
    refine ⟨a1, a2, fun j => ?_⟩
    by_cases q : j < 0
    · have := k2 (j - 2)
      rwa [Wv_neg q, Wv_neg q, k1] at this
    · have := k2 j
      rwa [Wv_el (by omega), Wv_el (by omega), k1] at this
  refine ⟨M', hrun, mr.lab hm ha (fun L q => ⟨(key L q).1, (key L q).2.1⟩) (fun L j q => (key L q).2.2 j), ⟨c', hc', e60, ?_, fun k hk => ?_, hR'⟩, by omega⟩
  · rw [(hL 80 (by omega)).1]; exact hm
  · rw [(hL _ (by omega)).1]; exact ha k hk

