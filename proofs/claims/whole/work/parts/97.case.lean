/-! ===== book: where an expr may begin; a case's step ===== -/
section BGN
variable {l : Launch} {G : GT} {c : Int → Int} {S : Sh} {V N M : Mem} {Q : Int → Sh → Mem → Prop} {d mc ms e : Nat} {K P W E : Int → Int} {nt j ln : Int}
def BGS (K : Int → Int) (j : Int) : Prop := K j = 2 ∨ K j = 45 ∨ K j = 40 ∨ K j = 14 ∨ K j = 3
theorem TS.bg1 (ts : TS c N M K P W E nt j) (h : BGS K j) (he : 10 ≤ e) : RunM e n_beginsExpr_0 [] M 1 M := by
  obtain ⟨e', rfl⟩ : ∃ e', e = e' + 1 := ⟨e - 1, by omega⟩
  have t := ts.t1
  have rk := (rkd_w t.rg).2.2.2.1
  intro Q hq
  refine st_beginsExpr_0 ⟨fun _ => hq, fun y => ?_⟩
  have k2 : K j ≠ 2 := fun z => y (by rw [t.k3, rk]; exact z)
  by_cases k45 : K j = 45
  · exact ts.sg1 (by decide) k45 (by omega) _ ⟨fun _ => hq, fun z => absurd (by decide) z⟩
  · refine ts.sg0 (by decide) k45 (by omega) _ ⟨fun z => absurd rfl z, fun _ => ?_⟩
    by_cases k40 : K j = 40
    · exact ts.sg1 (by decide) k40 (by omega) _ ⟨fun _ => hq, fun z => absurd (by decide) z⟩
    · refine ts.sg0 (by decide) k40 (by omega) _ ⟨fun z => absurd rfl z, fun _ => ?_⟩
      by_cases k14 : K j = 14
      · exact ts.wd1 10 (by decide) k14 (by omega) _ ⟨fun _ => hq, fun z => absurd (by decide) z⟩
      · refine ts.wd0 10 (by decide) k14 (by omega) _ ⟨fun z => absurd rfl z, fun _ => ?_⟩
        have k3 : K j = 3 := by unfold BGS at h; omega
        exact ts.nm1 k3 (by omega) _ ⟨fun z => absurd z (by decide), fun _ => hq⟩
theorem TS.bg0 (ts : TS c N M K P W E nt j) (h : ¬ BGS K j) (he : 10 ≤ e) : RunM e n_beginsExpr_0 [] M 0 M := by
  obtain ⟨e', rfl⟩ : ∃ e', e = e' + 1 := ⟨e - 1, by omega⟩
  have t := ts.t1
  have rk := (rkd_w t.rg).2.2.2.1
  unfold BGS at h
  intro Q hq
  exact st_beginsExpr_0 ⟨fun y => absurd (rk.1 (by rw [← t.k3]; exact y)) (by omega), fun _ => ts.sg0 (by decide) (by omega) (by omega) _ ⟨fun z => absurd rfl z, fun _ => ts.sg0 (by decide) (by omega) (by omega) _ ⟨fun z => absurd rfl z, fun _ => ts.wd0 10 (by decide) (by omega) (by omega) _ ⟨fun z => absurd rfl z, fun _ => ts.nm0 (by omega) (by omega) _ ⟨fun _ => hq, fun z => absurd rfl z⟩⟩⟩⟩⟩
/-- where none begins the class's readSum(0) fails by itself -/
theorem ct_nob (hc : Cn c S) (hW : Wv c S V = N) (ts : TS c N M K P W E nt j) (sv : N 50 5 = 0) (lv : N 120 2 = ln) (l0 : 0 ≤ ln) (l1 : ln < 3000) (nb : ¬ BGS K j) (hd : 3 ≤ d) (hk : ∀ V', fXn ln N (Wv c S V') → Wv c S V' 50 10 = (if K j = 0 then 1 else 2) → Wv c S V' 50 11 = P j → Q 0 S V') : Ct l G bX5_readSum Q d mc ms [vr (c 50), vi 0] S V := by
  unfold BGS at nb
  obtain ⟨ya, yb, yc, yd, ye, yf, yg⟩ := ts.x hW
  have p0 : ∀ (d1 : Nat) (V1 N1 : Mem), 1 ≤ d1 → Wv c S V1 = N1 → TS c N1 M K P W E nt j → fXn ln N N1 → CT l G bX5_pass d1 0 0 [vr (c 50), vi 0, vi 2] S V1 (fun z S' V' _ _ => (z = 0 ∨ z = 1) ∧ ((z ≠ 0 → False) ∧ (¬ (z ≠ 0) → Q 0 S' V'))) := fun d1 V1 N1 h1 hW1 ts1 f1 => CT.im h1 (fun d2 hd2 => ct_pass0 hc hW1 ts1 (fun V2 hW2 => ⟨Or.inl rfl, fun y => absurd rfl y, fun _ => hk V2 (by rw [hW2]; exact f1.tr fXn.ft (Int.le_refl _)) (by rw [hW2, nFt_10]) (by rw [hW2, nFt_11])⟩))
  have em : ∀ (d1 : Nat) (o : Int) (K' : Int → Sh → Mem → Nat → Nat → Prop), 1 ≤ d1 → (∀ V', Wv c S V' = nEm N ln o 0 → K' 0 S V' 0 0) → CT l G bX1_emit d1 0 0 [vr (c 120), vi o, vi 0] S V K' := fun d1 o K' h1 hk' => CT.im h1 (fun d2 hd2 => ct_emit hc hW ts.rd lv l0 l1 (fun V5 hW5 => hk' V5 hW5))
  have tag : ∀ (o : Int) (V' : Mem), Wv c S V' = nEm N ln o 0 → V' (c 50) 5 = 0 := fun o V' h => by rw [(Wr h).1 _ _ (by decide), nEm_ne (by omega)]; exact sv
  have fac : ∀ d1 : Nat, 2 ≤ d1 → Ct l G bX5_readFactor (fun z S' V' => (z ≠ 0 → False) ∧ (¬ (z ≠ 0) → Q 0 S' V')) d1 0 0 [vr (c 50), vi 0] S V := fun d1 h1 => by
    refine qX5_readFactor fun _ _ => vX5_readFactor_0 ⟨fun y => absurd y (by decide), fun _ => ?_⟩
    rw [ya, yb, yd]
    refine ⟨yf, fun k2 => absurd k2 (by omega), fun k2 => ⟨fun k3 => absurd k3 (by omega), fun k3 => ⟨fun k12 => ⟨yg, em d1 _ _ (by omega) (fun V' hW' => ?_)⟩, fun k12 => ⟨fun k13 => ⟨yg, em d1 _ _ (by omega) (fun V' hW' => ?_)⟩, fun k13 => ⟨fun k14 => absurd k14 (by omega), fun k14 => ⟨fun k15 => ⟨yg, em d1 _ _ (by omega) (fun V' hW' => ?_)⟩, fun k15 => ⟨fun k40 => absurd k40 (by omega), fun k40 => ⟨fun k45 => absurd k45 (by omega), fun k45 => p0 d1 V N (by omega) hW ts fXn.rf⟩⟩⟩⟩⟩⟩⟩⟩
    · rw [tag _ V' hW']
      exact ⟨yf, fun _ => p0 d1 V' _ (by omega) hW' (ts.em l0) fXn.em, fun y => absurd (by decide) y⟩
    · rw [tag _ V' hW']
      exact ⟨yf, fun _ => p0 d1 V' _ (by omega) hW' (ts.em l0) fXn.em, fun y => absurd (by decide) y⟩
    · rw [tag _ V' hW']
      exact ⟨yf, fun _ => p0 d1 V' _ (by omega) hW' (ts.em l0) fXn.em, fun y => absurd (by decide) y⟩
  refine qX5_readSum fun _ _ => vX5_readSum_0 (vX5_readSum_10 ⟨fun y => absurd y (by decide), fun _ => ⟨fun y => absurd y (by decide), fun _ => ⟨yf, CT.of (d - 1) 0 0 (fac (d - 1) (by omega)) (by omega) (Nat.zero_le _) (Nat.zero_le _) (fun z S' V' hq => ⟨fun y => (hq.1 y).elim, fun y => hq.2 y⟩)⟩⟩⟩)
end BGN
section CAS
variable {N N' M M' gm : Mem} {ow eo cs K P E : Int → Int} {nt b B X ln e F cb R t ci : Int}
/-- a case's step added -/
theorem WLD.cas (h : WLD N M gm ow eo cs K P E nt b B X ln e F cb) (G : GRW X ln R N M gm ow N' M' gm ow) (hr : rcn (N 121) ln.toNat = R) (o : N' 121 ln = 14) (a : N' 122 ln = t) (m48 : M' 48 R = -1 - ci) (m49 : M' 49 R = -1) (m50 : M' 50 R = nmv P E b t) (t0 : 0 ≤ t) (t1 : t < nt) (k3 : K t = 3) (c0 : 36 * (12 * b + e) ≤ ci) (c1 : ci < 36 * (12 * b + e) + 36) (cc : cb ≤ ci) : WLD N' M' gm ow (owU eo ln (ln + 1) e) (owU cs ln (ln + 1) ci) K P E nt b B X (ln + 1) e F (ci + 1) := by
  obtain ⟨h1, h2, h3, h4, h5, ⟨h6, h6', h6''⟩, h7, h8⟩ := id h
  have eq : ∀ p, p < ln → owU eo ln (ln + 1) e p = eo p := fun p q => owU_lt q
  have cq : ∀ p, p < ln → owU cs ln (ln + 1) ci p = cs p := fun p q => owU_lt q
  have ee : owU eo ln (ln + 1) e ln = e := owU_in (Int.le_refl _) (by omega)
  have ce : owU cs ln (ln + 1) ci ln = ci := owU_in (Int.le_refl _) (by omega)
  have rc : rcn (N' 121) ln.toNat = R := (rcn_cg _ (fun i a q => (G.1 i a (by omega)).1)).trans hr
  refine ⟨fun x x0 x1 => (h1 x x0 x1).fr x0 x1 G hr h8 (Int.le_refl _) (by omega) eq, fun p p0 p1 => ?_, fun p p' p0 p1 p2 o1 o2 => ?_, fun p p0 p1 o1 => ?_, h5, ⟨h6, by omega, fun p p0 p1 => ?_⟩, h7, by omega⟩
  · by_cases q : p = ln
    · subst q
      refine Or.inr (Or.inr ⟨o, ?_, ?_, ?_⟩)
      · rw [rc, ce, a]; exact ⟨m48, m49, m50⟩
      · rw [a]; exact ⟨t0, t1, k3⟩
      · rw [ee, ce]; exact ⟨c0, c1⟩
    · exact h.old G hr (Int.le_refl _) eq cq p p0 (by omega)
  · by_cases q : p' = ln
    · subst q
      rw [ce, cq p p1]
      rw [(G.1 p p0 p1).1] at o1
      have := h4 p p0 p1 o1
      omega
    · rw [cq p (by omega), cq p' (by omega)]
      rw [(G.1 p p0 (by omega)).1] at o1
      rw [(G.1 p' (by omega) (by omega)).1] at o2
      exact h3 p p' p0 p1 (by omega) o1 o2
  · by_cases q : p = ln
    · subst q; rw [ce]; omega
    · rw [cq p (by omega)]
      rw [(G.1 p p0 (by omega)).1] at o1
      have := h4 p p0 (by omega) o1
      omega
  · by_cases q : p = ln
    · rw [q]; exact ee
    · rw [eq p (by omega)]; exact h6'' p p0 (by omega)
end CAS
