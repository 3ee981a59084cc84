/-! ===== book: sums and products: the class's one loop against the reference's two ===== -/
def STQ (ee : Nat) (s e1 : Int) (Qr : Int → Mem → Prop) : Int → Mem → Prop := fun z' M' => if s = 0 then PM (ee + 2) n_readSum_5 [z'] M' Qr else ((M' 0 46 ≠ 0 → PM (ee + 2) n_readSum_5 [e1] M' Qr) ∧ (¬ (M' 0 46 ≠ 0) → PM (ee + 1) n_expression_0 [s - 5, e1, z'] M' (fun z13 M13 => PM (ee + 2) n_readSum_5 [z13] M13 Qr)))
def AFT (ee : Nat) (s e1 p e2 : Int) (Qr : Int → Mem → Prop) : Int → Mem → Prop := fun z M1 => if p = 0 then PM (ee + 1) n_readTerm_5 [z] M1 (STQ ee s e1 Qr) else ((M1 0 46 ≠ 0 → PM (ee + 1) n_readTerm_5 [e2] M1 (STQ ee s e1 Qr)) ∧ (¬ (M1 0 46 ≠ 0) → PM ee n_expression_0 [p - 5, e2, z] M1 (fun z13 M13 => PM (ee + 1) n_readTerm_5 [z13] M13 (STQ ee s e1 Qr))))
theorem stq_n {ee : Nat} {s e1 : Int} {Qr : Int → Mem → Prop} (h : s ≠ 0) : STQ ee s e1 Qr = fun z' M' => (M' 0 46 ≠ 0 → PM (ee + 2) n_readSum_5 [e1] M' Qr) ∧ (¬ (M' 0 46 ≠ 0) → PM (ee + 1) n_expression_0 [s - 5, e1, z'] M' (fun z13 M13 => PM (ee + 2) n_readSum_5 [z13] M13 Qr)) := by
  unfold STQ
  funext z' M'
  rw [if_neg h]
theorem aft_n {ee : Nat} {s e1 p e2 : Int} {Qr : Int → Mem → Prop} (h : p ≠ 0) : AFT ee s e1 p e2 Qr = fun z M1 => (M1 0 46 ≠ 0 → PM (ee + 1) n_readTerm_5 [e2] M1 (STQ ee s e1 Qr)) ∧ (¬ (M1 0 46 ≠ 0) → PM ee n_expression_0 [p - 5, e2, z] M1 (fun z13 M13 => PM (ee + 1) n_readTerm_5 [z13] M13 (STQ ee s e1 Qr))) := by
  unfold AFT
  funext z' M'
  rw [if_neg h]
theorem aft_p0 {ee : Nat} {s e1 e2 : Int} {Qr : Int → Mem → Prop} : AFT ee s e1 0 e2 Qr = fun z M1 => PM (ee + 1) n_readTerm_5 [z] M1 (STQ ee s e1 Qr) := by
  unfold AFT
  funext z' M'
  rw [if_pos rfl]
theorem aft_bad {ee : Nat} {s e1 p e2 z : Int} {M1 : Mem} (w : 0 < M1 0 46) : ∃ z', ∀ Qr : Int → Mem → Prop, Qr z' M1 → AFT ee s e1 p e2 Qr z M1 := by
  have hw : M1 0 46 ≠ 0 := by omega
  have sm : ∀ (v : Int) (Qr : Int → Mem → Prop), Qr v M1 → PM (ee + 2) n_readSum_5 [v] M1 Qr := fun v Qr q => st_readSum_5 ⟨fun _ => q, fun y => absurd hw y⟩
  have tm : ∀ (v : Int) (Qr : Int → Mem → Prop), Qr v M1 → PM (ee + 1) n_readTerm_5 [v] M1 Qr := fun v Qr q => st_readTerm_5 ⟨fun _ => q, fun y => absurd hw y⟩
  have sq : ∃ f : Int → Int, ∀ (v : Int) (Qr : Int → Mem → Prop), Qr (f v) M1 → STQ ee s e1 Qr v M1 := by
    by_cases y : s = 0
    · exact ⟨fun v => v, fun v Qr q => by unfold STQ; rw [if_pos y]; exact sm v Qr q⟩
    · exact ⟨fun _ => e1, fun v Qr q => by rw [stq_n y]; exact ⟨fun _ => sm e1 Qr q, fun z => absurd hw z⟩⟩
  obtain ⟨f, hf⟩ := sq
  by_cases y : p = 0
  · exact ⟨f z, fun Qr q => by unfold AFT; rw [if_pos y]; exact tm z _ (hf z Qr q)⟩
  · exact ⟨f e2, fun Qr q => by rw [aft_n y]; exact ⟨fun _ => tm e2 _ (hf e2 Qr q), fun z => absurd hw z⟩⟩
section RTM
variable {c : Int → Int} {N M M' : Mem} {K P W E : Int → Int} {nt j w p : Int} {ee : Nat} {QT : Int → Mem → Prop}
theorem tm_out (ts : TS c N M K P W E nt j) (w0 : M 0 46 = 0) (k1 : K j ≠ 42) (k2 : K j ≠ 47) (he : 2 ≤ ee) (hq : QT w M) : PM (ee + 1) n_readTerm_5 [w] M QT :=
  st_readTerm_5 ⟨fun y => absurd w0 y, fun _ => ts.sg0 (by decide) k1 he _ ⟨fun y => absurd rfl y, fun _ => ts.sg0 (by decide) k2 he _ ⟨fun _ => hq, fun y => absurd rfl y⟩⟩⟩
theorem tm_in (ts : TS c N M K P W E nt j) (w0 : M 0 46 = 0) (k : p = 9 ∧ K j = 42 ∨ p = 10 ∧ K j = 47) (he : 2 ≤ ee) (rn : RunM ee n_next_0 [] M 0 M') (hq : PM ee n_readFactor_0 [] M' (fun z M1 => (M1 0 46 ≠ 0 → PM (ee + 1) n_readTerm_5 [w] M1 QT) ∧ (¬ (M1 0 46 ≠ 0) → PM ee n_expression_0 [p - 5, w, z] M1 (fun z13 M13 => PM (ee + 1) n_readTerm_5 [z13] M13 QT)))) : PM (ee + 1) n_readTerm_5 [w] M QT := by
  rcases k with ⟨rfl, k⟩ | ⟨rfl, k⟩
  · exact st_readTerm_5 ⟨fun y => absurd w0 y, fun _ => ts.sg1 (by decide) k he _ ⟨fun _ => ts.sg1 (by decide) k he _ ⟨fun y => absurd y (by decide), fun _ => rn _ hq⟩, fun y => absurd (by decide) y⟩⟩
  · exact st_readTerm_5 ⟨fun y => absurd w0 y, fun _ => ts.sg0 (by decide) (by omega) he _ ⟨fun y => absurd rfl y, fun _ => ts.sg1 (by decide) k he _ ⟨fun y => absurd y (by decide), fun _ => ts.sg0 (by decide) (by omega) he _ ⟨fun _ => rn _ hq, fun y => absurd rfl y⟩⟩⟩⟩
theorem sm_out (ts : TS c N M K P W E nt j) (w0 : M 0 46 = 0) (k1 : K j ≠ 43) (k2 : K j ≠ 45) (he : 2 ≤ ee) (hq : QT w M) : PM (ee + 1) n_readSum_5 [w] M QT :=
  st_readSum_5 ⟨fun y => absurd w0 y, fun _ => ts.sg0 (by decide) k1 he _ ⟨fun y => absurd rfl y, fun _ => ts.sg0 (by decide) k2 he _ ⟨fun _ => hq, fun y => absurd rfl y⟩⟩⟩
theorem sm_in (ts : TS c N M K P W E nt j) (w0 : M 0 46 = 0) (k : p = 7 ∧ K j = 43 ∨ p = 8 ∧ K j = 45) (he : 2 ≤ ee) (rn : RunM ee n_next_0 [] M 0 M') (hq : PM ee n_readTerm_0 [] M' (fun z M1 => (M1 0 46 ≠ 0 → PM (ee + 1) n_readSum_5 [w] M1 QT) ∧ (¬ (M1 0 46 ≠ 0) → PM ee n_expression_0 [p - 5, w, z] M1 (fun z13 M13 => PM (ee + 1) n_readSum_5 [z13] M13 QT)))) : PM (ee + 1) n_readSum_5 [w] M QT := by
  rcases k with ⟨rfl, k⟩ | ⟨rfl, k⟩
  · exact st_readSum_5 ⟨fun y => absurd w0 y, fun _ => ts.sg1 (by decide) k he _ ⟨fun _ => ts.sg1 (by decide) k he _ ⟨fun y => absurd y (by decide), fun _ => rn _ hq⟩, fun y => absurd (by decide) y⟩⟩
  · exact st_readSum_5 ⟨fun y => absurd w0 y, fun _ => ts.sg0 (by decide) (by omega) he _ ⟨fun y => absurd rfl y, fun _ => ts.sg1 (by decide) k he _ ⟨fun y => absurd y (by decide), fun _ => ts.sg0 (by decide) (by omega) he _ ⟨fun _ => rn _ hq, fun y => absurd rfl y⟩⟩⟩⟩
end RTM
section OFS
variable {l : Launch} {G : GT} {S : Sh} {V : Mem} {Q : Int → Sh → Mem → Prop} {d mc ms : Nat} {k : Int}
theorem ct_ofp (h : ∀ z, (z = 9 ∧ k = 42 ∨ z = 10 ∧ k = 47) ∨ (z = 0 ∧ k ≠ 42 ∧ k ≠ 47) → Q z S V) : Ct l G bX1_ofProduct Q d mc ms [vi k] S V := qX1_ofProduct fun _ => vX1_ofProduct_0 ⟨fun a => ⟨fun q => h 0 (by omega), fun q => h 10 (by omega)⟩, fun a => h 9 (by omega)⟩
theorem ct_ofs (h : ∀ z, (z = 7 ∧ k = 43 ∨ z = 8 ∧ k = 45) ∨ (z = 0 ∧ k ≠ 43 ∧ k ≠ 45) → Q z S V) : Ct l G bX1_ofSum Q d mc ms [vi k] S V := qX1_ofSum fun _ => vX1_ofSum_0 ⟨fun a => ⟨fun q => h 0 (by omega), fun q => h 8 (by omega)⟩, fun a => h 7 (by omega)⟩
end OFS
theorem TRE.ps {N M M' gm : Mem} {K P E : Int → Int} {nt b g st X X' L L' u v w : Int} (h : TRE N M gm K P E nt b g st X X' L L') (L0 : 0 ≤ L) (lx : Lxs M M') : TRE (nPs N u v w) M' gm K P E nt b g st X X' L L' := h.fr L0 (fun i _ _ => ⟨nPs_ne (by omega), nPs_ne (by omega)⟩) (fun k y _ _ _ _ _ => lx _ _ (by omega)) (fun x _ _ _ _ => lx _ _ (by omega)) (fun k i _ _ _ => lx _ _ (by omega)) (fun _ _ _ _ _ _ => rfl)
/-- a root, ready to be a left operand under height h -/
def RTq (M gm : Mem) (X X' L L' h x : Int) : Prop := X ≤ x ∧ x < X' ∧ gm 1 x = L ∧ gm 2 x = L' ∧ (gm 3 x + 1 ≤ h ∨ (gm 3 x ≤ h ∧ 2 ≤ M 35 x ∧ M 35 x ≤ 5))
section SUM
variable {l : Launch} {G : GT} {c : Int → Int} {S : Sh} {Q : Int → Sh → Mem → Prop} {d mc ms ee : Nat} {K P W E : Int → Int} {nt b g st B n j0 L0 : Int} {N0 M0 gm0 : Mem} {Xq : (Int → Mem → Prop) → Prop}
set_option maxHeartbeats 1000000 in
theorem sum_loop (hc : Cn c S) (cn : CN b B st) (n0 : 0 ≤ n) (n1 : n ≤ 12) (hd : 3 ≤ d) (he : 8 ≤ ee) (x00 : 0 ≤ M0 0 40) (l00 : 0 ≤ L0) (j00 : 0 ≤ j0)
    (hfac : ∀ (Q1 : Int → Sh → Mem → Prop) (V N M gm : Mem) (j ln : Int), Wv c S V = N → XS c N M K P W E nt b g st B n j ln → (∀ V' M' gm' x j' ln', XR c N M gm K P W E nt b g st B n j ln (3 * (12 - n) + 1) (Wv c S V') M' gm' x j' ln' → RunM ee n_readFactor_0 [] M x M' → Q1 1 S V') → (∀ V' M' z, XF ln n N M (Wv c S V') M' → RunM ee n_readFactor_0 [] M z M' → Q1 0 S V') → Ct l G bX5_readFactor Q1 (d - 1) 0 0 [vr (c 50), vi n] S V)
    (hbad : ∀ V' M' z, XF L0 n N0 M0 (Wv c S V') M' → (∀ Qr : Int → Mem → Prop, Qr z M' → Xq Qr) → Q 0 S V')
    (hx : ∀ V' M' gm' x j' ln' x2 x3 x5, XR c N0 M0 gm0 K P W E nt b g st B n j0 L0 (3 * (12 - n) + 3) (Wv c S V') M' gm' x j' ln' → (∀ Qr : Int → Mem → Prop, Qr x M' → Xq Qr) → XJ l G bX5_readSum Q d 10 [vr (c 50), vi n, vi x2, vi x3, vi 0, vi x5] [] S V' mc ms) :
    ∀ (r : Nat) (x5 j ln s p e1 e2 Xa a us up' : Int) (V N M gm : Mem), nt - j = r → Wv c S V = N → XS c N M K P W E nt b g st B n j ln → fXn L0 N0 N → fXm (M0 0 40) (M0 0 51) M0 M → (∀ k y, y < M0 0 40 → gm k y = gm0 k y) →
      ((s = 0 ∧ us = 0 ∧ Xa = M0 0 40 ∧ a = L0) ∨ ((s = 7 ∨ s = 8) ∧ us = 1 ∧ TRE N M gm K P E nt b g st (M0 0 40) Xa L0 a ∧ RTq M gm (M0 0 40) Xa L0 a (3 * (12 - n) + 3) e1)) →
      ((p = 0 ∧ up' = 0 ∧ ln = a ∧ M 0 40 = Xa) ∨ ((p = 9 ∨ p = 10) ∧ up' = 1 ∧ TRE N M gm K P E nt b g st Xa (M 0 40) a ln ∧ RTq M gm Xa (M 0 40) a ln (3 * (12 - n) + 2) e2)) →
      ln - L0 + us + up' ≤ j - j0 → M 0 40 - M0 0 40 + us + up' ≤ j - j0 → 0 ≤ x5 → 2 * x5 ≤ j - j0 → M0 0 51 ≤ M 0 51 → ln + us + up' ≤ j → M 0 40 + us + up' ≤ B + j →
      (∀ Qr : Int → Mem → Prop, PM ee n_readFactor_0 [] M (AFT ee s e1 p e2 Qr) → Xq Qr) → XJ l G bX5_readSum Q d 10 [vr (c 50), vi n, vi s, vi p, vi 1, vi x5] [] S V mc ms := by
  intro r
  induction r using Nat.strongRecOn with
  | ind r ih =>
  intro x5 j ln s p e1 e2 Xa a us up' V N M gm hr hW xs fn fm gf hs hp sl sl2 x50 x51 r51 slj slx rch
  have ntb := xs.ts.ntb
  have j1 := xs.ts.j1
  have cb := cn
  unfold CN at cb
  have hs' : us = 0 ∧ Xa = M0 0 40 ∧ a = L0 ∨ us = 1 ∧ M0 0 40 < Xa ∧ L0 < a := by
    rcases hs with ⟨_, q1, q2, q3⟩ | ⟨_, q1, q2, q3⟩
    · exact Or.inl ⟨q1, q2, q3⟩
    · have := (q2.1 e1 q3.1 q3.2.1).1
      have := q3
      unfold RTq at this
      omega
  have hp' : up' = 0 ∧ ln = a ∧ M 0 40 = Xa ∨ up' = 1 ∧ Xa < M 0 40 ∧ a < ln := by
    rcases hp with ⟨_, q1, q2, q3⟩ | ⟨_, q1, q2, q3⟩
    · exact Or.inl ⟨q1, q2, q3⟩
    · have := (q2.1 e2 q3.1 q3.2.1).1
      have := q3
      unfold RTq at this
      omega
  obtain ⟨xa, xb, xcc, xd, xe, xf', xg⟩ := xs.ts.x hW
  -- behind the sum so far
  have fin : ∀ (V3 N3 M3 gm3 : Mem) (w j1 l3 : Int), j < j1 → Wv c S V3 = N3 → XS c N3 M3 K P W E nt b g st B n j1 l3 → fXn L0 N0 N3 → fXm (M0 0 40) (M0 0 51) M0 M3 → (∀ k y, y < M0 0 40 → gm3 k y = gm0 k y) → TRE N3 M3 gm3 K P E nt b g st (M0 0 40) (M3 0 40) L0 l3 → RTq M3 gm3 (M0 0 40) (M3 0 40) L0 l3 (3 * (12 - n) + 3) w → l3 - L0 ≤ j1 - j0 → M3 0 40 - M0 0 40 ≤ j1 - j0 → M0 0 51 ≤ M3 0 51 → K j1 ≠ 42 → K j1 ≠ 47 → (∀ Qr : Int → Mem → Prop, PM (ee + 2) n_readSum_5 [w] M3 Qr → Xq Qr) → CT l G bX1_ofSum d mc ms [vi (V3 (c 50) 7)] S V3 (fun z17 S17 V17 mc17 ms17 => XJ l G bX5_readSum Q d 79 [vr (c 50), vi n, vi z17, vi 0, vi 1, vi x5] [] S17 V17 mc17 ms17) := by
    intro V3 N3 M3 gm3 w j1 l3 jj hW3 xs3 fn3 fm3 gf3 T3 R3 s3 s4 r3 k1 k2 rc3
    obtain ⟨ya, yb, yc, yd, ye, yf, yg⟩ := xs3.ts.x hW3
    have l3j := xs3.lj
    have x3j := xs3.x1
    have j13 := xs3.ts.j1
    rw [ya]
    refine CT.pu (by omega) (fun d1 hd1 => ct_ofs (fun z hz => ⟨rfl, rfl, vX5_readSum_79 ⟨fun y => absurd rfl y, fun _ => ⟨fun y => ⟨by omega, by omega, ?_⟩, fun y => ⟨yf, CT.im (by omega) (fun d2 hd2 => ct_pass (e := ee + 1) hc hW3 xs3.ts (by omega) (by omega) (by omega) (fun V4 M4 hW4 ts4 lx4 rn4 => ⟨fun q => absurd q (by decide), fun _ => ⟨by omega, by omega, ?_⟩⟩))⟩⟩⟩⟩))
    · have t0 := (T3.1 w R3.1 R3.2.1).1
      have := R3
      unfold RTq at this
      refine hx V3 M3 gm3 w j1 l3 _ _ _ ⟨by rw [hW3]; exact xs3, by rw [hW3]; exact fn3, fm3, gf3, by rw [hW3]; exact T3, ⟨R3.1, R3.2.1, R3.2.2.1, R3.2.2.2.1, by omega⟩, ⟨by omega, by omega, by omega, by omega, by omega⟩⟩ (fun Qr hq => rc3 Qr (sm_out (ee := ee + 1) xs3.ts xs3.w (by omega) (by omega) (by omega) hq))
    · have lt := xs3.ts.lt (show K j1 ≠ 1 by omega)
      have u40 : M4 0 40 = M3 0 40 := lx4 _ _ (by omega)
      have u51 : M4 0 51 = M3 0 51 := lx4 _ _ (by omega)
      refine ih (nt - (j1 + 1)).toNat (by omega) (x5 + 1) (j1 + 1) l3 z 0 w 0 (M3 0 40) l3 1 0 V4 _ M4 gm3 (by omega) hW4 (xs3.ps (lxs_ne lx4 xs3.nv) ts4) (fn3.tr fXn.ps (Int.le_refl _)) (fm3.tr (fXm.lx (X := M0 0 40) (R := M0 0 51) lx4) (Int.le_refl _) (Int.le_refl _)) gf3 (Or.inr ⟨by omega, rfl, T3.ps l00 lx4, ?_⟩) (Or.inl ⟨rfl, rfl, rfl, u40⟩) (by omega) (by rw [u40]; omega) (by omega) (by omega) (by rw [u51]; exact r3) (by omega) (by rw [u40]; omega) (fun Qr hq => rc3 Qr (sm_in (p := z) xs3.ts xs3.w (by omega) (by omega) rn4 (st_readTerm_0 ?_)))
      · obtain ⟨a1, a2, a3, a4, a5⟩ := R3
        exact ⟨a1, a2, a3, a4, by rw [lx4 35 w (by omega)]; exact a5⟩
      · rw [aft_p0, stq_n (by omega)] at hq
        exact hq
  -- behind a product
  have mid : ∀ (V2 N2 M2 gm2 : Mem) (w j1 l2 : Int), j < j1 → Wv c S V2 = N2 → XS c N2 M2 K P W E nt b g st B n j1 l2 → fXn L0 N0 N2 → fXm (M0 0 40) (M0 0 51) M0 M2 → (∀ k y, y < M0 0 40 → gm2 k y = gm0 k y) → (s ≠ 0 → TRE N2 M2 gm2 K P E nt b g st (M0 0 40) Xa L0 a ∧ RTq M2 gm2 (M0 0 40) Xa L0 a (3 * (12 - n) + 3) e1) → TRE N2 M2 gm2 K P E nt b g st Xa (M2 0 40) a l2 → RTq M2 gm2 Xa (M2 0 40) a l2 (3 * (12 - n) + 2) w → l2 - L0 + us ≤ j1 - j0 → M2 0 40 - M0 0 40 + us ≤ j1 - j0 → M0 0 51 ≤ M2 0 51 → l2 + us ≤ j1 → M2 0 40 + us ≤ B + j1 → (∀ Qr : Int → Mem → Prop, PM (ee + 1) n_readTerm_5 [w] M2 (STQ ee s e1 Qr) → Xq Qr) → CT l G bX1_ofProduct d mc ms [vi (V2 (c 50) 7)] S V2 (fun z13 S13 V13 mc13 ms13 => (z13 ≠ 0 → XJ l G bX5_readSum Q d 79 [vr (c 50), vi n, vi s, vi z13, vi 1, vi x5] [] S13 V13 mc13 ms13) ∧ (¬ (z13 ≠ 0) → (s = 0 → S13.1 (c 50) = 6 ∧ CT l G bX1_ofSum d mc13 ms13 [vi (V13 (c 50) 7)] S13 V13 (fun z17 S17 V17 mc17 ms17 => XJ l G bX5_readSum Q d 79 [vr (c 50), vi n, vi z17, vi z13, vi 1, vi x5] [] S17 V17 mc17 ms17)) ∧ (¬ (s = 0) → S13.1 (c 50) = 6 ∧ S13.1 (V13 (c 50) 1) = 2 ∧ CT l G bX1_emit d mc13 ms13 [vr (V13 (c 50) 1), vi s, vi 0] S13 V13 (fun z19 S19 V19 mc19 ms19 => S19.1 (c 50) = 6 ∧ CT l G bX1_ofSum d mc19 ms19 [vi (V19 (c 50) 7)] S19 V19 (fun z21 S21 V21 mc21 ms21 => XJ l G bX5_readSum Q d 79 [vr (c 50), vi n, vi z21, vi z13, vi 1, vi x5] [] S21 V21 mc21 ms21))))) := by
    intro V2 N2 M2 gm2 w j1 l2 jj hW2 xs2 fn2 fm2 gf2 hT1 T2 R2 s2 s2' r2 s2j s2x rc2
    obtain ⟨ya, yb, yc, yd, ye, yf, yg⟩ := xs2.ts.x hW2
    have j12 := xs2.ts.j1
    have nt2 := xs2.ts.ntb
    have t0 := (T2.1 w R2.1 R2.2.1).1
    have R2' := R2
    unfold RTq at R2'
    rw [ya]
    refine CT.pu (by omega) (fun d1 hd1 => ct_ofp (fun z hz => ⟨rfl, rfl, fun zn => vX5_readSum_79 ⟨fun _ => ⟨yf, CT.im (by omega) (fun d2 hd2 => ct_pass (e := ee) hc hW2 xs2.ts (by omega) (by omega) (by omega) (fun V4 M4 hW4 ts4 lx4 rn4 => ⟨fun q => absurd q (by decide), fun _ => ⟨by omega, by omega, ?_⟩⟩))⟩, fun y => absurd zn y⟩, fun zn => ?_⟩))
    · have lt := xs2.ts.lt (show K j1 ≠ 1 by omega)
      have u40 : M4 0 40 = M2 0 40 := lx4 _ _ (by omega)
      have u51 : M4 0 51 = M2 0 51 := lx4 _ _ (by omega)
      refine ih (nt - (j1 + 1)).toNat (by omega) (x5 + 1) (j1 + 1) l2 s z e1 w Xa a us 1 V4 _ M4 gm2 (by omega) hW4 (xs2.ps (lxs_ne lx4 xs2.nv) ts4) (fn2.tr fXn.ps (Int.le_refl _)) (fm2.tr (fXm.lx (X := M0 0 40) (R := M0 0 51) lx4) (Int.le_refl _) (Int.le_refl _)) gf2 ?_ (Or.inr ⟨by omega, rfl, by rw [u40]; exact T2.ps (by omega) lx4, ?_⟩) (by omega) (by rw [u40]; omega) (by omega) (by omega) (by rw [u51]; exact r2) (by omega) (by rw [u40]; omega) (fun Qr hq => rc2 Qr (tm_in (p := z) xs2.ts xs2.w (by omega) (by omega) rn4 (by rw [aft_n (by omega)] at hq; exact hq)))
      · by_cases y : s = 0
        · rcases hs with ⟨q0, q1, q2, q3⟩ | ⟨q0, _⟩
          · exact Or.inl ⟨q0, q1, q2, q3⟩
          · omega
        · rcases hs with ⟨q0, _⟩ | ⟨q0, q1, _⟩
          · omega
          · obtain ⟨t1, t2⟩ := hT1 y
            obtain ⟨a1, a2, a3, a4, a5⟩ := t2
            exact Or.inr ⟨q0, q1, t1.ps l00 lx4, a1, a2, a3, a4, by rw [lx4 35 e1 (by omega)]; exact a5⟩
      · obtain ⟨a1, a2, a3, a4, a5⟩ := R2
        exact ⟨a1, by rw [u40]; exact a2, a3, a4, by rw [lx4 35 w (by omega)]; exact a5⟩
    · have z0 : z = 0 := Classical.not_not.1 zn
      subst z0
      refine ⟨fun y => ⟨yf, ?_⟩, fun y => ⟨yf, by rw [yd]; exact yg, ?_⟩⟩
      · obtain ⟨q1, q2, q3⟩ : us = 0 ∧ Xa = M0 0 40 ∧ a = L0 := by
          rcases hs with ⟨_, q⟩ | ⟨q, _⟩
          · exact q
          · omega
        subst q2 q3
        refine fin V2 N2 M2 gm2 w j1 l2 jj hW2 xs2 fn2 fm2 gf2 T2 ⟨R2.1, R2.2.1, R2.2.2.1, R2.2.2.2.1, by omega⟩ (by omega) (by omega) r2 (by omega) (by omega) (fun Qr hq => rc2 Qr (tm_out xs2.ts xs2.w (by omega) (by omega) (by omega) ?_))
        unfold STQ
        rw [if_pos y]
        exact hq
      · obtain ⟨q0, q1⟩ : (s = 7 ∨ s = 8) ∧ us = 1 := by
          rcases hs with ⟨q, _⟩ | ⟨q, q1, _⟩
          · omega
          · exact ⟨q, q1⟩
        obtain ⟨T1, R1⟩ := hT1 y
        have R1' := R1
        unfold RTq at R1'
        have hl0 := xs2.l0
        have u1 := (T1.1 e1 R1.1 R1.2.1).1
        obtain ⟨xs3, T3, fm3⟩ := xs2.bin (e1 := e1) (h := 3 * (12 - n) + 3) (o := s) cn (by omega) T1 T2 (by omega) (show Xa ≤ w ∧ w < M2 0 40 ∧ gm2 1 w = a ∧ gm2 2 w = l2 ∧ gm2 3 w + 1 ≤ 3 * (12 - n) + 3 by omega) x00 l00 (by omega) (by omega) (by omega)
        rw [yd]
        refine CT.im (by omega) (fun d2 hd2 => ct_emit hc hW2 xs2.ts.rd xs2.l hl0 (by omega) (fun V5 hW5 => ?_))
        have z5 := xs3.ts.x hW5
        have m40 : mEx M2 (s - 5) e1 w 0 40 = M2 0 40 + 1 := mEx_40
        have m51 : mEx M2 (s - 5) e1 w 0 51 = M2 0 51 := mEx_ne (by omega)
        refine ⟨z5.2.2.2.2.2.1, fin V5 _ (mEx M2 (s - 5) e1 w) (gmU gm2 (M2 0 40) L0 (l2 + 1) (3 * (12 - n) + 3) st) (M2 0 40) j1 (l2 + 1) jj hW5 xs3 (fn2.tr fXn.em (by omega)) (fm2.tr fm3 (Int.le_refl _) r2) (fun k y q => (gmU_ne (by omega)).trans (gf2 k y q)) (by rw [m40]; exact T3) ⟨by omega, by rw [m40]; omega, gmU_1, gmU_2, Or.inr ⟨by rw [gmU_3]; omega, by rw [mEx_35]; omega, by rw [mEx_35]; omega⟩⟩ (by omega) (by rw [m40]; omega) (by rw [m51]; exact r2) (by omega) (by omega) (fun Qr hq => rc2 Qr (tm_out xs2.ts xs2.w (by omega) (by omega) (by omega) ?_))⟩
        rw [stq_n y]
        refine ⟨fun q => absurd xs2.w q, fun _ => rn_ex (e := ee + 1) xs2.x0 (by have := xs2.x1; omega) (fun _ => ⟨by omega, by have := xs2.x1; omega⟩) (by omega) _ hq⟩
  refine vX5_readSum_10 ⟨fun y => absurd y (by omega), fun _ => ⟨fun y => absurd y (by decide), fun _ => ⟨xf', CT.im (by omega) (fun d1 hd1 => ?_)⟩⟩⟩
  obtain rfl : d1 = d - 1 := by omega
  refine hfac _ V N M gm j ln hW xs (fun V1 M1 gm1 x j1 l1 xr run => ⟨fun _ => ?_, fun y => absurd (by decide) y⟩) (fun V1 M1 z xf run => ⟨fun y => absurd rfl y, fun _ => ?_⟩)
  · obtain ⟨xs1, fn1, fm1, gf1, T, ⟨rx0, rx1, rx2, rx3, rx4⟩, ⟨b1, b2, b3, b4, b5⟩⟩ := xr
    obtain ⟨ya, yb, yc, yd, ye, yf, yg⟩ := xs1.ts.x rfl
    have fnn := fn.tr fn1 (show L0 ≤ ln by omega)
    have fmm := fm.tr fm1 (show M0 0 40 ≤ M 0 40 by omega) r51
    have gff : ∀ k y, y < M0 0 40 → gm1 k y = gm0 k y := fun k y q => (gf1 k y (by omega)).trans (gf k y q)
    have m51 : M 0 51 ≤ M1 0 51 := by
      rw [← xs.r, ← xs1.r, rcn_cg (f := N 121) (g := Wv c S V1 121) ln.toNat (fun k a q => (fn1 121 k (by omega) (by omega) (by omega)).symm)]
      exact rcn_le _ _ (by omega)
    have tr1 : ∀ X X' L L', TRE N M gm K P E nt b g st X X' L L' → 0 ≤ L → L' ≤ ln → X' ≤ M 0 40 → TRE (Wv c S V1) M1 gm1 K P E nt b g st X X' L L' := fun X X' L L' h q1 q2 q3 => h.fr q1 (fun i i0 i1 => ⟨fn1 121 i (by omega) (by omega) (by omega), fn1 122 i (by omega) (by omega) (by omega)⟩) (fun k y k1 k2 k3 y0 y1 => fm1 k y (by omega) (by omega) (by omega)) (fun y y0 y1 k1 k2 => by
      have pk := (h.1 y y0 y1).2.2.2.2
      unfold PCk at pk
      exact fm1 _ _ (by omega) (by omega) (by omega)) (fun k i k1 k2 i1 => by
      have := rcn_le (f := N 121) L'.toNat ln.toNat (by omega)
      have := xs.r
      exact fm1 k i (by omega) (by omega) (by omega)) (fun k y _ _ _ y1 => gf1 k y (by omega))
    have hT1 : s ≠ 0 → TRE (Wv c S V1) M1 gm1 K P E nt b g st (M0 0 40) Xa L0 a ∧ RTq M1 gm1 (M0 0 40) Xa L0 a (3 * (12 - n) + 3) e1 := fun y => by
      rcases hs with ⟨q, _⟩ | ⟨q0, q1, t1, a1, a2, a3, a4, a5⟩
      · omega
      · refine ⟨tr1 _ _ _ _ t1 l00 (by omega) (by omega), a1, a2, by rw [gf1 1 e1 (by omega)]; exact a3, by rw [gf1 2 e1 (by omega)]; exact a4, ?_⟩
        rw [gf1 3 e1 (by omega), fm1 35 e1 (by omega) (by omega) (by omega)]
        exact a5
    rcases hp with ⟨p0, q1, q2, q3⟩ | ⟨pp, q1, t2, a1, a2, a3, a4, a5⟩
    · refine ⟨fun _ => ⟨yf, mid V1 _ M1 gm1 x j1 l1 b1 rfl xs1 fnn fmm gff hT1 (by rw [← q3, ← q2]; exact T) ⟨by omega, rx1, by omega, rx3, by omega⟩ (by omega) (by omega) (by omega) (by omega) (by omega) (fun Qr hq => rch Qr (run _ ?_))⟩, fun y => absurd p0 y⟩
      unfold AFT
      rw [if_pos p0]
      exact hq
    · refine ⟨fun y => by omega, fun y => ⟨yf, by rw [yd]; exact yg, ?_⟩⟩
      have T2 := tr1 _ _ _ _ t2 (by omega) (Int.le_refl _) (Int.le_refl _)
      have hl1 := xs1.l0
      have nt1 := xs1.ts.ntb
      have j11 := xs1.ts.j1
      have e235 : M1 35 e2 = M 35 e2 := fm1 35 e2 (by omega) (by omega) (by omega)
      have g13 : gm1 3 e2 = gm 3 e2 := gf1 3 e2 a2
      have g11 : gm1 1 e2 = a := (gf1 1 e2 a2).trans a3
      have g12 : gm1 2 e2 = ln := (gf1 2 e2 a2).trans a4
      obtain ⟨xs3, T3, fm3⟩ := xs1.bin (e1 := e2) (h := 3 * (12 - n) + 2) (o := p) cn (by omega) T2 T (by omega) (show M 0 40 ≤ x ∧ x < M1 0 40 ∧ gm1 1 x = ln ∧ gm1 2 x = l1 ∧ gm1 3 x + 1 ≤ 3 * (12 - n) + 2 by omega) (by omega) (by omega) (by omega) (by omega) (by omega)
      rw [yd]
      refine CT.im (by omega) (fun d2 hd2 => ct_emit hc rfl xs1.ts.rd xs1.l hl1 (by omega) (fun V5 hW5 => ?_))
      have z5 := xs3.ts.x hW5
      have m40 : mEx M1 (p - 5) e2 x 0 40 = M1 0 40 + 1 := mEx_40
      have m51' : mEx M1 (p - 5) e2 x 0 51 = M1 0 51 := mEx_ne (by omega)
      refine ⟨z5.2.2.2.2.2.1, mid V5 _ (mEx M1 (p - 5) e2 x) (gmU gm1 (M1 0 40) a (l1 + 1) (3 * (12 - n) + 2) st) (M1 0 40) j1 (l1 + 1) b1 hW5 xs3 (fnn.tr fXn.em (by omega)) (fmm.tr fm3 (by omega) (by omega)) (fun k y q => (gmU_ne (by omega)).trans (gff k y q)) (fun y => ?_) (by rw [m40]; exact T3) ⟨by omega, by rw [m40]; omega, gmU_1, gmU_2, Or.inr ⟨by rw [gmU_3]; omega, by rw [mEx_35]; omega, by rw [mEx_35]; omega⟩⟩ (by omega) (by rw [m40]; omega) (by rw [m51']; omega) (by omega) (by rw [m40]; omega) (fun Qr hq => rch Qr (run _ ?_))⟩
      · obtain ⟨t1, c1, c2, c3, c4, c5⟩ := hT1 y
        refine ⟨t1.fr l00 (fun i i0 i1 => ⟨nEm_ne (by omega), nEm_ne (by omega)⟩) (fun k y k1 k2 k3 y0 y1 => mEx_ne (by omega)) (fun y y0 y1 k1 k2 => ?_) (fun k i k1 k2 i1 => mEx_ne (by omega)) (fun k y _ _ _ y1 => gmU_ne (by omega)), c1, c2, by rw [gmU_ne (by omega)]; exact c3, by rw [gmU_ne (by omega)]; exact c4, ?_⟩
        · have pk := (t1.1 y y0 y1).2.2.2.2
          unfold PCk at pk
          exact mEx_ne ⟨by omega, by omega, by omega⟩
        · rw [gmU_ne (by omega), mEx_ne (by omega)]
          exact c5
      · rw [aft_n (by omega)]
        refine ⟨fun q => absurd xs1.w q, fun _ => rn_ex (e := ee) xs1.x0 (by have := xs1.x1; omega) (fun _ => ⟨by omega, by have := xs1.x1; omega⟩) (by omega) _ hq⟩
  · obtain ⟨x1, x2, x3⟩ := xf
    obtain ⟨z', hz⟩ := aft_bad (ee := ee) (s := s) (e1 := e1) (p := p) (e2 := e2) (z := z) x3.2.1
    exact hbad V1 M1 z' ⟨fn.tr x1 (by omega), fm.tr x2 (by omega) r51, x3⟩ (fun Qr hq => rch Qr (run _ (hz Qr hq)))
end SUM
