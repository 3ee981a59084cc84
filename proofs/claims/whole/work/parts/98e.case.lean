/-! ===== book: a switch's cases ===== -/
def fSa (s ln : Int) (N N' : Mem) : Prop := ∀ L k, ¬ (L = 50 ∧ 6 ≤ k ∧ k ≤ 11) → ¬ (L = 120 ∧ k = 2) → ¬ ((L = 121 ∨ L = 122) ∧ ln ≤ k) → ¬ (L = 128 * s + 17 ∧ (k = 3 ∨ k = 4)) → ¬ ((L = 128 * s + 18 ∨ L = 128 * s + 19) ∧ 0 ≤ k) → N' L k = N L k
def fSb (s X R : Int) (M M' : Mem) : Prop := ∀ k i, ¬ (k = 0 ∧ ((3 ≤ i ∧ i ≤ 6) ∨ i = 40 ∨ (42 ≤ i ∧ i ≤ 47) ∨ i = 51)) → ¬ (35 ≤ k ∧ k ≤ 39 ∧ X ≤ i) → ¬ (48 ≤ k ∧ k ≤ 50 ∧ R ≤ i) → ¬ ((k = 30 ∨ k = 34) ∧ i = s) → ¬ ((k = 31 ∨ k = 33) ∧ 12 * s ≤ i ∧ i < 12 * s + 12) → M' k i = M k i
/-- k cases stand -/
def CSM (c : Int → Int) (N1 M1 gm1 : Mem) (ow1 eo1 : Int → Int) (ln1 : Int) (N M gm : Mem) (ow eo cs K P W E : Int → Int) (nt b B j ln e F s k : Int) : Prop := MLS c N M K P W E nt b (12 * b + e) 0 B j ln ∧ (fSa s ln1 N1 N ∧ fSb s (M1 0 40) (M1 0 51) M1 M) ∧ ((∀ k y, y < M1 0 40 → gm k y = gm1 k y) ∧ (∀ p, p < ln1 → ow p = ow1 p) ∧ (∀ p, p < ln1 → eo p = eo1 p)) ∧ WLD N M gm ow eo cs K P E nt b B (M 0 40) ln e F (12 * s + k) ∧ (N (128 * s + 17) 3 = k ∧ M 30 s = k ∧ 0 ≤ k ∧ k ≤ 12) ∧ (∀ i, 0 ≤ i → i < k → CSE N M gm ow K P W E nt b B (M 0 40) ln s i) ∧ (M1 0 40 ≤ M 0 40 ∧ ln1 ≤ ln ∧ M1 0 51 ≤ M 0 51)
section CS26
variable {c : Int → Int} {e : Nat} {M N : Mem} {Q : Int → Mem → Prop} {K P W E f : Int → Int} {nt j b v n s : Int}
theorem cs_26 (ts : TS c N M K P W E nt j) (k3 : K j = 3) (h9 : M 0 9 = b) (b0 : 0 ≤ b) (b1 : b < 10) (hv : NR M v (nmv P E b j)) (s0 : 0 ≤ s) (s1 : s < 360) (hn : M 30 s = n) (n1 : n ≤ 12) (h : ∀ i, 0 ≤ i → i < n → NR M (f i) (M 31 (12 * s + i))) (he : 8 ≤ e) : ∀ (r : Nat) (i x : Int), (n - i).toNat = r → 0 ≤ i → i ≤ n → x = 0 ∨ x = 1 → PM (e + 1) n_readCase_26 [s, if x = 1 ∨ 0 ≤ fdx f v r i then 1 else 0, n] M Q → PM (e + 1) n_readCase_26 [s, x, i] M Q := by
  intro r
  induction r with
  | zero =>
    intro i x hr i0 i1 hx hq
    have e1 : (if x = 1 ∨ 0 ≤ fdx f v 0 i then (1 : Int) else 0) = x := by
      have : ¬ 0 ≤ fdx f v 0 i := by show ¬ (0 : Int) ≤ -1; decide
      rcases hx with rfl | rfl
      · rw [if_neg (by omega)]
      · rw [if_pos (Or.inl rfl)]
    have e2 : i = n := by omega
    rw [e1] at hq
    rw [e2]
    exact hq
  | succ r ih =>
    intro i x hr i0 i1 hx hq
    rw [fdx_s] at hq
    refine st_readCase_26 ?_
    unfold B_readCase_26
    rw [hn]
    refine ⟨s0, s1, fun y => absurd y (by omega), fun _ => ts.nm1 k3 he _ ⟨fun y => absurd y (by decide), fun _ => ⟨fun y => ⟨by omega, by omega, ih (i + 1) 1 (by omega) (by omega) (by omega) (Or.inr rfl) ?_⟩, fun y => ts.nh h9 b0 b1 (by omega) _ ⟨by omega, by omega, by omega, by omega, by omega, by omega, rn_same (e := e) hv (h i i0 (by omega)) (by omega) _ ?_⟩⟩⟩⟩
    · rw [if_pos (Or.inl (by omega))] at hq
      rw [if_pos (Or.inl rfl)]
      exact hq
    · by_cases z : f i = v
      · rw [if_pos z, if_pos (Or.inr i0)] at hq
        rw [if_pos z.symm]
        refine ⟨fun w => absurd w (by decide), fun _ => ⟨by omega, by omega, ih (i + 1) 1 (by omega) (by omega) (by omega) (Or.inr rfl) ?_⟩⟩
        rw [if_pos (Or.inl rfl)]
        exact hq
      · rw [if_neg z] at hq
        rw [if_neg (fun w => z w.symm)]
        have x0 : x = 0 := by omega
        subst x0
        exact ⟨fun _ => ⟨by omega, by omega, ih (i + 1) 0 (by omega) (by omega) (by omega) (Or.inl rfl) hq⟩, fun w => absurd rfl w⟩
end CS26
section CSF
variable {c : Int → Int} {N M gm N' M' gm' N1 M1 gm1 : Mem} {ow eo cs ow' eo' cs' ow1 eo1 K P W E : Int → Int} {nt b B ln1 e F s k j ln j' ln' t : Int}
set_option maxHeartbeats 1000000 in
theorem cs_fin {R : Int} (hR : R = M 0 51) (st : CSM c N1 M1 gm1 ow1 eo1 ln1 N M gm ow eo cs K P W E nt b B j ln e F s k) (k12 : k < 12) (n : ∀ L i, ¬ (L = 50 ∧ 6 ≤ i ∧ i ≤ 11) → ¬ (L = 120 ∧ i = 2) → ¬ ((L = 121 ∨ L = 122) ∧ ln ≤ i) → ¬ ((L = 128 * s + 18 ∨ L = 128 * s + 19) ∧ i = k) → ¬ (L = 128 * s + 17 ∧ i = 3) → N' L i = N L i) (m : ∀ i h, ¬ (i = 0 ∧ ((3 ≤ h ∧ h ≤ 6) ∨ h = 40 ∨ (42 ≤ h ∧ h ≤ 47) ∨ h = 51)) → ¬ (35 ≤ i ∧ i ≤ 39 ∧ M 0 40 ≤ h) → ¬ (48 ≤ i ∧ i ≤ 50 ∧ R ≤ h) → ¬ ((i = 31 ∨ i = 33) ∧ h = 12 * s + k) → ¬ (i = 30 ∧ h = s) → M' i h = M i h) (ls' : MLS c N' M' K P W E nt b (12 * b + e) 0 B j' ln') (gg : ∀ i y, y < M 0 40 → gm' i y = gm i y) (oq : ∀ p, p < ln → ow' p = ow p) (eq : ∀ p, p < ln → eo' p = eo p) (wd' : WLD N' M' gm' ow' eo' cs' K P E nt b B (M' 0 40) ln' e F (12 * s + (k + 1))) (h17 : N' (128 * s + 17) 3 = k + 1) (h30 : M' 30 s = k + 1) (h18 : N' (128 * s + 18) k = W t) (h19 : N' (128 * s + 19) k = ln) (h121 : N' 121 ln = 14) (h122 : N' 122 ln = t) (h31 : M' 31 (12 * s + k) = nmv P E b t) (nr : NR M (W t) (nmv P E b t)) (h48 : M' 48 R = -1 - (12 * s + k)) (h49 : M' 49 R = -1) (h50 : M' 50 R = nmv P E b t) (rt : RTr N' gm' ow' B (M' 0 40) ln' (ln + 1) (M' 33 (12 * s + k)) 0 (-1)) (t0 : 0 ≤ t) (t1 : t < nt) (k3 : K t = 3) (fd : ¬ 0 ≤ fdx (N (128 * s + 18)) (W t) k.toNat 0) (a1 : M 0 40 ≤ M' 0 40) (a2 : ln + 1 ≤ ln') (a3 : M 0 51 ≤ M' 0 51) : CSM c N1 M1 gm1 ow1 eo1 ln1 N' M' gm' ow' eo' cs' K P W E nt b B j' ln' e F s (k + 1) := by
  subst hR
  obtain ⟨ls, ⟨fa, fb⟩, ⟨gg1, gg2, gg3⟩, wd, ⟨q1, q2, q3, q4⟩, rts, ⟨bn1, bn2, bn3⟩⟩ := st
  have l0 := ls.l0
  have nl : ∀ L i, (L = 121 ∨ L = 122) → i < ln → N' L i = N L i := fun L i q1 q2 => n L i (by omega) (by omega) (by omega) (by omega) (by omega)
  have mk : ∀ i h, i ≠ 0 → ¬ (35 ≤ i ∧ i ≤ 39 ∧ M 0 40 ≤ h) → ¬ (48 ≤ i ∧ i ≤ 50 ∧ M 0 51 ≤ h) → ¬ ((i = 31 ∨ i = 33) ∧ h = 12 * s + k) → i ≠ 30 → M' i h = M i h := fun i h q0 q1 q2 q3 q4 => m i h (by omega) q1 q2 q3 (by omega)
  have m7 : ∀ t, M' 7 t = M 7 t := fun t => mk _ _ (by decide) (by omega) (by omega) (by omega) (by decide)
  have GA : GRW (M 0 40) ln (M 0 51) N M gm ow N' M' gm' ow' := ⟨fun i i0 i1 => ⟨nl _ _ (by omega) i1, nl _ _ (by omega) i1⟩, gg, oq, fun i h a1 a2 a3 => mk _ _ (by omega) (by omega) (by omega) (by omega) (by omega), fun i h a1 a2 a3 => mk _ _ (by omega) (by omega) (by omega) (by omega) (by omega)⟩
  have rc9 : rcn (N' 121) ln.toNat = M 0 51 := by
    rw [rcn_cg (g := N 121) _ (fun i a q => nl _ _ (by omega) (by omega)), ls.r]
  have n18 : ∀ i, i < k → N' (128 * s + 18) i = N (128 * s + 18) i := fun i q => n _ _ (by omega) (by omega) (by omega) (by omega) (by omega)
  refine ⟨ls', ⟨fun L i b1 b2 b3 b4 b5 => (n L i b1 b2 (by omega) (by omega) (by omega)).trans (fa L i b1 b2 b3 b4 b5), fun i h b1 b2 b3 b4 b5 => (m i h b1 (by omega) (by omega) (by omega) (by omega)).trans (fb i h b1 b2 b3 b4 b5)⟩, ⟨fun i y q => (gg i y (by omega)).trans (gg1 i y q), fun p q => (oq p (by omega)).trans (gg2 p q), fun p q => (eq p (by omega)).trans (gg3 p q)⟩, wd', ⟨h17, h30, by omega, by omega⟩, fun i i0 i1 => ?_, by omega, by omega, by omega⟩
  by_cases y : i = k
  · subst y
    unfold CSE
    rw [h18, h19, h31, h121, h122, rc9]
    refine ⟨nr.m7 m7, ⟨l0, by omega, rfl⟩, rt, ⟨h48, h49, h50⟩, ⟨t0, t1, k3, rfl, rfl⟩, fun k' k0 k1 => ?_⟩
    rw [n18 k' k1]
    rcases fdx_rng (f := N (128 * s + 18)) (v := W t) i.toNat 0 (Int.le_refl _) with q | q
    · exact q.2 k' k0 (by omega)
    · exact absurd (by omega) fd
  · have k' : i < k := by omega
    exact (rts i i0 k').fr GA ls.r a1 (by omega) (fun h q => n18 h (by omega)) (n _ _ (by omega) (by omega) (by omega) (by omega) (by omega)) (mk _ _ (by decide) (by omega) (by omega) (by omega) (by decide)) (mk _ _ (by decide) (by omega) (by omega) (by omega) (by decide)) m7
end CSF
section CSR
variable {l : Launch} {G : GT} {c : Int → Int} {S : Sh} {Q : Int → Sh → Mem → Prop} {d mc ms ee e' : Nat} {V N M gm N1 M1 gm1 : Mem} {ow eo cs ow1 eo1 K P W E : Int → Int} {nt b B ln1 e F s k j ln : Int}
set_option maxHeartbeats 2000000 in
theorem cs_expr {V5 N5 M3 : Mem} {R nm : Int} (hc : Cn c S) (cn : CN b B 0) (hd : 75 ≤ d) (he : 90 ≤ e') (s0 : 0 ≤ s) (s1 : s < 360) (se : 36 * (12 * b + e) ≤ 12 * s) (se2 : 12 * s + 12 ≤ 36 * (12 * b + e) + 36) (st : CSM c N1 M1 gm1 ow1 eo1 ln1 N M gm ow eo cs K P W E nt b B j ln e F s k) (k12 : k < 12) (j12 : j + 1 < nt) (k3 : K (j + 1) = 3) (hW5 : Wv c S V5 = N5) (n5 : ∀ L i, ¬ (L = 50 ∧ 6 ≤ i ∧ i ≤ 9) → ¬ (L = 120 ∧ i = 2) → ¬ ((L = 121 ∨ L = 122) ∧ i = ln) → ¬ ((L = 128 * s + 18 ∨ L = 128 * s + 19) ∧ i = k) → ¬ (L = 128 * s + 17 ∧ i = 3) → N5 L i = N L i) (n5o : N5 121 ln = 14) (n5p : N5 122 ln = j + 1) (n5l : N5 120 2 = ln + 1) (n5a : N5 (128 * s + 18) k = W (j + 1)) (n5b : N5 (128 * s + 19) k = ln) (n5c : N5 (128 * s + 17) 3 = k + 1) (ts5 : TS c N5 M3 K P W E nt (j + 1 + 1)) (hR : R = M 0 51) (m3 : ∀ i h, ¬ (i = 0 ∧ ((3 ≤ h ∧ h ≤ 6) ∨ h = 51)) → ¬ (i = 31 ∧ h = 12 * s + k) → ¬ (i = 30 ∧ h = s) → ¬ (48 ≤ i ∧ i ≤ 50 ∧ h = R) → M3 i h = M i h) (m331 : M3 31 (12 * s + k) = nm) (m330 : M3 30 s = k + 1) (m348 : M3 48 R = -1 - (12 * s + k)) (m349 : M3 49 R = -1) (m350 : M3 50 R = nm) (m351 : M3 0 51 = R + 1) (hnm : nm = nmv P E b (j + 1)) (nr : NR M (W (j + 1)) nm) (fd : ¬ 0 ≤ fdx (N (128 * s + 18)) (W (j + 1)) k.toNat 0)
    (ref3 : ∀ Qr : Int → Mem → Prop, PM e' n_sign_0 [58] M3 (fun z7 M7 => PM e' n_readExpr_0 [0, 0, 0] M7 (fun z9 M9 => 0 ≤ 12 * s + k ∧ 12 * s + k < 4320 ∧ PM e' n_sign_0 [59] (up M9 33 (12 * s + k) z9) (fun z11 M11 => Qr 0 M11))) → PM (e' + 1) n_readCase_0 [s] M Qr)
    (hok : ∀ V' M' gm' ow' eo' cs' j' ln', CSM c N1 M1 gm1 ow1 eo1 ln1 (Wv c S V') M' gm' ow' eo' cs' K P W E nt b B j' ln' e F s (k + 1) → j < j' → RunM (e' + 1) n_readCase_0 [s] M 0 M' → Q 1 S V')
    (hbad : ∀ V' M', fSa s ln1 N1 (Wv c S V') → fSb s (M1 0 40) (M1 0 51) M1 M' → FTS (Wv c S V') M' → RunM (e' + 1) n_readCase_0 [s] M 0 M' → Q 0 S V') : CT l G bX5_accept d mc ms [vr (c 50), vi 58] S V5 (fun z31 S31 V31 mc31 ms31 => (z31 = 0 → Q 0 S31 V31) ∧ (¬ (z31 = 0) → S31.1 (c 50) = 6 ∧ CT l G bX5_readSum d mc31 ms31 [vr (c 50), vi 0] S31 V31 (fun z34 S34 V34 mc34 ms34 => (z34 = 0 → Q 0 S34 V34) ∧ (¬ (z34 = 0) → S34.1 (c 50) = 6 ∧ CT l G bX5_accept d mc34 ms34 [vr (c 50), vi 59] S34 V34 (fun z37 S37 V37 mc37 ms37 => (z37 = 0 → Q 0 S37 V37) ∧ (¬ (z37 = 0) → Q 1 S37 V37)))))) := by
  have st' := st
  obtain ⟨ls, ⟨fa, fb⟩, ⟨gg1, gg2, gg3⟩, wd, ⟨q1, q2, q3, q4⟩, rts, ⟨bn1, bn2, bn3⟩⟩ := st'
  have w0 := ls.w
  have l0 := ls.l0
  have lj := ls.lj
  have yf : S.1 (c 50) = 6 := (ts5.x hW5).2.2.2.2.2.1
  have bad : ∀ V' M', (∀ L i, ¬ (L = 50 ∧ 6 ≤ i ∧ i ≤ 11) → ¬ (L = 120 ∧ i = 2) → ¬ ((L = 121 ∨ L = 122) ∧ ln ≤ i) → ¬ (L = 128 * s + 17 ∧ i = 3) → ¬ ((L = 128 * s + 18 ∨ L = 128 * s + 19) ∧ 0 ≤ i) → Wv c S V' L i = N L i) → (∀ i h, ¬ (i = 0 ∧ ((3 ≤ h ∧ h ≤ 6) ∨ h = 40 ∨ (42 ≤ h ∧ h ≤ 47) ∨ h = 51)) → ¬ (35 ≤ i ∧ i ≤ 39 ∧ M 0 40 ≤ h) → ¬ (48 ≤ i ∧ i ≤ 50 ∧ M 0 51 ≤ h) → ¬ (i = 30 ∧ h = s) → ¬ ((i = 31 ∨ i = 33) ∧ 12 * s ≤ h ∧ h < 12 * s + 12) → M' i h = M i h) → FTS (Wv c S V') M' → RunM (e' + 1) n_readCase_0 [s] M 0 M' → Q 0 S V' := fun V' M' hn hm ft rn => hbad V' M' (fun L i a1 a2 a3 a4 a5 => (hn L i a1 a2 (by omega) (by omega) a5).trans (fa L i a1 a2 a3 a4 a5)) (fun i h a1 a2 a3 a4 a5 => (hm i h a1 (by omega) (by omega) (by omega) a5).trans (fb i h a1 a2 a3 a4 a5)) ft rn
  have w3 : M3 0 46 = 0 := (m3 _ _ (by omega) (by omega) (by omega) (by omega)).trans w0
  clear rts gg1 gg2 gg3 fa fb
  refine CT.im (by omega) (fun d5 hd5 => ?_)
  by_cases k58 : K (j + 1 + 1) = 58
  · refine ct_acc1 (e := e' - 1) hc hW5 ts5 k58 (by decide) (by omega) (by omega) (fun V6 M6 hW6 ts6 lx6 rn6 => ⟨fun y => absurd y (by decide), fun _ => ⟨yf, CT.im (by omega) (fun d6 hd6 => ?_)⟩⟩)
    have n6 : ∀ L i, ¬ (L = 50 ∧ 6 ≤ i ∧ i ≤ 8) → nPs N5 (j + 1 + 1 + 1) (K (j + 1 + 1 + 1)) (W (j + 1 + 1 + 1)) L i = N5 L i := fun L i q => nPs_ne q
    generalize hN6 : nPs N5 (j + 1 + 1 + 1) (K (j + 1 + 1 + 1)) (W (j + 1 + 1 + 1)) = N6 at *
    have m6 : ∀ i h, ¬ (i = 0 ∧ 3 ≤ h ∧ h ≤ 6) → M6 i h = M3 i h := lx6
    have x640 : M6 0 40 = M 0 40 := (m6 _ _ (by omega)).trans (m3 _ _ (by omega) (by omega) (by omega) (by omega))
    have x651 : M6 0 51 = R + 1 := (m6 _ _ (by omega)).trans m351
    have ls6 : MLS c N6 M6 K P W E nt b (12 * b + e) 0 B (j + 1 + 1 + 1) (ln + 1) := by
      refine ⟨ts6, ⟨(n6 _ _ (by omega)).trans ((n5 _ _ (by omega) (by omega) (by omega) (by omega) (by omega)).trans ls.sv), (n6 _ _ (by omega)).trans n5l, ?_⟩, ⟨by omega, by omega, by rw [x640]; exact ls.x0, by rw [x640]; have := ls.x1; omega⟩, (m6 _ _ (by omega)).trans w3, (n6 _ _ (by omega)).trans ((n5 _ _ (by omega) (by omega) (by omega) (by omega) (by omega)).trans ls.f), (m6 _ _ (by omega)).trans ((m3 _ _ (by omega) (by omega) (by omega) (by omega)).trans ls.b9), (m6 _ _ (by omega)).trans ((m3 _ _ (by omega) (by omega) (by omega) (by omega)).trans ls.g41)⟩
      rw [rcn_s l0, rcn_cg (g := N 121) _ (fun i a q => (n6 _ _ (by omega)).trans (n5 _ _ (by omega) (by omega) (by omega) (by omega) (by omega))), ls.r, n6 _ _ (by omega), n5o, x651, hR]
      rfl
    have wd6 : WLD N6 M6 gm ow (owU eo ln (ln + 1) e) (owU cs ln (ln + 1) (12 * s + k)) K P E nt b B (M6 0 40) (ln + 1) e F (12 * s + k + 1) := by
      rw [x640]
      exact wd.cas (R := R) (t := j + 1) ⟨fun i i0 i1 => ⟨(n6 _ _ (by omega)).trans (n5 _ _ (by omega) (by omega) (by omega) (by omega) (by omega)), (n6 _ _ (by omega)).trans (n5 _ _ (by omega) (by omega) (by omega) (by omega) (by omega))⟩, fun _ _ _ => rfl, fun _ _ => rfl, fun i h a1 a2 a3 => (m6 _ _ (by omega)).trans (m3 _ _ (by omega) (by omega) (by omega) (by omega)), fun i h a1 a2 a3 => (m6 _ _ (by omega)).trans (m3 _ _ (by omega) (by omega) (by omega) (by omega))⟩ (by rw [hR]; exact ls.r) ((n6 _ _ (by omega)).trans n5o) ((n6 _ _ (by omega)).trans n5p) ((m6 _ _ (by omega)).trans m348) ((m6 _ _ (by omega)).trans m349) ((m6 _ _ (by omega)).trans (m350.trans hnm)) (by omega) j12 k3 (by omega) (by omega) (Int.le_refl _)
    have ref4 : ∀ Qr : Int → Mem → Prop, PM e' n_readExpr_0 [0, 0, 0] M6 (fun z9 M9 => 0 ≤ 12 * s + k ∧ 12 * s + k < 4320 ∧ PM e' n_sign_0 [59] (up M9 33 (12 * s + k) z9) (fun z11 M11 => Qr 0 M11)) → PM (e' + 1) n_readCase_0 [s] M Qr := fun Qr hq => ref3 Qr (ts5.sn1 w3 (by decide) k58 (by omega) rn6 _ hq)
    refine rd_expr (e := e') (gm := gm) hc cn (by omega) (by omega) hW6 ls6 (by omega) (fun V7 M7 gm7 x j7 l7 er run => ⟨fun y => absurd y (by decide), fun _ => ⟨yf, CT.im (by omega) (fun d7 hd7 => ?_)⟩⟩) (fun V7 M7 z yf' run => ⟨fun _ => ?_, fun y => absurd rfl y⟩)
    · have er' := er
      obtain ⟨ls7, fn7, fm7, gf7, T7, ⟨p1, p2, p3, p4, p5⟩, ⟨u1, u2, u3, u4, u5, u6⟩⟩ := er
      have m8 : ∀ i h, ¬ (i = 33 ∧ h = 12 * s + k) → up M7 33 (12 * s + k) x i h = M7 i h := fun i h q => up_ne' q
      have m8k : up M7 33 (12 * s + k) x 33 (12 * s + k) = x := up_eq
      have ts8 : TS c (Wv c S V7) (up M7 33 (12 * s + k) x) K P W E nt j7 := ls7.ts.fr (fun _ _ => rfl) (fun _ _ _ => rfl) (fun i hi => m8 _ _ (by omega)) (fun i => m8 _ _ (by omega))
      have ref5 : ∀ Qr : Int → Mem → Prop, PM e' n_sign_0 [59] (up M7 33 (12 * s + k) x) (fun z11 M11 => Qr 0 M11) → PM (e' + 1) n_readCase_0 [s] M Qr := fun Qr hq => ref4 Qr (run _ ⟨by omega, by omega, hq⟩)
      generalize hM8 : up M7 33 (12 * s + k) x = M8 at *
      have w8 : M8 0 46 = 0 := (m8 _ _ (by omega)).trans ls7.w
      have n7 : ∀ L i, ¬ (L = 50 ∧ 6 ≤ i ∧ i ≤ 11) → ¬ (L = 120 ∧ i = 2) → ¬ ((L = 121 ∨ L = 122) ∧ ln + 1 ≤ i) → Wv c S V7 L i = N5 L i := fun L i a1 a2 a3 => (fn7 L i (by omega) a2 a3).trans (n6 L i (by omega))
      have m83 : ∀ i h, ¬ (i = 0 ∧ ((3 ≤ h ∧ h ≤ 6) ∨ h = 40 ∨ (42 ≤ h ∧ h ≤ 47) ∨ h = 51)) → ¬ (35 ≤ i ∧ i ≤ 39 ∧ M 0 40 ≤ h) → ¬ (48 ≤ i ∧ i ≤ 50 ∧ R + 1 ≤ h) → ¬ (i = 33 ∧ h = 12 * s + k) → M8 i h = M3 i h := fun i h a1 a2 a3 a4 => (m8 i h a4).trans ((fm7 i h a1 (by omega) (by omega)).trans (m6 i h (by omega)))
      by_cases k59 : K j7 = 59
      · refine ct_acc1 (e := e' - 1) hc rfl ts8 k59 (by decide) (by omega) (by omega) (fun V9 M9 hW9 ts9 lx9 rn9 => ⟨fun y => absurd y (by decide), fun _ => ?_⟩)
        have n9 : ∀ L i, ¬ (L = 50 ∧ 6 ≤ i ∧ i ≤ 8) → Wv c S V9 L i = Wv c S V7 L i := fun L i q => by rw [hW9]; exact nPs_ne q
        have m9 : ∀ i h, ¬ (i = 0 ∧ 3 ≤ h ∧ h ≤ 6) → M9 i h = M8 i h := lx9
        have x940 : M9 0 40 = M7 0 40 := (m9 _ _ (by omega)).trans (m8 _ _ (by omega))
        have n95 : ∀ L i, ¬ (L = 50 ∧ 6 ≤ i ∧ i ≤ 11) → ¬ (L = 120 ∧ i = 2) → ¬ ((L = 121 ∨ L = 122) ∧ ln + 1 ≤ i) → Wv c S V9 L i = N5 L i := fun L i a1 a2 a3 => (n9 L i (by omega)).trans (n7 L i a1 a2 a3)
        have n9N : ∀ L i, ¬ (L = 50 ∧ 6 ≤ i ∧ i ≤ 11) → ¬ (L = 120 ∧ i = 2) → ¬ ((L = 121 ∨ L = 122) ∧ ln ≤ i) → ¬ ((L = 128 * s + 18 ∨ L = 128 * s + 19) ∧ i = k) → ¬ (L = 128 * s + 17 ∧ i = 3) → Wv c S V9 L i = N L i := fun L i a1 a2 a3 a4 a5 => (n95 L i a1 a2 (by omega)).trans (n5 L i (by omega) a2 (by omega) a4 a5)
        have m93 : ∀ i h, ¬ (i = 0 ∧ ((3 ≤ h ∧ h ≤ 6) ∨ h = 40 ∨ (42 ≤ h ∧ h ≤ 47) ∨ h = 51)) → ¬ (35 ≤ i ∧ i ≤ 39 ∧ M 0 40 ≤ h) → ¬ (48 ≤ i ∧ i ≤ 50 ∧ R + 1 ≤ h) → ¬ (i = 33 ∧ h = 12 * s + k) → M9 i h = M3 i h := fun i h a1 a2 a3 a4 => (m9 i h (by omega)).trans (m83 i h a1 a2 a3 a4)
        have m9M : ∀ i h, ¬ (i = 0 ∧ ((3 ≤ h ∧ h ≤ 6) ∨ h = 40 ∨ (42 ≤ h ∧ h ≤ 47) ∨ h = 51)) → ¬ (35 ≤ i ∧ i ≤ 39 ∧ M 0 40 ≤ h) → ¬ (48 ≤ i ∧ i ≤ 50 ∧ R ≤ h) → ¬ ((i = 31 ∨ i = 33) ∧ h = 12 * s + k) → ¬ (i = 30 ∧ h = s) → M9 i h = M i h := fun i h a1 a2 a3 a4 a5 => (m93 i h a1 a2 (by omega) (by omega)).trans (m3 i h (by omega) (by omega) a5 (by omega))
        have ow7 : ∀ p, p < ln → owU ow (ln + 1) l7 (-1) p = ow p := fun p q => owU_lt (by omega)
        obtain ⟨wd7, rt7⟩ := wd6.exp (sl := -1) cn ls6.r er' (by decide)
        have rt7 := rt7 0 (Int.le_refl _)
        have G79 : GRW (M7 0 40) (l7 + 1) (M7 0 51) (Wv c S V7) M7 gm7 (owU ow (ln + 1) l7 (-1)) (Wv c S V9) M9 gm7 (owU ow (ln + 1) l7 (-1)) := ⟨fun i _ _ => ⟨n9 _ _ (by omega), n9 _ _ (by omega)⟩, fun _ _ _ => rfl, fun _ _ => rfl, fun i h a1 a2 _ => (m9 _ _ (by omega)).trans (m8 _ _ (by omega)), fun i h a1 a2 _ => (m9 _ _ (by omega)).trans (m8 _ _ (by omega))⟩
        have wd9 := wd7.fr G79 ls7.r
        rw [← x940, show 12 * s + k + 1 = 12 * s + (k + 1) from by omega] at wd9
        have ls9 : MLS c (Wv c S V9) M9 K P W E nt b (12 * b + e) 0 B (j7 + 1) (l7 + 1) := ls7.fr (st' := 0) (by rw [hW9]; exact ts9) ((n9 _ _ (by omega)).trans ls7.sv) ((n9 _ _ (by omega)).trans ls7.lv) (fun i _ _ => n9 _ _ (by omega)) (by omega) ((m9 _ _ (by omega)).trans (m8 _ _ (by omega))) x940 ((m9 _ _ (by omega)).trans w8) ((n9 _ _ (by omega)).trans ls7.f) ((m9 _ _ (by omega)).trans (m8 _ _ (by omega))) ((m9 _ _ (by omega)).trans (m8 _ _ (by omega)))
        refine hok V9 M9 gm7 (owU ow (ln + 1) l7 (-1)) (owU (owU eo ln (ln + 1) e) (ln + 1) (l7 + 1) e) (owU cs ln (ln + 1) (12 * s + k)) (j7 + 1) (l7 + 1) (cs_fin (t := j + 1) hR st k12 n9N m9M ls9 (fun i y q => gf7 i y (by omega)) ow7 (fun p q => (owU_lt (by omega)).trans (owU_lt (by omega))) wd9 ((n95 _ _ (by omega) (by omega) (by omega)).trans n5c) ((m93 _ _ (by omega) (by omega) (by omega) (by omega)).trans m330) ((n95 _ _ (by omega) (by omega) (by omega)).trans n5a) ((n95 _ _ (by omega) (by omega) (by omega)).trans n5b) ((n95 _ _ (by omega) (by omega) (by omega)).trans n5o) ((n95 _ _ (by omega) (by omega) (by omega)).trans n5p) ((m93 _ _ (by omega) (by omega) (by omega) (by omega)).trans (m331.trans hnm)) (by rw [← hnm]; exact nr) ((m93 _ _ (by omega) (by omega) (by omega) (by omega)).trans m348) ((m93 _ _ (by omega) (by omega) (by omega) (by omega)).trans m349) ((m93 _ _ (by omega) (by omega) (by omega) (by omega)).trans (m350.trans hnm)) ?_ (by omega) j12 k3 fd (by omega) (by omega) ?_) (by omega) (fun Qr hq => ref5 Qr (ts8.sn1 w8 (by decide) k59 (by omega) rn9 _ hq))
        · rw [(m9 _ _ (by omega)).trans m8k]
          exact rt7.fr G79 (by omega) (Int.le_refl _)
        · rw [m9 _ _ (by omega), m8 _ _ (by omega)]; omega
      · refine ct_acc0 hc rfl ts8 k59 (by omega) (fun V9 hW9 => ⟨fun _ => ?_, fun y => absurd rfl y⟩)
        refine bad V9 (mFt M8 (if K j7 = 0 then 1 else 2) (P j7)) (fun L i a1 a2 a3 a4 a5 => ?_) (fun i h a1 a2 a3 a4 a5 => ?_) (by rw [hW9]; exact FTS.ft (ftp (by decide))) (fun Qr hq => ref5 Qr (ts8.sn0 w8 (by decide) k59 (by omega) _ hq))
        · rw [hW9, nFt_ne (by omega), n7 L i a1 a2 (by omega)]; exact n5 L i (by omega) a2 (by omega) (by omega) a4
        · rw [mFt_ne (by omega), m83 i h a1 a2 (by omega) (by omega)]; exact m3 i h (by omega) (by omega) a4 (by omega)
    · obtain ⟨x1, x2, x3, x4, x5⟩ := yf'
      have u46 : up M7 33 (12 * s + k) z 0 46 = M7 0 46 := up_ne' (by omega)
      have u47 : up M7 33 (12 * s + k) z 0 47 = M7 0 47 := up_ne' (by omega)
      refine bad V7 (up M7 33 (12 * s + k) z) (fun L i a1 a2 a3 a4 a5 => ?_) (fun i h a1 a2 a3 a4 a5 => ?_) ⟨by rw [u46]; exact x3, by rw [u46]; exact x4, by rw [u47]; exact x5⟩ (fun Qr hq => ref4 Qr (run _ ⟨by omega, by omega, sn_w (by rw [u46]; exact x3) (by omega) _ hq⟩))
      · rw [x1 L i (by omega) a2 (by omega), n6 L i (by omega)]; exact n5 L i (by omega) a2 (by omega) (by omega) a4
      · rw [up_ne' (by omega), x2 i h a1 (by omega) (by omega), m6 i h (by omega)]; exact m3 i h (by omega) (by omega) a4 (by omega)
  · refine ct_acc0 hc hW5 ts5 k58 (by omega) (fun V6 hW6 => ⟨fun _ => ?_, fun y => absurd rfl y⟩)
    have wp : 0 < mFt M3 (if K (j + 1 + 1) = 0 then 1 else 2) (P (j + 1 + 1)) 0 46 := by rw [mFt_46]; exact ftp (by decide)
    have u46 : up (mFt M3 (if K (j + 1 + 1) = 0 then 1 else 2) (P (j + 1 + 1))) 33 (12 * s + k) (-1) 0 46 = mFt M3 (if K (j + 1 + 1) = 0 then 1 else 2) (P (j + 1 + 1)) 0 46 := up_ne' (by omega)
    have u47 : up (mFt M3 (if K (j + 1 + 1) = 0 then 1 else 2) (P (j + 1 + 1))) 33 (12 * s + k) (-1) 0 47 = mFt M3 (if K (j + 1 + 1) = 0 then 1 else 2) (P (j + 1 + 1)) 0 47 := up_ne' (by omega)
    refine bad V6 (up (mFt M3 (if K (j + 1 + 1) = 0 then 1 else 2) (P (j + 1 + 1))) 33 (12 * s + k) (-1)) (fun L i a1 a2 a3 a4 a5 => ?_) (fun i h a1 a2 a3 a4 a5 => ?_) ⟨by rw [u46]; exact wp, by rw [u46, hW6, nFt_10, mFt_46], by rw [u47, hW6, nFt_11, mFt_47]; exact ⟨rfl, ts5.pb⟩⟩ (fun Qr hq => ref3 Qr (ts5.sn0 w3 (by decide) k58 (by omega) _ (rn_xw wp (by omega) _ ⟨by omega, by omega, sn_w (by rw [u46]; exact wp) (by omega) _ hq⟩)))
    · rw [hW6, nFt_ne (by omega)]; exact n5 L i (by omega) a2 (by omega) (by omega) a4
    · rw [up_ne' (by omega), mFt_ne (by omega)]; exact m3 i h (by omega) (by omega) a4 (by omega)
set_option maxHeartbeats 2000000 in
theorem rd_case (hc : Cn c S) (cn : CN b B 0) (hd : 80 ≤ d) (he : 100 ≤ ee) (s0 : 0 ≤ s) (s1 : s < 360) (se : 36 * (12 * b + e) ≤ 12 * s) (se2 : 12 * s + 12 ≤ 36 * (12 * b + e) + 36) (t17 : N1 (128 * s + 17) (-1) = 8) (r1 : N1 (128 * s + 17) 1 = c (128 * s + 18)) (r2 : N1 (128 * s + 17) 2 = c (128 * s + 19)) (t18 : N1 (128 * s + 18) (-1) = 22) (l18 : N1 (128 * s + 18) (-2) = 12) (t19 : N1 (128 * s + 19) (-1) = 20) (l19 : N1 (128 * s + 19) (-2) = 12) (tx1 : ∀ i, 0 ≤ i → i < M1 0 2 → M1 7 (3000 * b + i) = M1 1 i) (hW : Wv c S V = N) (st : CSM c N1 M1 gm1 ow1 eo1 ln1 N M gm ow eo cs K P W E nt b B j ln e F s k) (k10 : K j = 10)
    (hok : ∀ V' M' gm' ow' eo' cs' j' ln', CSM c N1 M1 gm1 ow1 eo1 ln1 (Wv c S V') M' gm' ow' eo' cs' K P W E nt b B j' ln' e F s (k + 1) → j < j' → RunM ee n_readCase_0 [s] M 0 M' → Q 1 S V')
    (hbad : ∀ V' M', fSa s ln1 N1 (Wv c S V') → fSb s (M1 0 40) (M1 0 51) M1 M' → FTS (Wv c S V') M' → RunM ee n_readCase_0 [s] M 0 M' → Q 0 S V') : Ct l G bX5_readCase Q d mc ms [vr (c 50), vr (c (128 * s + 17))] S V := by
  obtain ⟨e', rfl⟩ : ∃ e', ee = e' + 1 := ⟨ee - 1, by omega⟩
  obtain ⟨b0, b1, B0, B1, -, -⟩ := id cn
  have stx := st
  obtain ⟨ls, ⟨fa, fb⟩, ⟨gg1, gg2, gg3⟩, wd, ⟨q1, q2, q3, q4⟩, rts, ⟨bn1, bn2, bn3⟩⟩ := st
  have ts := ls.ts
  have w0 := ls.w
  have l0 := ls.l0
  have lj := ls.lj
  have ntb := ts.ntb
  have rr := ls.r0
  obtain ⟨ya, yb, yc, yd, ye, yf, yg⟩ := ts.x hW
  obtain ⟨v', tg, lnn⟩ := Wr hW
  have z3 : V (c (128 * s + 17)) 3 = k := (v' _ _ (by decide)).trans q1
  have g17 : S.1 (c (128 * s + 17)) = 8 := by rw [tg, fa _ _ (by omega) (by omega) (by omega) (by omega) (by omega)]; exact t17
  have bad : ∀ V' M', (∀ L i, ¬ (L = 50 ∧ 6 ≤ i ∧ i ≤ 11) → ¬ (L = 120 ∧ i = 2) → ¬ ((L = 121 ∨ L = 122) ∧ ln ≤ i) → ¬ (L = 128 * s + 17 ∧ i = 3) → ¬ ((L = 128 * s + 18 ∨ L = 128 * s + 19) ∧ 0 ≤ i) → Wv c S V' L i = N L i) → (∀ i h, ¬ (i = 0 ∧ ((3 ≤ h ∧ h ≤ 6) ∨ h = 40 ∨ (42 ≤ h ∧ h ≤ 47) ∨ h = 51)) → ¬ (35 ≤ i ∧ i ≤ 39 ∧ M 0 40 ≤ h) → ¬ (48 ≤ i ∧ i ≤ 50 ∧ M 0 51 ≤ h) → ¬ (i = 30 ∧ h = s) → ¬ ((i = 31 ∨ i = 33) ∧ 12 * s ≤ h ∧ h < 12 * s + 12) → M' i h = M i h) → FTS (Wv c S V') M' → RunM (e' + 1) n_readCase_0 [s] M 0 M' → Q 0 S V' := fun V' M' hn hm ft rn => hbad V' M' (fun L i a1 a2 a3 a4 a5 => (hn L i a1 a2 (by omega) (by omega) a5).trans (fa L i a1 a2 a3 a4 a5)) (fun i h a1 a2 a3 a4 a5 => (hm i h a1 (by omega) (by omega) (by omega) a5).trans (fb i h a1 a2 a3 a4 a5)) ft rn
  refine qX5_readCase fun _ _ => vX5_readCase_0 ?_
  rw [z3]
  refine ⟨g17, fun k12 => ⟨yf, CT.im (by omega) (fun d1 hd1 => ct_pass0 hc hW ts (fun V2 hW2 => ⟨fun y => absurd rfl y, fun _ => ?_⟩))⟩, fun k12 => ⟨yf, CT.im (by omega) (fun d1 hd1 => ct_pass (e := e') hc hW ts (by rw [k10]; decide) (by omega) (by omega) (fun V2 M2 hW2 ts2 lx2 rn2 => ⟨fun _ => ?_, fun y => absurd (by decide) y⟩))⟩⟩
  · refine bad V2 (mFt M (if K j = 0 then 1 else 5) (P j)) (fun L i a1 a2 a3 a4 a5 => by rw [hW2, nFt_ne (by omega)]) (fun i h a1 a2 a3 a4 a5 => mFt_ne (by omega)) (by rw [hW2]; exact FTS.ft (ftp (by decide))) (fun Qr hq => st_readCase_0 ⟨s0, s1, fun y => absurd (by omega) y, fun _ => ts.ft w0 (by omega) _ hq⟩)
  have m2 : ∀ i h, ¬ (i = 0 ∧ 3 ≤ h ∧ h ≤ 6) → M2 i h = M i h := lx2
  have n2 : ∀ L i, ¬ (L = 50 ∧ 6 ≤ i ∧ i ≤ 8) → nPs N (j + 1) (K (j + 1)) (W (j + 1)) L i = N L i := fun L i q => nPs_ne q
  have n218 : nPs N (j + 1) (K (j + 1)) (W (j + 1)) (128 * s + 18) = N (128 * s + 18) := funext fun i => n2 _ _ (by omega)
  have zx2 := ts2.x hW2
  have w2 : M2 0 46 = 0 := (m2 _ _ (by omega)).trans w0
  have h29 : M2 0 9 = b := (m2 _ _ (by omega)).trans ls.b9
  have j12 := ts2.j1
  have h230 : M2 30 s = k := (m2 _ _ (by omega)).trans q2
  have h251 : M2 0 51 = M 0 51 := m2 _ _ (by omega)
  have fbx : ∀ i h, i = 1 ∨ i = 7 ∨ (i = 0 ∧ h = 2) → M2 i h = M1 i h := fun i h q => (m2 i h (by omega)).trans (fb i h (by omega) (by omega) (by omega) (by omega) (by omega))
  have tx2 : ∀ i, 0 ≤ i → i < M2 0 2 → M2 7 (3000 * b + i) = M2 1 i := fun i i0 i1 => by
    rw [fbx _ _ (by omega)] at i1
    rw [fbx _ _ (by omega), fbx _ _ (by omega)]
    exact tx1 i i0 i1
  have ref0 : ∀ Qr : Int → Mem → Prop, PM (e' + 1) n_readCase_26 [s, 0, 0] M2 Qr → PM (e' + 1) n_readCase_0 [s] M Qr := fun Qr hq => st_readCase_0 ⟨s0, s1, fun _ => rn2 _ hq, fun y => absurd (by omega) y⟩
  rw [zx2.2.1, zx2.2.2.1]
  refine ⟨yf, g17, CT.pu (by omega) (fun d2 hd2 => ct_hC (n := k) hW2 ((n2 _ _ (by omega)).trans ((fa _ _ (by omega) (by omega) (by omega) (by omega) (by omega)).trans t17)) ((n2 _ _ (by omega)).trans q1) ((n2 _ _ (by omega)).trans ((fa _ _ (by omega) (by omega) (by omega) (by omega) (by omega)).trans r1)) ((n2 _ _ (by omega)).trans ((fa _ _ (by omega) (by omega) (by omega) (by omega) (by omega)).trans t18)) ((n2 _ _ (by omega)).trans ((fa _ _ (by omega) (by omega) (by omega) (by omega) (by omega)).trans l18)) q4 ⟨rfl, rfl, yf, ?_⟩)⟩
  rw [n218]
  -- refused
  have rfs0 : ∀ (kk f : Int), (K (j + 1) ≠ 3 ∧ f = 2) ∨ (K (j + 1) = 3 ∧ kk ≠ 0 ∧ f = 3) → (∀ Qr : Int → Mem → Prop, Qr 0 (mFt M2 (if K (j + 1) = 0 then 1 else f) (P (j + 1))) → PM (e' + 1) n_readCase_26 [s, 0, 0] M2 Qr) → ∀ K' : Int → Sh → Mem → Nat → Nat → Prop, (∀ V', Q 0 S V' → K' 0 S V' mc ms) → CT l G bX5_acceptNew d mc ms [vr (c 50), vi kk, vi 1] S V2 K' := by
    intro kk f hf hr K' hK
    have fpos : 0 < (if K (j + 1) = 0 then 1 else f) := ftp (by omega)
    have hf' : (K (j + 1) ≠ 3 ∧ f = 2) ∨ (K (j + 1) = 3 ∧ kk ≠ 0 ∧ f = 3) ∨ (K (j + 1) = 3 ∧ kk = 0 ∧ (1 : Int) = 0 ∧ f = 5) := by
      rcases hf with q | q
      · exact Or.inl q
      · exact Or.inr (Or.inl q)
    refine CT.im (by omega) (fun d2 hd2 => ct_new0 (f := f) hc hW2 ts2 hf' (by omega) (fun V3 hV3 => hK V3 ?_))
    refine bad V3 (mFt M2 (if K (j + 1) = 0 then 1 else f) (P (j + 1))) (fun L i a1 a2 a3 a4 a5 => ?_) (fun i h a1 a2 a3 a4 a5 => (mFt_ne (by omega)).trans (m2 i h (by omega))) ?_ (fun Qr hq => ref0 Qr (hr Qr hq))
    · rcases hV3 with hV3 | hV3
      · rw [hV3, nFt_ne (by omega)]; exact n2 L i (by omega)
      · rw [hV3, nFt_ne (by omega), nNn_ne (by omega)]; exact n2 L i (by omega)
    · rcases hV3 with hV3 | hV3
      · rw [hV3]; exact FTS.ft fpos
      · rw [hV3]; exact FTS.ft fpos
  by_cases k3 : K (j + 1) = 3
  · have nr := ts2.nr b0 b1 tx2 (by omega) (by omega)
    have nrs : ∀ i, 0 ≤ i → i < k → NR M2 (N (128 * s + 18) i) (M2 31 (12 * s + i)) := fun i i0 i1 => by
      rw [m2 _ _ (by omega)]
      exact (rts i i0 i1).1.m7 (fun t => m2 _ _ (by omega))
    have ref1 : ∀ Qr : Int → Mem → Prop, PM (e' + 1) n_readCase_26 [s, if (0 : Int) = 1 ∨ 0 ≤ fdx (N (128 * s + 18)) (W (j + 1)) k.toNat 0 then 1 else 0, k] M2 Qr → PM (e' + 1) n_readCase_26 [s, 0, 0] M2 Qr := fun Qr hq => cs_26 (f := N (128 * s + 18)) ts2 k3 h29 b0 b1 nr.1 s0 s1 h230 q4 nrs (by omega) k.toNat 0 0 (by omega) (by omega) (by omega) (Or.inl rfl) hq
    by_cases fd : 0 ≤ fdx (N (128 * s + 18)) (W (j + 1)) k.toNat 0
    · rw [if_pos fd]
      rw [if_pos (Or.inr fd)] at ref1
      refine rfs0 1 3 (Or.inr ⟨k3, by decide, rfl⟩) (fun Qr hq => ref1 Qr (st_readCase_26 ⟨s0, s1, fun _ => ts2.new0 (f := 3) (Or.inr ⟨k3, by decide, rfl⟩) w2 (by omega) _ ⟨fun y => absurd y ?_, fun _ => hq⟩, fun y => absurd (by omega) y⟩)) _ (fun V' hq => ⟨fun y => absurd rfl y, fun _ => hq⟩)
      have : 0 < mFt M2 (if K (j + 1) = 0 then 1 else 3) (P (j + 1)) 0 46 := by rw [mFt_46]; exact ftp (by decide)
      omega
    · rw [if_neg fd]
      rw [if_neg (by omega)] at ref1
      obtain ⟨nm, hnm⟩ : ∃ nm, nm = nmv P E b (j + 1) := ⟨_, rfl⟩
      rw [← hnm] at nr
      obtain ⟨R, hR⟩ : ∃ R, R = M 0 51 := ⟨_, rfl⟩
      rw [← hR] at rr h251
      have mu : ∀ i h, ¬ (i = 31 ∧ h = 12 * s + k) → ¬ (i = 30 ∧ h = s) → ¬ (48 ≤ i ∧ i ≤ 50 ∧ h = R) → ¬ (i = 0 ∧ h = 51) → up (up (up (up (up (up M2 31 (12 * s + k) nm) 30 s (k + 1)) 48 R (-1 - (12 * s + k))) 49 R (-1)) 50 R nm) 0 51 (R + 1) i h = M2 i h := fun i h a1 a2 a3 a4 => by rw [up_ne' (by omega), up_ne' (by omega), up_ne' (by omega), up_ne' (by omega), up_ne' (by omega), up_ne' (by omega)]
      have mu31 : up (up (up (up (up (up M2 31 (12 * s + k) nm) 30 s (k + 1)) 48 R (-1 - (12 * s + k))) 49 R (-1)) 50 R nm) 0 51 (R + 1) 31 (12 * s + k) = nm := by rw [up_ne' (by omega), up_ne' (by omega), up_ne' (by omega), up_ne' (by omega), up_ne' (by omega), up_eq]
      have mu30 : up (up (up (up (up (up M2 31 (12 * s + k) nm) 30 s (k + 1)) 48 R (-1 - (12 * s + k))) 49 R (-1)) 50 R nm) 0 51 (R + 1) 30 s = k + 1 := by rw [up_ne' (by omega), up_ne' (by omega), up_ne' (by omega), up_ne' (by omega), up_eq]
      have mu48 : up (up (up (up (up (up M2 31 (12 * s + k) nm) 30 s (k + 1)) 48 R (-1 - (12 * s + k))) 49 R (-1)) 50 R nm) 0 51 (R + 1) 48 R = -1 - (12 * s + k) := by rw [up_ne' (by omega), up_ne' (by omega), up_ne' (by omega), up_eq]
      have mu49 : up (up (up (up (up (up M2 31 (12 * s + k) nm) 30 s (k + 1)) 48 R (-1 - (12 * s + k))) 49 R (-1)) 50 R nm) 0 51 (R + 1) 49 R = -1 := by rw [up_ne' (by omega), up_ne' (by omega), up_eq]
      have mu50 : up (up (up (up (up (up M2 31 (12 * s + k) nm) 30 s (k + 1)) 48 R (-1 - (12 * s + k))) 49 R (-1)) 50 R nm) 0 51 (R + 1) 50 R = nm := by rw [up_ne' (by omega), up_eq]
      have mu51 : up (up (up (up (up (up M2 31 (12 * s + k) nm) 30 s (k + 1)) 48 R (-1 - (12 * s + k))) 49 R (-1)) 50 R nm) 0 51 (R + 1) 0 51 = R + 1 := up_eq
      have ref2 : ∀ Qr : Int → Mem → Prop, PM e' n_next_0 [] (up (up (up (up (up (up M2 31 (12 * s + k) nm) 30 s (k + 1)) 48 R (-1 - (12 * s + k))) 49 R (-1)) 50 R nm) 0 51 (R + 1)) (fun z5 M5 => PM e' n_sign_0 [58] M5 (fun z7 M7 => PM e' n_readExpr_0 [0, 0, 0] M7 (fun z9 M9 => 0 ≤ 12 * s + k ∧ 12 * s + k < 4320 ∧ PM e' n_sign_0 [59] (up M9 33 (12 * s + k) z9) (fun z11 M11 => Qr 0 M11)))) → PM (e' + 1) n_readCase_0 [s] M Qr := fun Qr hq => ref0 Qr (ref1 Qr (st_readCase_26 (by
        unfold B_readCase_26
        refine ⟨s0, s1, fun _ => ts2.new1 k3 w2 h29 b0 b1 (by omega) _ ⟨fun _ => ?_, fun y => absurd (by omega) y⟩, fun y => absurd (by omega) y⟩
        rw [h230, h251, ← hnm]
        exact ⟨by omega, by omega, by omega, by omega, by omega, by omega, by omega, by omega, by omega, by omega, by omega, by omega, by omega, by omega, by omega, by omega, hq⟩)))
      generalize hMu : up (up (up (up (up (up M2 31 (12 * s + k) nm) 30 s (k + 1)) 48 R (-1 - (12 * s + k))) 49 R (-1)) 50 R nm) 0 51 (R + 1) = Mu at *
      have tsu : TS c (nPs N (j + 1) (K (j + 1)) (W (j + 1))) Mu K P W E nt (j + 1) := ts2.fr (fun _ _ => rfl) (fun _ _ _ => rfl) (fun i hi => mu _ _ (by omega) (by omega) (by omega) (by omega)) (fun i => mu _ _ (by omega) (by omega) (by omega) (by omega))
      refine CT.im (by omega) (fun d3 hd3 => ct_new1 (e := e') hc hW2 tsu k3 (by omega) (by omega) (fun V3 M3 hW3 ts3 lx3 rn3 => ⟨fun _ => ?_, fun y => absurd (by decide) y⟩))
      have n3 : ∀ L i, ¬ (L = 50 ∧ 6 ≤ i ∧ i ≤ 9) → nPs (nNn (nPs N (j + 1) (K (j + 1)) (W (j + 1))) (W (j + 1))) (j + 1 + 1) (K (j + 1 + 1)) (W (j + 1 + 1)) L i = N L i := fun L i q => by rw [nPs_ne (by omega), nNn_ne (by omega), nPs_ne (by omega)]
      have n39 : nPs (nNn (nPs N (j + 1) (K (j + 1)) (W (j + 1))) (W (j + 1))) (j + 1 + 1) (K (j + 1 + 1)) (W (j + 1 + 1)) 50 9 = W (j + 1) := by rw [nPs_ne (by omega)]; exact up_eq
      generalize hN3 : nPs (nNn (nPs N (j + 1) (K (j + 1)) (W (j + 1))) (W (j + 1))) (j + 1 + 1) (K (j + 1 + 1)) (W (j + 1 + 1)) = N3 at *
      have j13 := ts3.j1
      obtain ⟨v3, tg3, ln3⟩ := Wr hW3
      have nN1 : ∀ i, (i < 0 ∨ i = 1 ∨ i = 2) → N3 (128 * s + 17) i = N1 (128 * s + 17) i := fun i q => (n3 _ _ (by omega)).trans (fa _ _ (by omega) (by omega) (by omega) (by omega) (by omega))
      have nN2 : ∀ L i, i < 0 → L = 128 * s + 18 ∨ L = 128 * s + 19 → N3 L i = N1 L i := fun L i q q' => (n3 _ _ (by omega)).trans (fa _ _ (by omega) (by omega) (by omega) (by omega) (by omega))
      have z31 : V3 (c (128 * s + 17)) 1 = c (128 * s + 18) := (v3 _ _ (by decide)).trans ((nN1 1 (by omega)).trans r1)
      have z32 : V3 (c (128 * s + 17)) 2 = c (128 * s + 19) := (v3 _ _ (by decide)).trans ((nN1 2 (by omega)).trans r2)
      have z33 : V3 (c (128 * s + 17)) 3 = k := (v3 _ _ (by decide)).trans ((n3 _ _ (by omega)).trans q1)
      have z39 : V3 (c 50) 9 = W (j + 1) := (v3 _ _ (by decide)).trans n39
      have zx3 := ts3.x hW3
      have zl : V3 (c 120) 2 = ln := (v3 _ _ (by decide)).trans ((n3 _ _ (by omega)).trans ls.lv)
      rw [z31, z32, z33, z39, zx3.2.2.2.1, zl]
      have hW4 : Wv c S (up (up (up V3 (c (128 * s + 18)) k (W (j + 1))) (c (128 * s + 19)) k ln) (c (128 * s + 17)) 3 (k + 1)) = up (up (up N3 (128 * s + 18) k (W (j + 1))) (128 * s + 19) k ln) (128 * s + 17) 3 (k + 1) := by rw [Wv_up hc (by decide), Wv_up hc q3, Wv_up hc q3, hW3]
      have n4 : ∀ L i, ¬ (L = 128 * s + 18 ∧ i = k) → ¬ (L = 128 * s + 19 ∧ i = k) → ¬ (L = 128 * s + 17 ∧ i = 3) → up (up (up N3 (128 * s + 18) k (W (j + 1))) (128 * s + 19) k ln) (128 * s + 17) 3 (k + 1) L i = N3 L i := fun L i a1 a2 a3 => by rw [up_ne' (by omega), up_ne' (by omega), up_ne' (by omega)]
      have n4a : up (up (up N3 (128 * s + 18) k (W (j + 1))) (128 * s + 19) k ln) (128 * s + 17) 3 (k + 1) (128 * s + 18) k = W (j + 1) := by rw [up_ne' (by omega), up_ne' (by omega), up_eq]
      have n4b : up (up (up N3 (128 * s + 18) k (W (j + 1))) (128 * s + 19) k ln) (128 * s + 17) 3 (k + 1) (128 * s + 19) k = ln := by rw [up_ne' (by omega), up_eq]
      have n4c : up (up (up N3 (128 * s + 18) k (W (j + 1))) (128 * s + 19) k ln) (128 * s + 17) 3 (k + 1) (128 * s + 17) 3 = k + 1 := up_eq
      have ts4 : TS c (up (up (up N3 (128 * s + 18) k (W (j + 1))) (128 * s + 19) k ln) (128 * s + 17) 3 (k + 1)) M3 K P W E nt (j + 1 + 1) := ts3.fr (fun _ _ => rfl) (fun L i q => n4 L i (by unfold rdR at q; omega) (by unfold rdR at q; omega) (by unfold rdR at q; omega)) (fun _ _ => rfl) (fun _ => rfl)
      generalize hN4 : up (up (up N3 (128 * s + 18) k (W (j + 1))) (128 * s + 19) k ln) (128 * s + 17) 3 (k + 1) = N4 at *
      refine ⟨g17, yf, by rw [tg3]; exact (nN2 _ _ (by decide) (Or.inl rfl)).trans t18, q3, by rw [ln3, nN2 _ _ (by decide) (Or.inl rfl), l18]; omega, yg, by rw [tg3]; exact (nN2 _ _ (by decide) (Or.inr rfl)).trans t19, by rw [ln3, nN2 _ _ (by decide) (Or.inr rfl), l19]; omega, by omega, by omega, CT.im (by omega) (fun d4 hd4 => ct_emit (n := ln) hc hW4 ts4.rd ((n4 _ _ (by omega) (by omega) (by omega)).trans ((n3 _ _ (by omega)).trans ls.lv)) l0 (by omega) (fun V5 hW5 => ⟨yf, ?_⟩))⟩
      have n5 : ∀ L i, ¬ (L = 50 ∧ 6 ≤ i ∧ i ≤ 9) → ¬ (L = 120 ∧ i = 2) → ¬ ((L = 121 ∨ L = 122) ∧ i = ln) → ¬ ((L = 128 * s + 18 ∨ L = 128 * s + 19) ∧ i = k) → ¬ (L = 128 * s + 17 ∧ i = 3) → nEm N4 ln 14 (j + 1) L i = N L i := fun L i a1 a2 a3 a4 a5 => by rw [nEm_ne (by omega), n4 _ _ (by omega) (by omega) (by omega), n3 _ _ a1]
      have n5o : nEm N4 ln 14 (j + 1) 121 ln = 14 := nEm_o
      have n5p : nEm N4 ln 14 (j + 1) 122 ln = j + 1 := nEm_a
      have n5l : nEm N4 ln 14 (j + 1) 120 2 = ln + 1 := nEm_l
      have n5a : nEm N4 ln 14 (j + 1) (128 * s + 18) k = W (j + 1) := (nEm_ne (by omega)).trans n4a
      have n5b : nEm N4 ln 14 (j + 1) (128 * s + 19) k = ln := (nEm_ne (by omega)).trans n4b
      have n5c : nEm N4 ln 14 (j + 1) (128 * s + 17) 3 = k + 1 := (nEm_ne (by omega)).trans n4c
      have ts5 : TS c (nEm N4 ln 14 (j + 1)) M3 K P W E nt (j + 1 + 1) := ts4.em l0
      generalize hN5 : nEm N4 ln 14 (j + 1) = N5 at *
      have m3 : ∀ i h, ¬ (i = 0 ∧ ((3 ≤ h ∧ h ≤ 6) ∨ h = 51)) → ¬ (i = 31 ∧ h = 12 * s + k) → ¬ (i = 30 ∧ h = s) → ¬ (48 ≤ i ∧ i ≤ 50 ∧ h = R) → M3 i h = M i h := fun i h a1 a2 a3 a4 => (lx3 i h (by omega)).trans ((mu i h a2 a3 a4 (by omega)).trans (m2 i h (by omega)))
      have m331 : M3 31 (12 * s + k) = nm := (lx3 _ _ (by omega)).trans mu31
      have m330 : M3 30 s = k + 1 := (lx3 _ _ (by omega)).trans mu30
      have m348 : M3 48 R = -1 - (12 * s + k) := (lx3 _ _ (by omega)).trans mu48
      have m349 : M3 49 R = -1 := (lx3 _ _ (by omega)).trans mu49
      have m350 : M3 50 R = nm := (lx3 _ _ (by omega)).trans mu50
      have m351 : M3 0 51 = R + 1 := (lx3 _ _ (by omega)).trans mu51
      have ref3 : ∀ Qr : Int → Mem → Prop, PM e' n_sign_0 [58] M3 (fun z7 M7 => PM e' n_readExpr_0 [0, 0, 0] M7 (fun z9 M9 => 0 ≤ 12 * s + k ∧ 12 * s + k < 4320 ∧ PM e' n_sign_0 [59] (up M9 33 (12 * s + k) z9) (fun z11 M11 => Qr 0 M11))) → PM (e' + 1) n_readCase_0 [s] M Qr := fun Qr hq => ref2 Qr (rn3 _ hq)
      exact cs_expr (e' := e') (N := N) (M := M) (R := R) (nm := nm) hc cn (by omega) (by omega) s0 s1 se se2 stx (by omega) j12 k3 hW5 n5 n5o n5p n5l n5a n5b n5c ts5 hR m3 m331 m330 m348 m349 m350 m351 hnm (nr.1.m7 (fun t => (m2 _ _ (by omega)).symm)) fd ref3 hok hbad
  · have wq : ¬ (mFt M2 (if K (j + 1) = 0 then 1 else 2) (P (j + 1)) 0 46 ≤ 0) := by
      have : 0 < mFt M2 (if K (j + 1) = 0 then 1 else 2) (P (j + 1)) 0 46 := by rw [mFt_46]; exact ftp (by decide)
      omega
    refine rfs0 _ 2 (Or.inl ⟨k3, rfl⟩) (fun Qr hq => st_readCase_26 ⟨s0, s1, fun _ => ts2.new0 (f := 2) (Or.inl ⟨k3, rfl⟩) w2 (by omega) _ ⟨fun y => absurd y wq, fun _ => hq⟩, fun _ => ts2.nm0 k3 (by omega) _ ⟨fun _ => ts2.new0 (f := 2) (Or.inl ⟨k3, rfl⟩) w2 (by omega) _ ⟨fun y => absurd y wq, fun _ => hq⟩, fun y => absurd rfl y⟩⟩) _ (fun V' hq => ⟨fun y => absurd rfl y, fun _ => hq⟩)
end CSR
