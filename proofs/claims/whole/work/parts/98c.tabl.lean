/-! ===== book: tables ===== -/
section TBT
variable {l : Launch} {G : GT} {c c5 c0 : Int → Int} {S5 : Sh} {V6 N N6 M M2 gm N0 M0 : Mem} {Q : Int → Sh → Mem → Prop} {d mc ms ee : Nat} {ow eo cs K P W E : Int → Int} {nt b B j ln e nc nu nk nh ns cb t : Int}
set_option maxHeartbeats 2000000 in
theorem tb_tail (hc5 : Cn c5 S5) (h5 : 0 ≤ S5.2.2) (h : RDI c N M gm ow eo cs K P W E nt b B 0 j ln e nc nu nk nh ns cb 0) (gf : GF b B c0 N0 M0 c N M) (hd : 85 ≤ d) (he : 105 ≤ ee) (ht : t = 4 * (12 * b + e) + nu) (nu4 : nu < 4) (y50 : c 50 = c5 50) (fc : ∀ L, L ≠ 128 * t + 9 → L ≠ 128 * t + 10 → L ≠ 128 * t + 11 → c5 L = c L) (hW6 : Wv c5 S5 V6 = N6) (n6 : ∀ L k, ¬ (L = 50 ∧ 6 ≤ k ∧ k ≤ 9) → L ≠ 128 * t + 9 → L ≠ 128 * t + 10 → L ≠ 128 * t + 11 → ¬ (L = 128 * (12 * b + e) + 3 ∧ k = 8) → ¬ (L = 128 * (12 * b + e) + 8 ∧ k = nu) → N6 L k = N L k) (n6b : N6 (128 * (12 * b + e) + 3) 8 = nu + 1) (n6a : N6 (128 * (12 * b + e) + 8) nu = c5 (128 * t + 9)) (s0 : N6 (128 * t + 9) (-1) = 9) (s1 : N6 (128 * t + 9) 0 = W (j + 1)) (s2 : N6 (128 * t + 9) 1 = c5 (128 * t + 10)) (s3 : N6 (128 * t + 9) 2 = c5 (128 * t + 11)) (s4 : N6 (128 * t + 10) (-1) = 20) (s5 : N6 (128 * t + 10) (-2) = 12) (s6 : N6 (128 * t + 11) (-1) = 20) (s7 : N6 (128 * t + 11) (-2) = 12) (s8 : N6 (128 * t + 9) 3 = 0) (s9 : N6 (128 * t + 9) 4 = 0) (ts6 : TS c5 N6 M2 K P W E nt (j + 1 + 1)) (m2 : ∀ k i, ¬ (k = 0 ∧ 3 ≤ i ∧ i ≤ 6) → ¬ ((k = 23 ∨ k = 24) ∧ i = t) → ¬ (k = 15 ∧ i = 12 * b + e) → M2 k i = M k i) (m223 : M2 23 t = nmv P E b (j + 1)) (m224 : M2 24 t = 0) (m215 : M2 15 (12 * b + e) = nu + 1) (nr : NR M (W (j + 1)) (nmv P E b (j + 1)))
    (pre2 : ∀ Qr : Int → Mem → Prop, PM ee n_sign_0 [61] M2 (fun z11 M11 => PM ee n_sign_0 [91] M11 (fun z13 M13 => PM ee n_readEntry_0 [t] M13 (fun z15 M15 => PM (ee + 1) n_readTable_106 [nmv P E b (j + 1), t] M15 (fun _ M47 => Qr 0 M47)))) → PM (ee + 2) n_readMember_0 [] M Qr)
    (hok : ∀ V' M' gm' ow' eo' j' ln', RDI c5 (Wv c5 S5 V') M' gm' ow' eo' cs K P W E nt b B 0 j' ln' e nc (nu + 1) nk nh ns cb 0 → GF b B c0 N0 M0 c5 (Wv c5 S5 V') M' → j < j' → RunM (ee + 2) n_readMember_0 [] M 0 M' → Q 1 S5 V')
    (hbad : ∀ V' M', GF b B c0 N0 M0 c5 (Wv c5 S5 V') M' → FTS (Wv c5 S5 V') M' → RunM (ee + 2) n_readMember_0 [] M 0 M' → Q 0 S5 V') :
    CT l G bX5_accept d mc ms [vr (c 50), vi 61] S5 V6 (fun z31 S31 V31 mc31 ms31 => (z31 = 0 → Q 0 S31 V31) ∧ (¬ (z31 = 0) → S31.1 (c 50) = 6 ∧ CT l G bX5_accept d mc31 ms31 [vr (c 50), vi 91] S31 V31 (fun z34 S34 V34 mc34 ms34 => (z34 = 0 → Q 0 S34 V34) ∧ (¬ (z34 = 0) → S34.1 (c 50) = 6 ∧ CT l G bX5_readEntries d mc34 ms34 [vr (c 50), vr (c5 (128 * t + 9))] S34 V34 (fun z37 S37 V37 mc37 ms37 => (z37 = 0 → Q 0 S37 V37) ∧ (¬ (z37 = 0) → S37.1 (c 50) = 6 ∧ CT l G bX5_accept d mc37 ms37 [vr (c 50), vi 93] S37 V37 (fun z40 S40 V40 mc40 ms40 => (z40 = 0 → Q 0 S40 V40) ∧ (¬ (z40 = 0) → S40.1 (c 50) = 6 ∧ CT l G bX5_accept d mc40 ms40 [vr (c 50), vi 59] S40 V40 (fun z43 S43 V43 mc43 ms43 => (z43 = 0 → Q 0 S43 V43) ∧ (¬ (z43 = 0) → Q 1 S43 V43)))))))))) := by
  subst ht
  obtain ⟨e0, e1, b0, b1, B0, B1⟩ := h.bd
  have ls := h.ls
  have hE := h.he
  have l0 := ls.l0
  have lj := ls.lj
  have w0 := ls.w
  have u0 : 0 ≤ nu := by have := hE.nt0; have := h.ct.2.1; omega
  have BX : B ≤ M 0 40 := h.wd.2.2.2.2.2.2.1
  have cn : CN b B 0 := ⟨b0, b1, B0, B1, by decide, by decide⟩
  have g50 : S5.1 (c5 50) = 6 := (ts6.x hW6).2.2.2.2.2.1
  rw [y50]
  have tc : ∀ k, k = 9 ∨ k = 10 ∨ k = 11 → cuN b e (128 * (4 * (12 * b + e) + nu) + k) := fun k q => Or.inr (Or.inr (Or.inl ⟨by omega, by omega, by omega⟩))
  have gfr : ∀ N' M' : Mem, (∀ L k, ¬ (L = 50 ∧ 5 ≤ k ∧ k ≤ 11) → ¬ (L = 120 ∧ k = 2) → ¬ ((L = 121 ∨ L = 122) ∧ ln ≤ k) → L ≠ 128 * (4 * (12 * b + e) + nu) + 9 → L ≠ 128 * (4 * (12 * b + e) + nu) + 10 → L ≠ 128 * (4 * (12 * b + e) + nu) + 11 → ¬ (L = 128 * (12 * b + e) + 3 ∧ k = 8) → ¬ (L = 128 * (12 * b + e) + 8 ∧ k = nu) → N' L k = N L k) → (∀ k i, ¬ (k = 0 ∧ ((3 ≤ i ∧ i ≤ 6) ∨ i = 40 ∨ (42 ≤ i ∧ i ≤ 47) ∨ i = 51)) → ¬ (35 ≤ k ∧ k ≤ 39 ∧ M 0 40 ≤ i) → ¬ (48 ≤ k ∧ k ≤ 50 ∧ M 0 51 ≤ i) → ¬ (k = 15 ∧ i = 12 * b + e) → ¬ ((k = 23 ∨ k = 24) ∧ i = 4 * (12 * b + e) + nu) → ¬ (k = 25 ∧ 12 * (4 * (12 * b + e) + nu) ≤ i ∧ i < 12 * (4 * (12 * b + e) + nu) + 12) → M' k i = M k i) → GF b B c0 N0 M0 c5 N' M' := fun N' M' n m => gf.cu (ln := ln) (X := M 0 40) (R := M 0 51) e0 e1 l0 BX ⟨fun L q => fc L (fun y => q (by rw [y]; exact tc 9 (by omega))) (fun y => q (by rw [y]; exact tc 10 (by omega))) (fun y => q (by rw [y]; exact tc 11 (by omega))), fun L k q1 q2 q3 q4 q5 q6 => n L k q2 q5 q6 (fun y => q1 (by rw [y]; exact tc 9 (by omega))) (fun y => q1 (by rw [y]; exact tc 10 (by omega))) (fun y => q1 (by rw [y]; exact tc 11 (by omega))) (fun y => q1 (by rw [y.1]; exact cu3 (by omega))) (fun y => q1 (by rw [y.1]; exact cu3 (by omega))), fc _ (by omega) (by omega) (by omega), n _ _ (by omega) (by omega) (by omega) (by omega) (by omega) (by omega) (by omega) (by omega), n _ _ (by omega) (by omega) (by omega) (by omega) (by omega) (by omega) (by omega) (by omega)⟩ (fun k i q => m k i (fun y => q (Or.inl y)) (fun y => q (Or.inr (Or.inr (Or.inr (Or.inr (Or.inr (Or.inr (Or.inr (Or.inr (Or.inr (Or.inr (Or.inl y)))))))))))) (fun y => q (Or.inr (Or.inr (Or.inr (Or.inr (Or.inr (Or.inr (Or.inr (Or.inr (Or.inr (Or.inr (Or.inr y)))))))))))) (fun y => q (by rw [y.1, y.2]; exact cum1 (by decide) (by decide))) (fun y => q (by rw [y.2]; exact cum4 (by omega) u0 nu4)) (fun y => q (by rw [y.1]; exact Or.inr (Or.inr (Or.inr (Or.inr (Or.inr (Or.inr (Or.inr (Or.inl ⟨rfl, by omega, by omega⟩))))))))))
  have wE : ∀ (Mx : Mem) (Qr : Int → Mem → Prop), 0 < Mx 0 46 → Qr 0 Mx → PM ee n_readEntry_0 [4 * (12 * b + e) + nu] Mx Qr := fun Mx Qr hw hq => by
    obtain ⟨e', rfl⟩ : ∃ e', ee = e' + 1 := ⟨ee - 1, by omega⟩
    exact st_readEntry_0 ⟨fun y => absurd hw (by omega), fun _ => hq⟩
  have w106 : ∀ (Mx : Mem) (Qr : Int → Mem → Prop), 0 < Mx 0 46 → Qr 0 Mx → PM (ee + 1) n_readTable_106 [nmv P E b (j + 1), 4 * (12 * b + e) + nu] Mx Qr := fun Mx Qr hw hq => st_readTable_106 ⟨fun _ => sn_w hw (by omega) _ (sn_w hw (by omega) _ hq), fun y => absurd (by omega) y⟩
  have w2 : M2 0 46 = 0 := (m2 _ _ (by omega) (by omega) (by omega)).trans w0
  refine CT.im (by omega) (fun d1 hd1 => ?_)
  by_cases k61 : K (j + 1 + 1) = 61
  · refine ct_acc1 (e := ee - 1) hc5 hW6 ts6 k61 (by decide) (by omega) (by omega) (fun V7 M3 hW7 ts7 lx7 rn7 => ⟨fun y => absurd y (by decide), fun _ => ⟨g50, CT.im (by omega) (fun d2 hd2 => ?_)⟩⟩)
    have n7 : ∀ L k, ¬ (L = 50 ∧ 6 ≤ k ∧ k ≤ 8) → nPs N6 (j + 1 + 1 + 1) (K (j + 1 + 1 + 1)) (W (j + 1 + 1 + 1)) L k = N6 L k := fun L k q => nPs_ne q
    have w3 : M3 0 46 = 0 := (lx7 _ _ (by omega)).trans w2
    by_cases k91 : K (j + 1 + 1 + 1) = 91
    · refine ct_acc1 (e := ee - 1) hc5 hW7 ts7 k91 (by decide) (by omega) (by omega) (fun V8 M4 hW8 ts8 lx8 rn8 => ⟨fun y => absurd y (by decide), fun _ => ⟨g50, CT.im (by omega) (fun d3 hd3 => ?_)⟩⟩)
      have n8 : ∀ L k, ¬ (L = 50 ∧ 6 ≤ k ∧ k ≤ 8) → nPs (nPs N6 (j + 1 + 1 + 1) (K (j + 1 + 1 + 1)) (W (j + 1 + 1 + 1))) (j + 1 + 1 + 1 + 1) (K (j + 1 + 1 + 1 + 1)) (W (j + 1 + 1 + 1 + 1)) L k = N6 L k := fun L k q => (nPs_ne q).trans (n7 L k q)
      have m4 : ∀ k i, ¬ (k = 0 ∧ 3 ≤ i ∧ i ≤ 6) → M4 k i = M2 k i := fun k i q => (lx8 k i q).trans (lx7 k i q)
      generalize hN8 : nPs (nPs N6 (j + 1 + 1 + 1) (K (j + 1 + 1 + 1)) (W (j + 1 + 1 + 1))) (j + 1 + 1 + 1 + 1) (K (j + 1 + 1 + 1 + 1)) (W (j + 1 + 1 + 1 + 1)) = N8 at *
      have n8N : ∀ L k, ¬ (L = 50 ∧ 6 ≤ k ∧ k ≤ 9) → L ≠ 128 * (4 * (12 * b + e) + nu) + 9 → L ≠ 128 * (4 * (12 * b + e) + nu) + 10 → L ≠ 128 * (4 * (12 * b + e) + nu) + 11 → ¬ (L = 128 * (12 * b + e) + 3 ∧ k = 8) → ¬ (L = 128 * (12 * b + e) + 8 ∧ k = nu) → N8 L k = N L k := fun L k q0 q1 q2 q3 q4 q5 => (n8 L k (by omega)).trans (n6 L k q0 q1 q2 q3 q4 q5)
      have m4M : ∀ k i, ¬ (k = 0 ∧ 3 ≤ i ∧ i ≤ 6) → ¬ ((k = 23 ∨ k = 24) ∧ i = 4 * (12 * b + e) + nu) → ¬ (k = 15 ∧ i = 12 * b + e) → M4 k i = M k i := fun k i q0 q1 q2 => (m4 k i q0).trans (m2 k i q0 q1 q2)
      have x40 : M4 0 40 = M 0 40 := m4M _ _ (by omega) (by omega) (by omega)
      have x51 : M4 0 51 = M 0 51 := m4M _ _ (by omega) (by omega) (by omega)
      have ls8 : MLS c5 N8 M4 K P W E nt b (12 * b + e) 0 B (j + 1 + 1 + 1 + 1) ln := ls.fr (st' := 0) ts8 ((n8N _ _ (by omega) (by omega) (by omega) (by omega) (by omega) (by omega)).trans ls.sv) ((n8N _ _ (by omega) (by omega) (by omega) (by omega) (by omega) (by omega)).trans ls.lv) (fun i _ _ => n8N _ _ (by omega) (by omega) (by omega) (by omega) (by omega) (by omega)) (by omega) x51 x40 ((m4 _ _ (by omega)).trans w2) ((n8N _ _ (by omega) (by omega) (by omega) (by omega) (by omega) (by omega)).trans ls.f) (m4M _ _ (by omega) (by omega) (by omega)) (m4M _ _ (by omega) (by omega) (by omega))
      have wd8 := h.wd.fr (R := M 0 51) (gm' := gm) (N' := N8) (M' := M4) ⟨fun i _ _ => ⟨n8N _ _ (by omega) (by omega) (by omega) (by omega) (by omega) (by omega), n8N _ _ (by omega) (by omega) (by omega) (by omega) (by omega) (by omega)⟩, fun _ _ _ => rfl, fun _ _ => rfl, fun k i _ _ _ => m4M _ _ (by omega) (by omega) (by omega), fun k i _ _ _ => m4M _ _ (by omega) (by omega) (by omega)⟩ ls.r
      rw [← x40] at wd8
      have cvN : ∀ N' : Mem, fEa (4 * (12 * b + e) + nu) ln N8 N' → ∀ L k, ¬ (L = 50 ∧ 5 ≤ k ∧ k ≤ 11) → ¬ (L = 120 ∧ k = 2) → ¬ ((L = 121 ∨ L = 122) ∧ ln ≤ k) → L ≠ 128 * (4 * (12 * b + e) + nu) + 9 → L ≠ 128 * (4 * (12 * b + e) + nu) + 10 → L ≠ 128 * (4 * (12 * b + e) + nu) + 11 → ¬ (L = 128 * (12 * b + e) + 3 ∧ k = 8) → ¬ (L = 128 * (12 * b + e) + 8 ∧ k = nu) → N' L k = N L k := fun N' f L k q1 q2 q3 q4 q5 q6 q7 q8 => (f L k (by omega) q2 q3 (by omega) (by omega)).trans (n8N L k (by omega) q4 q5 q6 q7 q8)
      have cvM : ∀ M' : Mem, fEb (4 * (12 * b + e) + nu) (M4 0 40) (M4 0 51) M4 M' → ∀ k i, ¬ (k = 0 ∧ ((3 ≤ i ∧ i ≤ 6) ∨ i = 40 ∨ (42 ≤ i ∧ i ≤ 47) ∨ i = 51)) → ¬ (35 ≤ k ∧ k ≤ 39 ∧ M 0 40 ≤ i) → ¬ (48 ≤ k ∧ k ≤ 50 ∧ M 0 51 ≤ i) → ¬ (k = 15 ∧ i = 12 * b + e) → ¬ ((k = 23 ∨ k = 24) ∧ i = 4 * (12 * b + e) + nu) → ¬ (k = 25 ∧ 12 * (4 * (12 * b + e) + nu) ≤ i ∧ i < 12 * (4 * (12 * b + e) + nu) + 12) → M' k i = M k i := fun M' f k i q1 q2 q3 q4 q5 q6 => (f k i q1 (by omega) (by omega) (by omega) q6).trans (m4M k i (by omega) q5 q4)
      refine qX5_readEntries fun _ _ => vX5_readEntries_0 (tb_loop (ee := ee) (N1 := N8) (M1 := M4) (gm1 := gm) (ow1 := ow) (eo1 := eo) (ln1 := ln) (F := N (128 * (12 * b + e) + 3) 1) (u := nu) (nm := nmv P E b (j + 1)) (j0 := j + 1 + 1 + 1 + 1) (Xq := fun QT => ∀ Qr : Int → Mem → Prop, QT = (fun _ M47 => Qr 0 M47) → PM (ee + 2) n_readMember_0 [] M Qr) hc5 cn (by omega) (by omega) (by omega) (by omega) e0 e1 u0 nu4 ((n8 _ _ (by omega)).trans s0) ((n8 _ _ (by omega)).trans s2) ((n8 _ _ (by omega)).trans s4) ((n8 _ _ (by omega)).trans s5) (fun V9 M9 gm9 ow9 eo9 j9 l9 k9 st9 k91' jj9 k44 run9 => ⟨fun y => absurd y (by decide), fun _ => ⟨g50, CT.im (by omega) (fun d4 hd4 => ?_)⟩⟩) (fun V9 M9 f1 f2 fts run9 => ⟨fun _ => hbad V9 M9 (gfr _ _ (cvN _ f1) (cvM _ f2)) fts (fun Qr hq => run9 _ (w106 M9 (fun _ M47 => Qr 0 M47) fts.1 hq) Qr rfl), fun y => absurd rfl y⟩) 12 0 (j + 1 + 1 + 1 + 1) ln V8 N8 M4 gm ow eo (by omega) hW8 (Int.le_refl _) (by omega) ⟨ls8, ⟨fun _ _ _ _ _ _ _ => rfl, fun _ _ _ _ _ _ _ => rfl⟩, ⟨fun _ _ _ => rfl, fun _ _ => rfl, fun _ _ => rfl⟩, wd8, ⟨(n8 _ _ (by omega)).trans s8, (m4 _ _ (by omega)).trans m224, by decide, by decide⟩, fun i i0 i1 => by omega, Int.le_refl _, Int.le_refl _, Int.le_refl _⟩ (fun QT hq Qr eQ => pre2 Qr (ts6.sn1 w2 (by decide) k61 (by omega) rn7 _ (ts7.sn1 w3 (by decide) k91 (by omega) rn8 _ (by subst eQ; exact hq)))))
      obtain ⟨ls9, ⟨fa9, fb9⟩, ⟨gg1, gg2, gg3⟩, wd9, ⟨t1, t2, t3, t4⟩, rts, ⟨bn1, bn2, bn3⟩⟩ := st9
      have r106 : ∀ Qr : Int → Mem → Prop, PM ee n_sign_0 [93] M9 (fun z9 M9 => PM ee n_sign_0 [59] M9 (fun z11 M11 => Qr 0 M11)) → PM (ee + 2) n_readMember_0 [] M Qr := fun Qr hq => run9 (fun _ M47 => Qr 0 M47) (st_readTable_106 ⟨fun y => absurd ls9.w y, fun _ => ls9.ts.sg0 (by decide) k44 (by omega) _ ⟨fun _ => hq, fun y => absurd rfl y⟩⟩) Qr rfl
      by_cases k93 : K j9 = 93
      · refine ct_acc1 (e := ee - 1) hc5 rfl ls9.ts k93 (by decide) (by omega) (by omega) (fun VA MA hWA tsA lxA rnA => ⟨fun y => absurd y (by decide), fun _ => ⟨g50, CT.im (by omega) (fun d5 hd5 => ?_)⟩⟩)
        have wA : MA 0 46 = 0 := (lxA _ _ (by omega)).trans ls9.w
        by_cases k59 : K (j9 + 1) = 59
        · refine ct_acc1 (e := ee - 1) hc5 hWA tsA k59 (by decide) (by omega) (by omega) (fun VB MB hWB tsB lxB rnB => ⟨fun y => absurd y (by decide), fun _ => ?_⟩)
          have nB : ∀ L k, ¬ (L = 50 ∧ 6 ≤ k ∧ k ≤ 8) → Wv c5 S5 VB L k = Wv c5 S5 V9 L k := fun L k q => by rw [hWB, nPs_ne q, nPs_ne q]
          have mB : ∀ k i, ¬ (k = 0 ∧ 3 ≤ i ∧ i ≤ 6) → MB k i = M9 k i := fun k i q => (lxB k i q).trans (lxA k i q)
          have xB : MB 0 40 = M9 0 40 := mB _ _ (by omega)
          have G9B : GRW (M9 0 40) l9 (M9 0 51) (Wv c5 S5 V9) M9 gm9 ow9 (Wv c5 S5 VB) MB gm9 ow9 := ⟨fun i _ _ => ⟨nB _ _ (by omega), nB _ _ (by omega)⟩, fun _ _ _ => rfl, fun _ _ => rfl, fun k i _ _ _ => mB _ _ (by omega), fun k i _ _ _ => mB _ _ (by omega)⟩
          have lsB : MLS c5 (Wv c5 S5 VB) MB K P W E nt b (12 * b + e) 0 B (j9 + 1 + 1) l9 := ls9.fr (st' := 0) (by rw [hWB]; exact tsB) ((nB _ _ (by omega)).trans ls9.sv) ((nB _ _ (by omega)).trans ls9.lv) (fun i _ _ => nB _ _ (by omega)) (by omega) (mB _ _ (by omega)) xB ((mB _ _ (by omega)).trans ls9.w) ((nB _ _ (by omega)).trans ls9.f) (mB _ _ (by omega)) (mB _ _ (by omega))
          have faB : fEa (4 * (12 * b + e) + nu) ln N8 (Wv c5 S5 VB) := fun L k q1 q2 q3 q4 q5 => (nB L k (by omega)).trans (fa9 L k q1 q2 q3 q4 q5)
          have fbB : fEb (4 * (12 * b + e) + nu) (M4 0 40) (M4 0 51) M4 MB := fun k i q1 q2 q3 q4 q5 => (mB k i (by omega)).trans (fb9 k i q1 q2 q3 q4 q5)
          have nT : ∀ L k, (L = 128 * (4 * (12 * b + e) + nu) + 9 ∧ k ≠ 3) ∨ (L = 128 * (4 * (12 * b + e) + nu) + 10 ∧ k < 0) ∨ L = 128 * (4 * (12 * b + e) + nu) + 11 ∨ L = 128 * (12 * b + e) + 3 ∨ L = 128 * (12 * b + e) + 8 → Wv c5 S5 VB L k = N6 L k := fun L k q => (faB L k (by omega) (by omega) (by omega) (by omega) (by omega)).trans (n8 L k (by omega))
          have itB : IT c5 (Wv c5 S5 VB) MB gm9 ow9 B (MB 0 40) l9 e (4 * (12 * b + e) + nu) nu := by
            refine ⟨⟨(nT _ _ (by omega)).trans s0, (nT _ _ (by omega)).trans s2, (nT _ _ (by omega)).trans s4, (nT _ _ (by omega)).trans s5, (nT _ _ (by omega)).trans s3, (nT _ _ (by omega)).trans s6, (nT _ _ (by omega)).trans s7, (nT _ _ (by omega)).trans s9⟩, ?_, ⟨?_, ?_, ?_⟩, fun i i0 i1 => ?_⟩
            · rw [nT _ _ (by omega), s1, fbB 23 _ (by omega) (by omega) (by omega) (by omega) (by omega), m4 _ _ (by omega), m223]
              exact nr.m7 (fun i => (fbB 7 i (by omega) (by omega) (by omega) (by omega) (by omega)).trans (m4M 7 i (by omega) (by omega) (by omega)))
            · rw [nB _ _ (by omega), mB 24 _ (by omega), t1, t2]
            · rw [mB 24 _ (by omega), t2]; exact t3
            · rw [mB 24 _ (by omega), t2]; exact t4
            · rw [mB 24 _ (by omega), t2] at i1
              rw [nB _ _ (by omega), mB 25 _ (by omega), xB]
              exact (rts i i0 i1).fr G9B (Int.le_refl _) (Int.le_refl _)
          have wdB := wd9.fr G9B ls9.r
          rw [← xB] at wdB
          obtain ⟨rdB, fnB, fmB⟩ := tb_fin h nu4 fc (cvN _ faB) ((nT _ _ (by omega)).trans n6b) ((nT _ _ (by omega)).trans n6a) (cvM _ fbB) ((fbB 15 _ (by omega) (by omega) (by omega) (by omega) (by omega)).trans ((m4 _ _ (by omega)).trans m215)) itB lsB (fun k y q => gg1 k y (by omega)) gg2 gg3 (by omega) bn2 wdB
          exact hok VB MB gm9 ow9 eo9 (j9 + 1 + 1) l9 rdB (gfr _ _ (cvN _ faB) (cvM _ fbB)) (by omega) (fun Qr hq => r106 Qr (ls9.ts.sn1 ls9.w (by decide) k93 (by omega) rnA _ (tsA.sn1 wA (by decide) k59 (by omega) rnB _ hq)))
        · refine ct_acc0 hc5 hWA tsA k59 (by omega) (fun VB hWB => ⟨fun _ => ?_, fun y => absurd rfl y⟩)
          refine hbad VB (mFt MA (if K (j9 + 1) = 0 then 1 else 2) (P (j9 + 1))) (gfr _ _ (cvN _ (fun L k q1 q2 q3 q4 q5 => ?_)) (cvM _ (fun k i q1 q2 q3 q4 q5 => ?_))) (by rw [hWB]; exact FTS.ft (ftp (by decide))) (fun Qr hq => r106 Qr (ls9.ts.sn1 ls9.w (by decide) k93 (by omega) rnA _ (tsA.sn0 wA (by decide) k59 (by omega) _ hq)))
          · rw [hWB, nFt_ne (by omega), nPs_ne (by omega)]; exact fa9 L k q1 q2 q3 q4 q5
          · rw [mFt_ne (by omega), lxA _ _ (by omega)]; exact fb9 k i q1 q2 q3 q4 q5
      · refine ct_acc0 hc5 rfl ls9.ts k93 (by omega) (fun VB hWB => ⟨fun _ => ?_, fun y => absurd rfl y⟩)
        have wp : 0 < mFt M9 (if K j9 = 0 then 1 else 2) (P j9) 0 46 := by rw [mFt_46]; exact ftp (by decide)
        refine hbad VB (mFt M9 (if K j9 = 0 then 1 else 2) (P j9)) (gfr _ _ (cvN _ (fun L k q1 q2 q3 q4 q5 => ?_)) (cvM _ (fun k i q1 q2 q3 q4 q5 => ?_))) (by rw [hWB]; exact FTS.ft (ftp (by decide))) (fun Qr hq => r106 Qr (ls9.ts.sn0 ls9.w (by decide) k93 (by omega) _ (sn_w wp (by omega) _ hq)))
        · rw [hWB, nFt_ne (by omega)]; exact fa9 L k q1 q2 q3 q4 q5
        · rw [mFt_ne (by omega)]; exact fb9 k i q1 q2 q3 q4 q5
    · refine ct_acc0 hc5 hW7 ts7 k91 (by omega) (fun V8 hW8 => ⟨fun _ => ?_, fun y => absurd rfl y⟩)
      have wp : 0 < mFt M3 (if K (j + 1 + 1 + 1) = 0 then 1 else 2) (P (j + 1 + 1 + 1)) 0 46 := by rw [mFt_46]; exact ftp (by decide)
      refine hbad V8 (mFt M3 (if K (j + 1 + 1 + 1) = 0 then 1 else 2) (P (j + 1 + 1 + 1))) (gfr _ _ (fun L k q1 q2 q3 q4 q5 q6 q7 q8 => ?_) (fun k i q1 q2 q3 q4 q5 q6 => ?_)) (by rw [hW8]; exact FTS.ft (ftp (by decide))) (fun Qr hq => pre2 Qr (ts6.sn1 w2 (by decide) k61 (by omega) rn7 _ (ts7.sn0 w3 (by decide) k91 (by omega) _ (wE _ _ wp (w106 _ _ wp hq)))))
      · rw [hW8, nFt_ne (by omega), n7 _ _ (by omega)]; exact n6 L k (by omega) q4 q5 q6 q7 q8
      · rw [mFt_ne (by omega), lx7 _ _ (by omega)]; exact m2 k i (by omega) q5 q4
  · refine ct_acc0 hc5 hW6 ts6 k61 (by omega) (fun V7 hW7 => ⟨fun _ => ?_, fun y => absurd rfl y⟩)
    have wp : 0 < mFt M2 (if K (j + 1 + 1) = 0 then 1 else 2) (P (j + 1 + 1)) 0 46 := by rw [mFt_46]; exact ftp (by decide)
    refine hbad V7 (mFt M2 (if K (j + 1 + 1) = 0 then 1 else 2) (P (j + 1 + 1))) (gfr _ _ (fun L k q1 q2 q3 q4 q5 q6 q7 q8 => ?_) (fun k i q1 q2 q3 q4 q5 q6 => ?_)) (by rw [hW7]; exact FTS.ft (ftp (by decide))) (fun Qr hq => pre2 Qr (ts6.sn0 w2 (by decide) k61 (by omega) _ (sn_w wp (by omega) _ (wE _ _ wp (w106 _ _ wp hq)))))
    · rw [hW7, nFt_ne (by omega)]; exact n6 L k (by omega) q4 q5 q6 q7 q8
    · rw [mFt_ne (by omega)]; exact m2 k i (by omega) q5 q4
end TBT
section TBR
variable {l : Launch} {G : GT} {c c0 : Int → Int} {S : Sh} {V N M gm N0 M0 : Mem} {Q : Int → Sh → Mem → Prop} {d ee : Nat} {ow eo cs K P W E : Int → Int} {nt b B j ln e nc nu nk nh ns cb : Int}
set_option maxHeartbeats 2000000 in
theorem rd_table (hc : Cn c S) (h0 : 0 ≤ S.2.2) (hW : Wv c S V = N) (h : RDI c N M gm ow eo cs K P W E nt b B 0 j ln e nc nu nk nh ns cb 0) (gf : GF b B c0 N0 M0 c N M) (k6 : K j = 6) (hd : 90 ≤ d) (he : 110 ≤ ee)
    (hok : ∀ c' S' V' M' gm' ow' eo' j' ln', Cn c' S' → 0 ≤ S'.2.2 → c' 50 = c 50 → RDI c' (Wv c' S' V') M' gm' ow' eo' cs K P W E nt b B 0 j' ln' e nc (nu + 1) nk nh ns cb 0 → GF b B c0 N0 M0 c' (Wv c' S' V') M' → j < j' → RunM (ee + 2) n_readMember_0 [] M 0 M' → Q 1 S' V')
    (hbad : ∀ c' S' V' M', Cn c' S' → 0 ≤ S'.2.2 → GF b B c0 N0 M0 c' (Wv c' S' V') M' → FTS (Wv c' S' V') M' → RunM (ee + 2) n_readMember_0 [] M 0 M' → Q 0 S' V') : Ct l G bX5_readTable Q d 3 29 [vr (c 50)] S V := by
  obtain ⟨e0, e1, b0, b1, B0, B1⟩ := h.bd
  have ls := h.ls
  have ts := ls.ts
  have hE := h.he
  have ntb := ts.ntb
  have l0 := ls.l0
  have lj := ls.lj
  have w0 := ls.w
  obtain ⟨q14, q15, q16, q17, q18⟩ := h.ct
  have u0 : 0 ≤ nu := by have := hE.nt0; omega
  have u1 := hE.nt1
  obtain ⟨ya, yb, yc, yd, ye, yf, yg⟩ := ts.x hW
  obtain ⟨v', tg, lnn⟩ := Wr hW
  have y4 : V (c 50) 4 = c (128 * (12 * b + e) + 3) := (v' _ _ (by decide)).trans h.cu
  have y8 : V (c (128 * (12 * b + e) + 3)) 8 = nu := (v' _ _ (by decide)).trans (hE.nt.trans q15)
  have BX : B ≤ M 0 40 := h.wd.2.2.2.2.2.2.1
  have cn : CN b B 0 := ⟨b0, b1, B0, B1, by decide, by decide⟩
  have pre : ∀ Qr : Int → Mem → Prop, B_readTable_0 (fun i' as' M' => PM (ee + 1) i' as' M' (fun _ M47 => Qr 0 M47)) (PM ee) (fun _ M47 => Qr 0 M47) ee M → PM (ee + 2) n_readMember_0 [] M Qr := fun Qr hq => st_readMember_0 (ts.wd0 1 (by decide) (by rw [k6]; decide) (by omega) _ ⟨fun _ => ts.wd1 2 (by decide) k6 (by omega) _ ⟨fun y => absurd y (by decide), fun _ => st_readTable_0 hq⟩, fun y => absurd rfl y⟩)
  refine qX5_readTable fun c50 => vX5_readTable_0 ?_
  rw [y4, y8]
  refine ⟨yf, (tg _).trans hE.tg, fun k3 => CT.im (by omega) (fun d1 hd1 => ct_mem0 hc hW ts (by omega) (fun V1 hW1 => ⟨fun y => absurd rfl y, fun _ => ?_⟩)), fun k3 => CT.im (by omega) (fun d1 hd1 => ct_mem (ee := ee) (mu := fun M1 => up (up (up M1 23 (4 * (12 * b + e) + nu) (nmv P E b (j + 1))) 24 (4 * (12 * b + e) + nu) 0) 15 (12 * b + e) (nu + 1)) hc hW h (by omega) (by omega) (by omega) (fun M1 i hi => ?_) (fun M1 i => ?_) (fun V2 M1 M2 hW2 ts2 lx1 rn1 rt rnn lx2 rn2 k3' jl2 nr knp => ⟨fun _ => ?_, fun y => absurd (by decide) y⟩) (fun V' M1 M' z fN fM fts rn1 rt rnn => ⟨fun y => absurd rfl y, fun _ => ?_⟩))⟩
  · refine hbad c S V1 (mFt M (if K j = 0 then 1 else 5) (P j)) hc h0 (gf.tr (fun _ _ => rfl) (fun L k q => by rw [hW1]; exact gf_nft q) (fun k i q => gf_mft q)) (by rw [hW1]; exact FTS.ft (ftp (by decide))) (fun Qr hq => pre Qr ?_)
    unfold B_readTable_0
    rw [ls.g41]
    exact ⟨by omega, by omega, fun y => absurd (by omega) y, fun _ => ts.ft w0 (by omega) _ hq⟩
  · show up (up (up M1 23 (4 * (12 * b + e) + nu) (nmv P E b (j + 1))) 24 (4 * (12 * b + e) + nu) 0) 15 (12 * b + e) (nu + 1) 0 i = M1 0 i
    rw [up_ne (by omega), up_ne (by omega), up_ne (by omega)]
  · show up (up (up M1 23 (4 * (12 * b + e) + nu) (nmv P E b (j + 1))) 24 (4 * (12 * b + e) + nu) 0) 15 (12 * b + e) (nu + 1) 1 i = M1 1 i
    rw [up_ne (by omega), up_ne (by omega), up_ne (by omega)]
  · obtain ⟨t, ht⟩ : ∃ t, t = 4 * (12 * b + e) + nu := ⟨_, rfl⟩
    rw [← ht] at lx2 rn2
    have g1 : M1 0 41 = 12 * b + e := (lx1 _ _ (by omega)).trans ls.g41
    have h15 : M1 15 (12 * b + e) = nu := (lx1 _ _ (by omega)).trans q15
    have w1 : M1 0 46 = 0 := (lx1 _ _ (by omega)).trans w0
    have m2 : ∀ k i, ¬ (k = 0 ∧ 3 ≤ i ∧ i ≤ 6) → ¬ ((k = 23 ∨ k = 24) ∧ i = t) → ¬ (k = 15 ∧ i = 12 * b + e) → M2 k i = M k i := fun k i q0 q1 q2 => (lx2 k i q0).trans ((by show up (up (up M1 23 t (nmv P E b (j + 1))) 24 t 0) 15 (12 * b + e) (nu + 1) k i = M1 k i; rw [up_ne (by omega), up_ne (by omega), up_ne (by omega)] : up (up (up M1 23 t (nmv P E b (j + 1))) 24 t 0) 15 (12 * b + e) (nu + 1) k i = M1 k i).trans (lx1 k i q0))
    have m223 : M2 23 t = nmv P E b (j + 1) := (lx2 _ _ (by omega)).trans (by rw [up_ne (by omega), up_ne (by omega), up_eq])
    have m224 : M2 24 t = 0 := (lx2 _ _ (by omega)).trans (by rw [up_ne (by omega), up_eq])
    have m215 : M2 15 (12 * b + e) = nu + 1 := (lx2 _ _ (by omega)).trans up_eq
    have w2 : M2 0 46 = 0 := (m2 _ _ (by omega) (by omega) (by omega)).trans w0
    have pre2 : ∀ Qr : Int → Mem → Prop, PM ee n_sign_0 [61] M2 (fun z11 M11 => PM ee n_sign_0 [91] M11 (fun z13 M13 => PM ee n_readEntry_0 [t] M13 (fun z15 M15 => PM (ee + 1) n_readTable_106 [nmv P E b (j + 1), t] M15 (fun _ M47 => Qr 0 M47)))) → PM (ee + 2) n_readMember_0 [] M Qr := fun Qr hq => pre Qr (by
      unfold B_readTable_0
      rw [ls.g41]
      refine ⟨by omega, by omega, fun _ => rn1 _ (rt _ (rnn _ ⟨fun _ => ?_, fun y => absurd (by omega) y⟩)), fun y => absurd (by omega) y⟩
      rw [g1, h15, ← ht]
      exact ⟨by omega, by omega, by omega, by omega, by omega, by omega, by omega, by omega, by omega, by omega, rn2 _ hq⟩)
    have n2 : ∀ L k, ¬ (L = 50 ∧ 6 ≤ k ∧ k ≤ 9) → Wv c S V2 L k = N L k := fun L k q => by rw [hW2, nPs_ne (by omega), nNn_ne (by omega), nPs_ne (by omega)]
    have n29 : Wv c S V2 50 9 = W (j + 1) := by rw [hW2, nPs_ne (by omega)]; exact up_eq
    have ts2' : TS c (Wv c S V2) M2 K P W E nt (j + 1 + 1) := by rw [hW2]; exact ts2
    generalize hM2 : M2 = M2' at *
    refine ⟨by decide, by decide, ?_⟩
    intro S3 V3 r3 mc3 ms3 z1 z2 z3 z4 z5
    subst z1 z2 z3 z4 z5
    obtain ⟨c3, hc3, h3, hW3, e3, f3⟩ := al (L := 128 * t + 9) (t := 9) (n := 0) hc h0 (rfl : Wv c S V2 = Wv c S V2)
    have x50 : c 50 = c3 50 := (f3 50 (by omega)).symm
    have hn9 : clr V2 (S.2.2 + 1) (c 50) 9 = W (j + 1) := by rw [x50, (Wr hW3).1 _ _ (by decide), nwl_ne (by omega)]; exact n29
    generalize nw S 9 0 = S3 at *
    generalize clr V2 (S.2.2 + 1) = V3 at *
    generalize hr3 : S.2.2 + 1 = r3 at *
    rw [hn9]
    refine ⟨by rw [x50, (Wr hW3).2.1, nwl_ne (by omega), n2 _ _ (by omega)]; exact ls.ts.rd.g50, by rw [← e3]; exact (hc3.2 _).1, ?_⟩
    refine CT.of (d - 1) 2 24 (ct_tabInit (t := t) (w := W (j + 1)) (Q := fun _ S5 V5 => ∃ c5 N5, Cn c5 S5 ∧ 0 ≤ S5.2.2 ∧ Wv c5 S5 V5 = N5 ∧ (∀ L, L ≠ 128 * t + 10 → L ≠ 128 * t + 11 → c5 L = c3 L) ∧ (∀ L k, ¬ (L = 128 * t + 9 ∧ (k = 0 ∨ k = 1 ∨ k = 2)) → L ≠ 128 * t + 10 → L ≠ 128 * t + 11 → N5 L k = nwl (Wv c S V2) (128 * t + 9) 9 0 L k) ∧ N5 (128 * t + 9) 0 = W (j + 1) ∧ N5 (128 * t + 9) 1 = c5 (128 * t + 10) ∧ N5 (128 * t + 9) 2 = c5 (128 * t + 11) ∧ N5 (128 * t + 10) (-1) = 20 ∧ N5 (128 * t + 10) (-2) = 12 ∧ N5 (128 * t + 11) (-1) = 20 ∧ N5 (128 * t + 11) (-2) = 12) hc3 h3 hW3 e3 nwl_tag (by omega) (fun c' S' V' N' a1 a2 a3 a4 a5 a6 a7 a8 a9 a10 a11 a12 => ⟨c', N', a1, a2, a3, a4, a5, a6, a7, a8, a9, a10, a11, a12⟩)) (by omega) (by decide) (by decide) (fun z5 S5 V5 hq5 => ?_)
    obtain ⟨c5, N5, hc5, h5, hW5, f5, n5, k0, k1, k2, i1, i2, i3, i4⟩ := hq5
    have fc : ∀ L, L ≠ 128 * t + 9 → L ≠ 128 * t + 10 → L ≠ 128 * t + 11 → c5 L = c L := fun L q1 q2 q3 => (f5 L q2 q3).trans (f3 L q1)
    have nn : ∀ L k, ¬ (L = 50 ∧ 6 ≤ k ∧ k ≤ 9) → L ≠ 128 * t + 9 → L ≠ 128 * t + 10 → L ≠ 128 * t + 11 → N5 L k = N L k := fun L k q0 q1 q2 q3 => by rw [n5 L k (by omega) q2 q3, nwl_ne q1, n2 L k q0]
    have nz : ∀ k, ¬ (k = 0 ∨ k = 1 ∨ k = 2) → 0 ≤ k → N5 (128 * t + 9) k = 0 := fun k q q0 => by rw [n5 _ _ (by omega) (by omega) (by omega)]; unfold nwl; rw [if_pos rfl, if_neg (by omega), if_neg (by omega)]
    have ntg : N5 (128 * t + 9) (-1) = 9 := by rw [n5 _ _ (by omega) (by omega) (by omega), nwl_tag]
    have y50 : c 50 = c5 50 := (fc 50 (by omega) (by omega) (by omega)).symm
    have y3 : r3 = c5 (128 * t + 9) := by rw [f5 _ (by omega) (by omega)]; exact e3.symm
    obtain ⟨v5, tg5, ln5⟩ := Wr hW5
    have d4 : V5 (c 50) 4 = c5 (128 * (12 * b + e) + 3) := by rw [y50, v5 _ _ (by decide), nn _ _ (by omega) (by omega) (by omega) (by omega), fc _ (by omega) (by omega) (by omega)]; exact h.cu
    have d8 : V5 (c5 (128 * (12 * b + e) + 3)) 8 = nu := by rw [v5 _ _ (by decide), nn _ _ (by omega) (by omega) (by omega) (by omega)]; exact hE.nt.trans q15
    have d7 : V5 (c5 (128 * (12 * b + e) + 3)) 7 = c5 (128 * (12 * b + e) + 8) := by rw [v5 _ _ (by decide), nn _ _ (by omega) (by omega) (by omega) (by omega), fc _ (by omega) (by omega) (by omega)]; exact hE.rt
    rw [d4, d8, d7]
    have g50 : S5.1 (c 50) = 6 := by rw [y50, tg5, nn _ _ (by omega) (by omega) (by omega) (by omega)]; exact ls.ts.rd.g50
    refine ⟨g50, by rw [tg5, nn _ _ (by omega) (by omega) (by omega) (by omega)]; exact hE.tg, by rw [tg5, nn _ _ (by omega) (by omega) (by omega) (by omega)]; exact hE.tt, by rw [y3, tg5]; exact ntg, u0, by rw [ln5, nn _ _ (by omega) (by omega) (by omega) (by omega), hE.lt]; omega, by omega, by omega, ?_⟩
    rw [y3]
    have hW6 : Wv c5 S5 (up (up V5 (c5 (128 * (12 * b + e) + 8)) nu (c5 (128 * t + 9))) (c5 (128 * (12 * b + e) + 3)) 8 (nu + 1)) = up (up N5 (128 * (12 * b + e) + 8) nu (c5 (128 * t + 9))) (128 * (12 * b + e) + 3) 8 (nu + 1) := by rw [Wv_up hc5 (by decide), Wv_up hc5 u0, hW5]
    have n6 : ∀ L k, ¬ (L = 128 * (12 * b + e) + 8 ∧ k = nu) → ¬ (L = 128 * (12 * b + e) + 3 ∧ k = 8) → up (up N5 (128 * (12 * b + e) + 8) nu (c5 (128 * t + 9))) (128 * (12 * b + e) + 3) 8 (nu + 1) L k = N5 L k := fun L k q1 q2 => by rw [up_ne' (by omega), up_ne' (by omega)]
    have n6a : up (up N5 (128 * (12 * b + e) + 8) nu (c5 (128 * t + 9))) (128 * (12 * b + e) + 3) 8 (nu + 1) (128 * (12 * b + e) + 8) nu = c5 (128 * t + 9) := by rw [up_ne' (by omega), up_eq]
    have n6b : up (up N5 (128 * (12 * b + e) + 8) nu (c5 (128 * t + 9))) (128 * (12 * b + e) + 3) 8 (nu + 1) (128 * (12 * b + e) + 3) 8 = nu + 1 := up_eq
    generalize hN6 : up (up N5 (128 * (12 * b + e) + 8) nu (c5 (128 * t + 9))) (128 * (12 * b + e) + 3) 8 (nu + 1) = N6 at *
    generalize up (up V5 (c5 (128 * (12 * b + e) + 8)) nu (c5 (128 * t + 9))) (c5 (128 * (12 * b + e) + 3)) 8 (nu + 1) = V6 at *
    have ts6 : TS c5 N6 M2' K P W E nt (j + 1 + 1) := ts2'.fr (fun L q => fc L (by unfold rdL at q; omega) (by unfold rdL at q; omega) (by unfold rdL at q; omega)) (fun L k q => by rw [n6 L k (by unfold rdR at q; omega) (by unfold rdR at q; omega), n5 L k (by unfold rdR at q; omega) (by unfold rdR at q; omega) (by unfold rdR at q; omega), nwl_ne (by unfold rdR at q; omega)]) (fun _ _ => rfl) (fun _ => rfl)
    exact tb_tail hc5 h5 h gf (by omega) (by omega) ht (by omega) y50 fc hW6 (fun L k q0 q1 q2 q3 q4 q5 => by rw [n6 L k q5 q4, nn L k q0 q1 q2 q3]) n6b n6a ((n6 _ _ (by omega) (by omega)).trans ntg) ((n6 _ _ (by omega) (by omega)).trans k0) ((n6 _ _ (by omega) (by omega)).trans k1) ((n6 _ _ (by omega) (by omega)).trans k2) ((n6 _ _ (by omega) (by omega)).trans i1) ((n6 _ _ (by omega) (by omega)).trans i2) ((n6 _ _ (by omega) (by omega)).trans i3) ((n6 _ _ (by omega) (by omega)).trans i4) ((n6 _ _ (by omega) (by omega)).trans (nz 3 (by omega) (by omega))) ((n6 _ _ (by omega) (by omega)).trans (nz 4 (by omega) (by omega))) ts6 m2 m223 m224 m215 nr.1 pre2 (fun V' M' gm' ow' eo' j' ln' a1 a2 a3 a4 => hok c5 S5 V' M' gm' ow' eo' j' ln' hc5 h5 y50.symm a1 a2 a3 a4) (fun V' M' a1 a2 a3 => hbad c5 S5 V' M' hc5 h5 a1 a2 a3)
  · have nw : 0 < M' 0 46 := fts.1
    refine hbad c S V' M' hc h0 (gf.tr (fun _ _ => rfl) (fun L k q => fN L k (fun y => q (Or.inr (Or.inl ⟨y.1, by omega, by omega⟩)))) (fun k i q => fM k i (fun y => q (Or.inl ⟨y.1, by omega⟩)))) fts (fun Qr hq => pre Qr ?_)
    unfold B_readTable_0
    rw [ls.g41]
    exact ⟨by omega, by omega, fun _ => rn1 _ (rt _ (rnn _ ⟨fun y => absurd nw (by omega), fun _ => hq⟩)), fun y => absurd (by omega) y⟩
end TBR
