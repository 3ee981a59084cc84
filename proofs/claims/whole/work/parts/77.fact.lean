/-! ===== book: factors and references ===== -/
theorem aft_0 {ee : Nat} {e1 e2 : Int} {Qr : Int → Mem → Prop} : AFT ee 0 e1 0 e2 Qr = fun z M1 => PM (ee + 1) n_readTerm_5 [z] M1 (fun z' M' => PM (ee + 2) n_readSum_5 [z'] M' Qr) := by
  unfold AFT STQ
  funext z M1
  rw [if_pos rfl]
  congr 1
section FAC
variable {l : Launch} {G : GT} {c : Int → Int} {S : Sh} {Q : Int → Sh → Mem → Prop} {d mc ms e : Nat} {K P W E : Int → Int} {nt b g st B n j ln : Int} {N M gm : Mem}
def FacT (l : Launch) (G : GT) (c : Int → Int) (S : Sh) (K P W E : Int → Int) (nt b g st B : Int) (bm : BT) (id : Nat) (h n : Int) (d e : Nat) : Prop := ∀ (Q1 : Int → Sh → Mem → Prop) (V N M gm : Mem) (j ln : Int), Wv c S V = N → XS c N M K P W E nt b g st B n j ln → (∀ V' M' gm' x j' ln', XR c N M gm K P W E nt b g st B n j ln h (Wv c S V') M' gm' x j' ln' → RunM e id [] M x M' → Q1 1 S V') → (∀ V' M' z, XF ln n N M (Wv c S V') M' → RunM e id [] M z M' → Q1 0 S V') → Ct l G bm Q1 d 0 0 [vr (c 50), vi n] S V
theorem sum_of (hc : Cn c S) (cn : CN b B st) (n0 : 1 ≤ n) (n1 : n ≤ 12) (hd : 3 ≤ d) (he : 8 ≤ e) (hf : FacT l G c S K P W E nt b g st B bX5_readFactor n_readFactor_0 (3 * (12 - n) + 1) n (d - 1) e) : FacT l G c S K P W E nt b g st B bX5_readSum n_readSum_0 (3 * (12 - n) + 3) n d (e + 2) := by
  intro Q1 V N M gm j ln hW xs hok hbad
  have ntb := xs.ts.ntb
  have j1 := xs.ts.j1
  refine qX5_readSum fun _ _ => vX5_readSum_0 (sum_loop (ee := e) (Xq := fun Qr => PM (e + 2) n_readSum_0 [] M Qr) (N0 := N) (M0 := M) (gm0 := gm) (j0 := j) (L0 := ln) hc cn (by omega) n1 hd he xs.x0 xs.l0 xs.ts.j0 hf (fun V' M' z xf r => hbad V' M' z xf r) (fun V' M' gm' x j' ln' x2 x3 x5 xr r => ?_) (nt - j).toNat 0 j ln 0 0 0 0 (M 0 40) ln 0 0 V N M gm (by omega) hW xs fXn.rf fXm.rf (fun _ _ _ => rfl) (Or.inl ⟨rfl, rfl, rfl, rfl⟩) (Or.inl ⟨rfl, rfl, rfl, rfl⟩) (by omega) (by omega) (by omega) (by omega) (Int.le_refl _) (by have := xs.lj; omega) (by have := xs.x1; omega) (fun Qr hq => ?_))
  · have q := hok V' M' gm' x j' ln' xr r
    exact vX5_readSum_10 ⟨fun _ => ⟨fun _ => q, fun y => absurd (by omega) y⟩, fun _ => ⟨fun _ => ⟨fun _ => q, fun y => absurd (by omega) y⟩, fun y => absurd rfl y⟩⟩
  · rw [aft_0] at hq
    exact st_readSum_0 (st_readTerm_0 hq)
/-- readSum(0): the END behind it -/
theorem sum_0 {V : Mem} (hc : Cn c S) (cn : CN b B st) (hd : 3 ≤ d) (he : 8 ≤ e) (hf : FacT l G c S K P W E nt b g st B bX5_readFactor n_readFactor_0 (3 * (12 - 0) + 1) 0 (d - 1) e) (hW : Wv c S V = N) (xs : XS c N M K P W E nt b g st B 0 j ln) (slk : ln + 1 ≤ j) (hok : ∀ V' V'' M' gm' x j' ln', XR c N M gm K P W E nt b g st B 0 j ln 39 (Wv c S V') M' gm' x j' ln' → Wv c S V'' = nEm (Wv c S V') ln' 0 0 → RunM (e + 2) n_readSum_0 [] M x M' → Q 1 S V'') (hbad : ∀ V' M' z, XF ln 0 N M (Wv c S V') M' → RunM (e + 2) n_readSum_0 [] M z M' → Q 0 S V') : Ct l G bX5_readSum Q d mc ms [vr (c 50), vi 0] S V := by
  have ntb := xs.ts.ntb
  have j1 := xs.ts.j1
  refine qX5_readSum fun _ _ => vX5_readSum_0 (sum_loop (n := 0) (ee := e) (Xq := fun Qr => PM (e + 2) n_readSum_0 [] M Qr) (N0 := N) (M0 := M) (gm0 := gm) (j0 := j) (L0 := ln) hc cn (by omega) (by omega) hd he xs.x0 xs.l0 xs.ts.j0 hf (fun V' M' z xf r => hbad V' M' z xf r) (fun V' M' gm' x j' ln' x2 x3 x5 xr r => ?_) (nt - j).toNat 0 j ln 0 0 0 0 (M 0 40) ln 0 0 V N M gm (by omega) hW xs fXn.rf fXm.rf (fun _ _ _ => rfl) (Or.inl ⟨rfl, rfl, rfl, rfl⟩) (Or.inl ⟨rfl, rfl, rfl, rfl⟩) (by omega) (by omega) (by omega) (by omega) (Int.le_refl _) (by have := xs.lj; omega) (by have := xs.x1; omega) (fun Qr hq => ?_))
  · have xs1 := xr.1
    have bb := xr.2.2.2.2.2.2
    have nt1 := xs1.ts.ntb
    have j11 := xs1.ts.j1
    have hl := xs1.l0
    obtain ⟨ya, yb, yc, yd, ye, yf, yg⟩ := xs1.ts.x rfl
    have em : CT l G bX1_emit d mc ms [vr (V' (c 50) 1), vi 0, vi 0] S V' (fun z3 S3 V3 mc3 ms3 => Q 1 S3 V3) := by
      rw [yd]
      exact CT.im (by omega) (fun d2 hd2 => ct_emit hc rfl xs1.ts.rd xs1.l hl (by omega) (fun V5 hW5 => hok V' V5 M' gm' x j' ln' xr hW5 r))
    exact vX5_readSum_10 ⟨fun _ => ⟨fun y => absurd rfl y, fun _ => ⟨yf, by rw [yd]; exact yg, em⟩⟩, fun _ => ⟨fun _ => ⟨fun y => absurd rfl y, fun _ => ⟨yf, by rw [yd]; exact yg, em⟩⟩, fun y => absurd rfl y⟩⟩
  · rw [aft_0] at hq
    exact st_readSum_0 (st_readTerm_0 hq)
theorem fac_leaf {o a k ka : Int} {V' : Mem} (hc : Cn c S) (cn : CN b B st) (n0 : 0 ≤ n) (n1 : n ≤ 12) (xs : XS c N M K P W E nt b g st B n j ln) (kj : K j ≠ 1) (hkd : (k = 0 ∧ o = 1 ∧ a = ka) ∨ (k = 6 ∧ o = 3 ∧ 2 ≤ st) ∨ (k = 7 ∧ o = 2 ∧ 1 ≤ st) ∨ (k = 8 ∧ o = 4 ∧ st = 3) ∨ (k = 9 ∧ o = 5)) (hd : 1 ≤ d) (he : 8 ≤ e) (hW' : Wv c S V' = nEm N ln o a)
    (ref : ∀ M', (∀ Qr : Int → Mem → Prop, Qr (M 0 40) M' → PM e n_expression_0 [k, ka, 0] M (fun z M1 => PM e n_taken_0 [z] M1 Qr)) → RunM (e + 1) n_readFactor_0 [] M (M 0 40) M')
    (hok : ∀ V' M' gm' x j' ln', XR c N M gm K P W E nt b g st B n j ln (3 * (12 - n) + 1) (Wv c S V') M' gm' x j' ln' → RunM (e + 1) n_readFactor_0 [] M x M' → Q 1 S V') : Ct l G bX5_pass Q d mc ms [vr (c 50), vi 1, vi 2] S V' := by
  have hl0 := xs.l0
  have hx0 := xs.x0
  have hx1 := xs.x1
  have lt := xs.ts.lt kj
  have ntb := xs.ts.ntb
  have cb := cn
  unfold CN at cb
  have kk : ¬ (2 ≤ k ∧ k ≤ 5) := by omega
  have mne : ∀ L i, ¬ (35 ≤ L ∧ L ≤ 39 ∧ i = M 0 40) → ¬ (L = 0 ∧ i = 40) → mEx M k ka 0 L i = M L i := fun L i q1 q2 => mEx_ne (by omega)
  have ts1 : TS c (nEm N ln o a) (mEx M k ka 0) K P W E nt j := (xs.ts.em hl0).fr (fun _ _ => rfl) (fun _ _ _ => rfl) (fun i hi => mne _ _ (by omega) (by omega)) (fun i => mne _ _ (by omega) (by omega))
  refine ct_pass (e := e - 1) hc hW' ts1 kj hd (by omega) (fun V2 M2 hW2 ts2 lx2 rn2 => ?_)
  have u40 : M2 0 40 = M 0 40 + 1 := (lx2 _ _ (by omega)).trans mEx_40
  have u51 : M2 0 51 = M 0 51 := (lx2 _ _ (by omega)).trans (mne _ _ (by omega) (by omega))
  have no : nPs (nEm N ln o a) (j + 1) (K (j + 1)) (W (j + 1)) 121 ln = o := (nPs_ne (by omega)).trans nEm_o
  have na : nPs (nEm N ln o a) (j + 1) (K (j + 1)) (W (j + 1)) 122 ln = a := (nPs_ne (by omega)).trans nEm_a
  have m35 : M2 35 (M 0 40) = k := (lx2 _ _ (by omega)).trans mEx_35
  have m36 : M2 36 (M 0 40) = ka := (lx2 _ _ (by omega)).trans mEx_36
  have m39 : M2 39 (M 0 40) = g := (lx2 _ _ (by omega)).trans (mEx_39.trans xs.xc.2.1)
  have fm : fXm (M 0 40) (M 0 51) M M2 := (fXm.ex (Int.le_refl _) (fun q => absurd q kk)).tr (fXm.lx lx2) (Int.le_refl _) (Int.le_refl _)
  have fn : fXn ln N (nPs (nEm N ln o a) (j + 1) (K (j + 1)) (W (j + 1))) := fXn.em.tr fXn.ps (Int.le_refl ln)
  have gu1 : gmU gm (M 0 40) ln (ln + 1) (3 * (12 - n) + 1) st 1 (M 0 40) = ln := gmU_1
  have run : RunM (e + 1) n_readFactor_0 [] M (M 0 40) M2 := ref M2 (fun Qr hq => rn_ex (by omega) (by omega) (fun q => absurd q kk) (by omega) _ (by
    obtain ⟨e', rfl⟩ : ∃ e', e = e' + 1 := ⟨e - 1, by omega⟩
    exact st_taken_0 (rn2 _ hq)))
  refine hok V2 M2 (gmU gm (M 0 40) ln (ln + 1) (3 * (12 - n) + 1) st) (M 0 40) (j + 1) (ln + 1) ⟨?_, by rw [hW2]; exact fn, fm, fun k y q => gmU_ne (by omega), ?_, ⟨Int.le_refl _, by omega, gmU_1, gmU_2, by rw [gmU_3]; omega⟩, ⟨by omega, by omega, by omega, by omega, by omega⟩⟩ run
  · rw [hW2]
    refine xs.go fn fm ts2 ((nPs_ne (by omega)).trans nEm_l) ?_ (by omega) (by have := xs.lj; omega) (by omega) (by omega) ((lx2 _ _ (by omega)).trans ((mne _ _ (by omega) (by omega)).trans xs.w)) ((lx2 _ _ (by omega)).trans ((mne _ _ (by omega) (by omega)).trans xs.nv)) ((nPs_ne (by omega)).trans ((nEm_ne (by omega)).trans xs.f))
    rw [rcn_s hl0, rcn_cg (g := N 121) _ (fun k a q => (nPs_ne (by omega)).trans (nEm_ne (by omega))), no, xs.r, u51]
    unfold rfs
    rw [if_neg (by omega)]; omega
  · rw [hW2, u40]
    refine TRE.emp.add (Int.le_refl _) (Int.le_refl _) ⟨?_, ?_, gmU_4, m39, ?_⟩ ⟨?_, fun z => ?_, fun z => ?_, fun z => ?_, fun z => ?_⟩
    · rw [gmU_1, gmU_2]; omega
    · rw [gmU_3]; omega
    · unfold PCk
      rw [gmU_1, gmU_2, gmU_4, no, na, m35, m36]
      rcases hkd with ⟨q1, q2, q3⟩ | ⟨q1, q2, q3⟩ | ⟨q1, q2, q3⟩ | ⟨q1, q2, q3⟩ | ⟨q1, q2⟩
      · exact Or.inl ⟨q1, rfl, q2, q3⟩
      · exact Or.inr (Or.inr (Or.inr (Or.inl ⟨q1, rfl, q2, q3⟩)))
      · exact Or.inr (Or.inr (Or.inr (Or.inr (Or.inl ⟨q1, rfl, q2, q3⟩))))
      · exact Or.inr (Or.inr (Or.inr (Or.inr (Or.inr (Or.inl ⟨q1, rfl, q2, q3⟩)))))
      · exact Or.inr (Or.inr (Or.inr (Or.inr (Or.inr (Or.inr (Or.inl ⟨q1, rfl, q2⟩))))))
    · rw [no]; omega
    · rw [no] at z
      exact ⟨M 0 40, by omega, by omega, gmU_1, by rw [m35]; omega⟩
    · rw [no] at z; omega
    · rw [no] at z; omega
    · rw [no] at z; omega
end FAC
