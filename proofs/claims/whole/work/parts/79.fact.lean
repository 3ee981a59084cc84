/-! ===== book: references, factors, the knot ===== -/
section RFO
variable {l : Launch} {G : GT} {c : Int → Int} {S : Sh} {Q : Int → Sh → Mem → Prop} {d mc ms e : Nat} {K P W E : Int → Int} {nt b g st B n j ln : Int} {N M gm V : Mem}
set_option maxHeartbeats 1000000 in
theorem ref_of (hc : Cn c S) (cn : CN b B st) (n0 : 0 ≤ n) (n1 : n ≤ 12) (hd : 3 ≤ d) (he : 10 ≤ e) (hS : n < 12 → FacT l G c S K P W E nt b g st B bX5_readSum n_readSum_0 (3 * (12 - (n + 1)) + 3) (n + 1) (d - 1) e)
    (hW : Wv c S V = N) (xs : XS c N M K P W E nt b g st B n j ln) (k3 : K j = 3) (hok : ∀ V' M' gm' x j' ln', XR c N M gm K P W E nt b g st B n j ln (3 * (12 - n) + 1) (Wv c S V') M' gm' x j' ln' → RunM (e + 1) n_readReference_0 [] M x M' → Q 1 S V') (hbad : ∀ V' M' z, XF ln n N M (Wv c S V') M' → RunM (e + 1) n_readReference_0 [] M z M' → Q 0 S V') : Ct l G bX5_readReference Q d mc ms [vr (c 50), vi n] S V := by
  have ts := xs.ts
  have j0 := ts.j0
  have lt := ts.lt (show K j ≠ 1 by omega)
  have ntb := ts.ntb
  have r51 := xs.r0
  have hlj := xs.lj
  have cb := cn
  unfold CN at cb
  obtain ⟨ya, yb, yc, yd, ye, yf, yg⟩ := ts.x hW
  have ma : ∀ L i, ¬ (L = 0 ∧ i = 51) → ¬ ((L = 49 ∨ L = 50) ∧ i = M 0 51) → up (up (up M 0 51 (M 0 51 + 1)) 49 (M 0 51) (-1)) 50 (M 0 51) (nmv P E b j) L i = M L i := fun L i q1 q2 => by rw [up_ne (by omega), up_ne (by omega), up_ne (by omega)]
  have a51 : up (up (up M 0 51 (M 0 51 + 1)) 49 (M 0 51) (-1)) 50 (M 0 51) (nmv P E b j) 0 51 = M 0 51 + 1 := by rw [up_ne (by omega), up_ne (by omega), up_eq]
  have a49 : up (up (up M 0 51 (M 0 51 + 1)) 49 (M 0 51) (-1)) 50 (M 0 51) (nmv P E b j) 49 (M 0 51) = -1 := by rw [up_ne (by omega), up_eq]
  have a50 : up (up (up M 0 51 (M 0 51 + 1)) 49 (M 0 51) (-1)) 50 (M 0 51) (nmv P E b j) 50 (M 0 51) = nmv P E b j := up_eq
  have tsa : TS c N (up (up (up M 0 51 (M 0 51 + 1)) 49 (M 0 51) (-1)) 50 (M 0 51) (nmv P E b j)) K P W E nt j := ts.fr (fun _ _ => rfl) (fun _ _ _ => rfl) (fun i hi => ma _ _ (by omega) (by omega)) (fun i => ma _ _ (by omega) (by omega))
  refine qX5_readReference fun _ _ => vX5_readReference_0 ⟨yf, CT.im (by omega) (fun d1 hd1 => ct_pass (e := e) hc hW tsa (by omega) (by omega) (by omega) (fun V1 M1 hW1 ts1 lx1 rn1 => ?_))⟩
  have v1 : ∀ L i, ¬ (L = 0 ∧ 3 ≤ i ∧ i ≤ 6) → ¬ (L = 0 ∧ i = 51) → ¬ ((L = 49 ∨ L = 50) ∧ i = M 0 51) → M1 L i = M L i := fun L i q1 q2 q3 => (lx1 L i q1).trans (ma L i q2 q3)
  have b51 : M1 0 51 = M 0 51 + 1 := (lx1 _ _ (by omega)).trans a51
  have b49 : M1 49 (M 0 51) = -1 := (lx1 _ _ (by omega)).trans a49
  have b50 : M1 50 (M 0 51) = nmv P E b j := (lx1 _ _ (by omega)).trans a50
  have fm1 : fXm (M 0 40) (M 0 51) M M1 := fun L i q1 q2 q3 => v1 L i (by omega) (by omega) (by omega)
  have fn1 : fXn ln N (nPs N (j + 1) (K (j + 1)) (W (j + 1))) := fXn.ps
  have b46 : M1 0 46 = 0 := (v1 _ _ (by omega) (by omega) (by omega)).trans xs.w
  have b42 : M1 0 42 = n := (v1 _ _ (by omega) (by omega) (by omega)).trans xs.nv
  have b40 : M1 0 40 = M 0 40 := v1 _ _ (by omega) (by omega) (by omega)
  have b9 : M1 0 9 = b := (v1 _ _ (by omega) (by omega) (by omega)).trans xs.xc.1
  obtain ⟨za, zb, zc, zd, ze, zf, zg⟩ := ts1.x hW1
  have pre : ∀ Qr : Int → Mem → Prop, PM e n_isSign_0 [46] M1 (fun z8 M8 => (z8 = 0 → RTL e (M 0 51) Qr M8) ∧ (¬ (z8 = 0) → PM e n_next_0 [] M8 (fun z27 M27 => PM e n_isName_0 [] M27 (fun z29 M29 => (z29 ≠ 0 → 0 ≤ (M 0 51) ∧ (M 0 51) < 3100 ∧ PM e n_nameHere_0 [] (up M29 49 (M 0 51) (nmv P E b j)) (fun z32 M32 => 0 ≤ (M 0 51) ∧ (M 0 51) < 3100 ∧ PM e n_next_0 [] (up M32 50 (M 0 51) z32) (fun z34 M34 => RTL e (M 0 51) Qr M34))) ∧ (¬ (z29 ≠ 0) → PM e n_fault_0 [2] M29 (fun z52 M52 => Qr z52 M52)))))) → PM (e + 1) n_readReference_0 [] M Qr := fun Qr hq => st_readReference_0 (ts.nm1 k3 (by omega) _ ⟨fun _ => ts.nh xs.xc.1 cb.1 cb.2.1 (by omega) _ ⟨by omega, by omega, by omega, by omega, rn1 _ hq⟩, fun y => absurd (by decide) y⟩)
  rw [za, yc]
  refine ⟨zf, fun k46 => ref_tail hc cn n0 n1 hd he hS xs hW1 fn1 ((nPs_ne (by omega)).trans xs.l) ((nPs_ne (by omega)).trans xs.f) fm1 b40 b51 b46 b42 ts1 (by omega) ⟨j0, lt, k3, Or.inl ⟨k46, b49, b50⟩⟩ (fun Qr hq => pre Qr (ts1.sg0 (by decide) k46 (by omega) _ ⟨fun _ => hq, fun y => absurd rfl y⟩)) hok hbad, fun k46 => ?_⟩
  have k46 := Classical.not_not.1 k46
  have lt1 := ts1.lt (show K (j + 1) ≠ 1 by omega)
  refine CT.im (by omega) (fun d2 hd2 => ct_pass (e := e) hc hW1 ts1 (by omega) (by omega) (by omega) (fun V2 M2 hW2 ts2 lx2 rn2 => ?_))
  obtain ⟨ua, ub, uc, ud, ue, uf, ug⟩ := ts2.x hW2
  have fn2 : fXn ln N (nPs (nPs N (j + 1) (K (j + 1)) (W (j + 1))) (j + 1 + 1) (K (j + 1 + 1)) (W (j + 1 + 1))) := fn1.tr fXn.ps (Int.le_refl _)
  have fm2 : fXm (M 0 40) (M 0 51) M M2 := fm1.tr (fXm.lx lx2) (Int.le_refl _) (Int.le_refl _)
  have c46 : M2 0 46 = 0 := (lx2 _ _ (by omega)).trans b46
  have c42 : M2 0 42 = n := (lx2 _ _ (by omega)).trans b42
  rw [ua]
  refine ⟨uf, fun k3' => CT.im (by omega) (fun d3 hd3 => ct_pass0 hc hW2 ts2 (fun V3 hW3 => ⟨fun q => absurd rfl q, fun _ => ?_⟩)), fun k3' => ?_⟩
  · refine hbad V3 (mFt M2 (if K (j + 1 + 1) = 0 then 1 else 2) (P (j + 1 + 1))) (-1) ⟨by rw [hW3]; exact fn2.tr fXn.ft (Int.le_refl _), fm2.tr fXm.ft (Int.le_refl _) (Int.le_refl _), (mFt_ne (by omega)).trans c42, by rw [mFt_46]; split <;> decide, by rw [hW3, nFt_10, mFt_46], by rw [hW3, nFt_11, mFt_47]; exact ⟨rfl, ts2.pb⟩⟩ (fun Qr hq => pre Qr (ts1.sg1 (by decide) k46 (by omega) _ ⟨fun y => absurd y (by decide), fun _ => rn2 _ (ts2.nm0 k3' (by omega) _ ⟨fun y => absurd rfl y, fun _ => ts2.ft c46 (by omega) _ hq⟩)⟩))
  · have k3' := Classical.not_not.1 k3'
    have mb : ∀ L i, ¬ ((L = 49 ∨ L = 50) ∧ i = M 0 51) → up (up M2 49 (M 0 51) (nmv P E b j)) 50 (M 0 51) (nmv P E b (j + 1 + 1)) L i = M2 L i := fun L i q => by rw [up_ne (by omega), up_ne (by omega)]
    have tsb : TS c (nPs (nPs N (j + 1) (K (j + 1)) (W (j + 1))) (j + 1 + 1) (K (j + 1 + 1)) (W (j + 1 + 1))) (up (up M2 49 (M 0 51) (nmv P E b j)) 50 (M 0 51) (nmv P E b (j + 1 + 1))) K P W E nt (j + 1 + 1) := ts2.fr (fun _ _ => rfl) (fun _ _ _ => rfl) (fun i hi => mb _ _ (by omega)) (fun i => mb _ _ (by omega))
    have tsb' : TS c (nPs (nPs N (j + 1) (K (j + 1)) (W (j + 1))) (j + 1 + 1) (K (j + 1 + 1)) (W (j + 1 + 1))) (up M2 49 (M 0 51) (nmv P E b j)) K P W E nt (j + 1 + 1) := ts2.fr (fun _ _ => rfl) (fun _ _ _ => rfl) (fun i hi => up_ne (by omega)) (fun i => up_ne (by omega))
    refine CT.im (by omega) (fun d3 hd3 => ct_pass (e := e) hc hW2 tsb (by omega) (by omega) (by omega) (fun V3 M3 hW3 ts3 lx3 rn3 => ⟨fun _ => ?_, fun q => absurd (by decide) q⟩))
    have v3 : ∀ L i, ¬ (L = 0 ∧ 3 ≤ i ∧ i ≤ 6) → ¬ ((L = 49 ∨ L = 50) ∧ i = M 0 51) → M3 L i = M2 L i := fun L i q1 q2 => (lx3 L i q1).trans (mb L i q2)
    refine ref_tail hc cn n0 n1 hd he hS xs hW3 (fn2.tr fXn.ps (Int.le_refl _)) ((nPs_ne (by omega)).trans ((nPs_ne (by omega)).trans ((nPs_ne (by omega)).trans xs.l))) ((nPs_ne (by omega)).trans ((nPs_ne (by omega)).trans ((nPs_ne (by omega)).trans xs.f))) (fm2.tr (fun L i q1 q2 q3 => v3 L i (by omega) (by omega)) (Int.le_refl _) (Int.le_refl _)) ((v3 _ _ (by omega) (by omega)).trans ((lx2 _ _ (by omega)).trans b40)) ((v3 _ _ (by omega) (by omega)).trans ((lx2 _ _ (by omega)).trans b51)) ((v3 _ _ (by omega) (by omega)).trans c46) ((v3 _ _ (by omega) (by omega)).trans c42) ts3 (by omega) ⟨j0, lt, k3, Or.inr ⟨k46, by omega, by rw [show j + 2 = j + 1 + 1 from by omega]; exact k3', ?_, ?_⟩⟩ (fun Qr hq => pre Qr (ts1.sg1 (by decide) k46 (by omega) _ ⟨fun y => absurd y (by decide), fun _ => rn2 _ (ts2.nm1 k3' (by omega) _ ⟨fun _ => ⟨by omega, by omega, tsb'.nh ((up_ne (by omega)).trans ((lx2 _ _ (by omega)).trans b9)) cb.1 cb.2.1 (by omega) _ ⟨by omega, by omega, rn3 _ hq⟩⟩, fun y => absurd (by decide) y⟩)⟩)) hok hbad
    · rw [lx3 _ _ (by omega), up_ne (by omega), up_eq]
    · rw [lx3 _ _ (by omega), up_eq, show j + 1 + 1 = j + 2 from by omega]
/-! the reference's ways within a factor -/
theorem fr_203 {Qr : Int → Mem → Prop} (xs : XS c N M K P W E nt b g st B n j ln) (he : 10 ≤ e) (k1 : K j ≠ 45) (k2 : K j ≠ 40) (k3 : K j ≠ 2) (v : M 0 43 = 0 ∨ K j ≠ 12) (o : M 0 44 = 0 ∨ K j ≠ 13) (hq : PM (e + 1) n_readFactor_203 [] M Qr) : PM (e + 1) n_readFactor_0 [] M Qr := by
  have ts := xs.ts
  have m3 : M 0 3 ≠ 3 := fun y => k3 ((rkd_w ts.t1.rg).2.2.2.1.1 (by rw [← ts.t1.k3]; exact y))
  refine st_readFactor_0 ⟨fun _ => ts.sg0 (by decide) k1 (by omega) _ ⟨fun y => absurd rfl y, fun _ => ts.sg0 (by decide) k2 (by omega) _ ⟨fun _ => ⟨fun _ => ⟨fun y => ⟨fun _ => hq, fun y2 => ts.wd0 9 (by decide) (o.resolve_left y2) (by omega) _ ⟨fun _ => hq, fun z => absurd rfl z⟩⟩, fun y => ts.wd0 8 (by decide) (v.resolve_left y) (by omega) _ ⟨fun _ => ⟨fun _ => hq, fun y2 => ts.wd0 9 (by decide) (o.resolve_left y2) (by omega) _ ⟨fun _ => hq, fun z => absurd rfl z⟩⟩, fun z => absurd rfl z⟩⟩, fun y => absurd m3 y⟩, fun z => absurd rfl z⟩⟩, fun y => absurd (by have := xs.w; omega) y⟩
theorem fr_ref {Qr : Int → Mem → Prop} (xs : XS c N M K P W E nt b g st B n j ln) (he : 10 ≤ e) (k1 : K j ≠ 14) (a : M 0 45 = 0 ∨ K j ≠ 15) (hq : PM e n_readReference_0 [] M Qr) : PM (e + 1) n_readFactor_203 [] M Qr :=
  st_readFactor_203 ⟨fun _ => xs.ts.wd0 10 (by decide) k1 (by omega) _ ⟨fun _ => hq, fun z => absurd rfl z⟩, fun y => xs.ts.wd0 11 (by decide) (a.resolve_left y) (by omega) _ ⟨fun _ => xs.ts.wd0 10 (by decide) k1 (by omega) _ ⟨fun _ => hq, fun z => absurd rfl z⟩, fun z => absurd rfl z⟩⟩
end RFO
