/-! ===== book: names linked: the class ===== -/
def BCD (c : Int → Int) (N : Mem) (b ln : Int) : Prop := N (128 * b + 1) (-1) = 1 ∧ N (128 * b + 1) 3 = c (128 * b + 20) ∧ N (128 * b + 20) (-1) = 2 ∧ N (128 * b + 20) 0 = c (128 * b + 21) ∧ N (128 * b + 20) 1 = c (128 * b + 22) ∧ (N (128 * b + 21) (-1) = 20 ∧ N (128 * b + 21) (-2) = ln) ∧ (N (128 * b + 22) (-1) = 20 ∧ N (128 * b + 22) (-2) = ln) ∧ N (128 * b + 20) 2 = ln ∧ N (128 * b + 1) 0 = c (128 * b + 2) ∧ (N (128 * b + 2) (-1) = 33 ∧ N (128 * b + 2) (-2) = 12)
section LKC
variable {l : Launch} {G : GT} {c : Int → Int} {S : Sh} {V N M : Mem} {Q : Int → Sh → Mem → Prop} {d mc ms : Nat} {b ln p op ar e v ne : Int}
theorem ct_relink (hc : Cn c S) (hW : Wv c S V = N) (h : BCD c N b ln) (p0 : 0 ≤ p) (p1 : p < ln) (hk : ∀ V', Wv c S V' = up (up N (128 * b + 21) p op) (128 * b + 22) p ar → Q (-1) S V') : Ct l G bX0_relink Q d mc ms [vr (c (128 * b + 1)), vi p, vi op, vi ar] S V := by
  obtain ⟨h1, h2, h3, h4, h5, ⟨h6, h7⟩, ⟨h8, h9⟩, h10, h11, h12⟩ := h
  obtain ⟨v', tg, lnn⟩ := Wr hW
  have z3 : V (c (128 * b + 1)) 3 = c (128 * b + 20) := (v' _ _ (by decide)).trans h2
  have z0 : V (c (128 * b + 20)) 0 = c (128 * b + 21) := (v' _ _ (by decide)).trans h4
  have z1 : V (c (128 * b + 20)) 1 = c (128 * b + 22) := (v' _ _ (by decide)).trans h5
  refine qX0_relink fun _ _ _ _ => vX0_relink_0 ?_
  rw [z3, z0, z1]
  refine ⟨(tg _).trans h1, (tg _).trans h3, (tg _).trans h6, p0, by rw [lnn, h7]; exact p1, (tg _).trans h8, by rw [lnn, h9]; exact p1, hk _ ?_⟩
  rw [Wv_up hc p0, Wv_up hc p0, hW]
set_option maxHeartbeats 1000000 in
theorem ct_linkTo (hc : Cn c S) (hW : Wv c S V = N) (h : BCD c N b ln) (p0 : 0 ≤ p) (p1 : p < ln) (e0 : 0 ≤ e) (e1 : e < ne) (ne1 : ne ≤ 12) (en : N (128 * b + 2) e = c (128 * (12 * b + e) + 3)) (hE : HE c N M (12 * b + e)) (op : N (128 * b + 21) p = 11 ∨ N (128 * b + 21) p = 12 ∨ N (128 * b + 21) p = 13 ∨ N (128 * b + 21) p = 14) (hd : 3 ≤ d)
    (hk : ∀ V' z o a, Wv c S V' = up (up N (128 * b + 21) p o) (128 * b + 22) p a →
      (N (128 * b + 21) p = 11 → (0 ≤ fdx (cnm N (12 * b + e)) v (M 14 (12 * b + e)).toNat 0 ∧ o = 15 ∧ a = e * 24 + fdx (cnm N (12 * b + e)) v (M 14 (12 * b + e)).toNat 0 ∧ z = 1) ∨ (fdx (cnm N (12 * b + e)) v (M 14 (12 * b + e)).toNat 0 < 0 ∧ o = 16 ∧ a = 100 + e * 4 + fdx (N (128 * (12 * b + e) + 13)) v (M 17 (12 * b + e)).toNat 0 ∧ ((fdx (N (128 * (12 * b + e) + 13)) v (M 17 (12 * b + e)).toNat 0 < 0 ∧ z = 0) ∨ (0 ≤ fdx (N (128 * (12 * b + e) + 13)) v (M 17 (12 * b + e)).toNat 0 ∧ z = 1)))) →
      (N (128 * b + 21) p = 12 ∨ N (128 * b + 21) p = 13 → ((N (128 * b + 21) p = 12 ∧ o = 17 ∧ a = e) ∨ (N (128 * b + 21) p = 13 ∧ o = 18 ∧ a = e * 4 + fdx (tnm N (12 * b + e)) v (M 15 (12 * b + e)).toNat 0)) ∧ ((fdx (tnm N (12 * b + e)) v (M 15 (12 * b + e)).toNat 0 < 0 ∧ z = 0) ∨ (0 ≤ fdx (tnm N (12 * b + e)) v (M 15 (12 * b + e)).toNat 0 ∧ z = 1))) →
      (N (128 * b + 21) p = 14 → o = 14 ∧ a = fdx (cnm N (12 * b + e)) v (M 14 (12 * b + e)).toNat 0 ∧ ((fdx (cnm N (12 * b + e)) v (M 14 (12 * b + e)).toNat 0 < 0 ∧ z = 0) ∨ (0 ≤ fdx (cnm N (12 * b + e)) v (M 14 (12 * b + e)).toNat 0 ∧ z = 1))) → Q z S V') : Ct l G bX0_linkTo Q d mc ms [vr (c (128 * b + 1)), vi p, vi e, vl v] S V := by
  have hB := h
  obtain ⟨h1, h2, h3, h4, h5, ⟨h6, h7⟩, ⟨h8, h9⟩, h10, h11, ⟨h12, h13⟩⟩ := h
  obtain ⟨v', tg, lnn⟩ := Wr hW
  have z3 : V (c (128 * b + 1)) 3 = c (128 * b + 20) := (v' _ _ (by decide)).trans h2
  have z0 : V (c (128 * b + 20)) 0 = c (128 * b + 21) := (v' _ _ (by decide)).trans h4
  have y0 : V (c (128 * b + 1)) 0 = c (128 * b + 2) := (v' _ _ (by decide)).trans h11
  have ye : V (c (128 * b + 2)) e = c (128 * (12 * b + e) + 3) := (v' _ _ e0).trans en
  have zo : V (c (128 * b + 21)) p = N (128 * b + 21) p := v' _ _ p0
  have g3 : S.1 (c (128 * (12 * b + e) + 3)) = 4 := (tg _).trans hE.tg
  have fc := fdx_rng (f := cnm N (12 * b + e)) (v := v) (M 14 (12 * b + e)).toNat 0 (Int.le_refl _)
  have ft := fdx_rng (f := tnm N (12 * b + e)) (v := v) (M 15 (12 * b + e)).toNat 0 (Int.le_refl _)
  have fh := fdx_rng (f := N (128 * (12 * b + e) + 13)) (v := v) (M 17 (12 * b + e)).toNat 0 (Int.le_refl _)
  have n14 := hE.nc1
  have n15 := hE.nt1
  have n17 := hE.nh1
  have n14' := hE.nc0
  have n15' := hE.nt0
  have n17' := hE.nh0
  have g1 : S.1 (c (128 * b + 1)) = 1 := (tg _).trans h1
  have ctC : ∀ (d1 : Nat) (Q1 : Int → Sh → Mem → Prop), Q1 (fdx (cnm N (12 * b + e)) v (M 14 (12 * b + e)).toNat 0) S V → Ct l G bX3_findConstant Q1 d1 0 0 [vr (c (128 * (12 * b + e) + 3)), vl v] S V := fun d1 Q1 hq => ct_fC hW hE.tg hE.nc hE.rc hE.tc hE.lc n14 hE.ci hq
  have ctT : ∀ (d1 : Nat) (Q1 : Int → Sh → Mem → Prop), Q1 (fdx (tnm N (12 * b + e)) v (M 15 (12 * b + e)).toNat 0) S V → Ct l G bX3_findTable Q1 d1 0 0 [vr (c (128 * (12 * b + e) + 3)), vl v] S V := fun d1 Q1 hq => ct_fT hW hE.tg hE.nt hE.rt hE.tt hE.lt n15 hE.ti hq
  have ctH : ∀ (d1 : Nat) (Q1 : Int → Sh → Mem → Prop), Q1 (fdx (N (128 * (12 * b + e) + 13)) v (M 17 (12 * b + e)).toNat 0) S V → Ct l G bX3_findHolder Q1 d1 0 0 [vr (c (128 * (12 * b + e) + 3)), vl v] S V := fun d1 Q1 hq => ct_fH hW hE.tg hE.nh hE.rn hE.tn hE.ln n17 hq
  generalize fdx (cnm N (12 * b + e)) v (M 14 (12 * b + e)).toNat 0 = zc at *
  generalize fdx (tnm N (12 * b + e)) v (M 15 (12 * b + e)).toNat 0 = zt at *
  generalize fdx (N (128 * (12 * b + e) + 13)) v (M 17 (12 * b + e)).toNat 0 = zh at *
  refine qX0_linkTo fun _ _ _ _ => vX0_linkTo_0 ?_
  rw [y0, z3, z0, ye, zo]
  refine ⟨g1, (tg _).trans h12, e0, by rw [lnn, h13]; omega, (tg _).trans h3, (tg _).trans h6, p0, by rw [lnn, h7]; exact p1, fun o12 => ⟨g3, CT.pu (by omega) (fun d1 hd1 => ctT d1 _ ⟨rfl, rfl, fun y => absurd o12 y, fun _ => ⟨g1, CT.im (by omega) (fun d2 hd2 => ct_relink hc hW hB p0 p1 (fun V1 hW1 => ⟨fun zt0 => ?_, fun zt0 => ?_⟩))⟩⟩)⟩, fun o12 => ⟨fun o13 => ⟨g3, CT.pu (by omega) (fun d1 hd1 => ctC d1 _ ⟨rfl, rfl, fun o14 => ⟨fun zc0 => ?_, fun zc0 => ⟨by omega, by omega, by omega, by omega, g1, CT.im (by omega) (fun d2 hd2 => ct_relink hc hW hB p0 p1 (fun V1 hW1 => ?_))⟩⟩, fun o14 => ⟨g1, CT.im (by omega) (fun d2 hd2 => ct_relink hc hW hB p0 p1 (fun V1 hW1 => ⟨fun zc0 => ?_, fun zc0 => ?_⟩))⟩⟩)⟩, fun o13 => ⟨g3, CT.pu (by omega) (fun d1 hd1 => ctT d1 _ ⟨rfl, rfl, fun _ => ⟨by omega, by omega, by omega, by omega, g1, CT.im (by omega) (fun d2 hd2 => ct_relink hc hW hB p0 p1 (fun V1 hW1 => ⟨fun zt0 => ?_, fun zt0 => ?_⟩))⟩, fun y => absurd o12 y⟩)⟩⟩⟩
  · exact hk V1 0 17 e hW1 (fun y => by omega) (fun _ => ⟨Or.inl ⟨o12, rfl, rfl⟩, Or.inl ⟨zt0, rfl⟩⟩) (fun y => by omega)
  · exact hk V1 1 17 e hW1 (fun y => by omega) (fun _ => ⟨Or.inl ⟨o12, rfl, rfl⟩, Or.inr ⟨by omega, rfl⟩⟩) (fun y => by omega)
  · refine ⟨g3, CT.pu (by omega) (fun d2 hd2 => ctH d2 _ ⟨rfl, rfl, by omega, by omega, by omega, by omega, by omega, by omega, g1, CT.im (by omega) (fun d3 hd3 => ct_relink hc hW hB p0 p1 (fun V1 hW1 => ⟨fun zh0 => ?_, fun zh0 => ?_⟩))⟩)⟩
    · exact hk V1 0 16 _ hW1 (fun _ => Or.inr ⟨zc0, rfl, rfl, Or.inl ⟨zh0, rfl⟩⟩) (fun y => by omega) (fun y => by omega)
    · exact hk V1 1 16 _ hW1 (fun _ => Or.inr ⟨zc0, rfl, rfl, Or.inr ⟨by omega, rfl⟩⟩) (fun y => by omega) (fun y => by omega)
  · exact hk V1 1 15 _ hW1 (fun _ => Or.inl ⟨by omega, rfl, rfl, rfl⟩) (fun y => by omega) (fun y => by omega)
  · exact hk V1 0 _ zc hW1 (fun y => by omega) (fun y => by omega) (fun y => ⟨y, rfl, Or.inl ⟨zc0, rfl⟩⟩)
  · exact hk V1 1 _ zc hW1 (fun y => by omega) (fun y => by omega) (fun y => ⟨y, rfl, Or.inr ⟨by omega, rfl⟩⟩)
  · exact hk V1 0 18 _ hW1 (fun y => by omega) (fun _ => ⟨Or.inr ⟨by omega, rfl, rfl⟩, Or.inl ⟨zt0, rfl⟩⟩) (fun y => by omega)
  · exact hk V1 1 18 _ hW1 (fun y => by omega) (fun _ => ⟨Or.inr ⟨by omega, rfl, rfl⟩, Or.inr ⟨by omega, rfl⟩⟩) (fun y => by omega)
end LKC
/-! where a step's name leads -/
def own (N M : Mem) (eo K W : Int → Int) (b p : Int) : Int := if N 121 p ≠ 14 ∧ K (N 122 p + 1) = 46 then fdx (enm N b) (W (N 122 p)) (M 10 b).toNat 0 else eo p
def tkn (N : Mem) (K : Int → Int) (p : Int) : Int := if N 121 p ≠ 14 ∧ K (N 122 p + 1) = 46 then N 122 p + 2 else N 122 p
def lcn (N M : Mem) (eo K W : Int → Int) (b p : Int) : Int := fdx (cnm N (12 * b + own N M eo K W b p)) (W (tkn N K p)) (M 14 (12 * b + own N M eo K W b p)).toNat 0
def ltb (N M : Mem) (eo K W : Int → Int) (b p : Int) : Int := fdx (tnm N (12 * b + own N M eo K W b p)) (W (tkn N K p)) (M 15 (12 * b + own N M eo K W b p)).toNat 0
def lho (N M : Mem) (eo K W : Int → Int) (b p : Int) : Int := fdx (N (128 * (12 * b + own N M eo K W b p) + 13)) (W (tkn N K p)) (M 17 (12 * b + own N M eo K W b p)).toNat 0
/-- it leads somewhere -/
def OKs (N M : Mem) (eo K W : Int → Int) (b p : Int) : Prop := (N 121 p = 11 → 0 ≤ own N M eo K W b p ∧ (0 ≤ lcn N M eo K W b p ∨ 0 ≤ lho N M eo K W b p)) ∧ (N 121 p = 12 ∨ N 121 p = 13 → 0 ≤ own N M eo K W b p ∧ 0 ≤ ltb N M eo K W b p) ∧ (N 121 p = 14 → 0 ≤ lcn N M eo K W b p)
/-- the step linked -/
def LOp (N M : Mem) (eo K W : Int → Int) (b p : Int) : Int := if N 121 p = 5 then 1 else if N 121 p = 11 then (if 0 ≤ lcn N M eo K W b p then 15 else 16) else if N 121 p = 12 then 17 else if N 121 p = 13 then 18 else N 121 p
def LAr (N M : Mem) (eo K W : Int → Int) (b p : Int) : Int := if N 121 p = 5 then M 14 (12 * b + eo p) else if N 121 p = 11 then (if 0 ≤ lcn N M eo K W b p then own N M eo K W b p * 24 + lcn N M eo K W b p else 100 + own N M eo K W b p * 4 + lho N M eo K W b p) else if N 121 p = 12 then own N M eo K W b p else if N 121 p = 13 then own N M eo K W b p * 4 + ltb N M eo K W b p else if N 121 p = 14 then lcn N M eo K W b p else N 122 p
/-- the token that a fault is told at -/
def btk (N M : Mem) (eo K W : Int → Int) (b p : Int) : Int := if own N M eo K W b p < 0 then N 122 p else tkn N K p
section LKG
variable {N N' M M' : Mem} {eo K W : Int → Int} {b : Int}
theorem lk_cg (n : ∀ L k, L ≠ 128 * b + 21 → L ≠ 128 * b + 22 → N' L k = N L k) (b0 : 0 ≤ b) (b1 : b < 10) (m : ∀ k i, k = 10 ∨ k = 14 ∨ k = 15 ∨ k = 17 → M' k i = M k i) (p : Int) : own N' M' eo K W b p = own N M eo K W b p ∧ tkn N' K p = tkn N K p ∧ lcn N' M' eo K W b p = lcn N M eo K W b p ∧ ltb N' M' eo K W b p = ltb N M eo K W b p ∧ lho N' M' eo K W b p = lho N M eo K W b p := by
  have e1 : N' 121 p = N 121 p := n _ _ (by omega) (by omega)
  have e2 : N' 122 p = N 122 p := n _ _ (by omega) (by omega)
  have e3 : enm N' b = enm N b := funext fun i => n _ _ (by omega) (by omega)
  have o : own N' M' eo K W b p = own N M eo K W b p := by unfold own; rw [e1, e2, e3, m 10 b (by omega)]
  have t : tkn N' K p = tkn N K p := by unfold tkn; rw [e1, e2]
  have e4 : ∀ g, cnm N' g = cnm N g := fun g => funext fun i => n _ _ (by omega) (by omega)
  have e5 : ∀ g, tnm N' g = tnm N g := fun g => funext fun i => n _ _ (by omega) (by omega)
  have e6 : ∀ g, N' (128 * g + 13) = N (128 * g + 13) := fun g => funext fun i => n _ _ (by omega) (by omega)
  refine ⟨o, t, ?_, ?_, ?_⟩
  · unfold lcn; rw [o, t, e4, m 14 _ (by omega)]
  · unfold ltb; rw [o, t, e5, m 15 _ (by omega)]
  · unfold lho; rw [o, t, e6, m 17 _ (by omega)]
end LKG
section LKS
variable {l : Launch} {G : GT} {c : Int → Int} {S : Sh} {V N M : Mem} {Q : Int → Sh → Mem → Prop} {d mc ms : Nat} {K W eo : Int → Int} {b ln p e nt : Int}
set_option maxHeartbeats 2000000 in
theorem ct_lks (hc : Cn c S) (hW : Wv c S V = N) (h : BCD c N b ln) (rd : Rrd c N M) (tK : ∀ i, 0 ≤ i → N 41 i = K i) (tW : ∀ i, 0 ≤ i → N 43 i = W i) (p0 : 0 ≤ p) (p1 : p < ln) (he : eo p = e) (e0 : 0 ≤ e) (e1 : e < M 10 b) (ne1 : M 10 b ≤ 12) (hb1 : N (128 * b + 1) 1 = M 10 b) (hens : ∀ i, 0 ≤ i → i < M 10 b → N (128 * b + 2) i = c (128 * (12 * b + i) + 3) ∧ N (128 * (12 * b + i) + 3) (-1) = 4) (hEs : ∀ i, 0 ≤ i → i < M 10 b → HE c N M (12 * b + i)) (c1 : N (128 * b + 21) p = N 121 p) (c2 : N (128 * b + 22) p = N 122 p) (s11 : 11 ≤ N 121 p → N 121 p ≤ 13 → 0 ≤ N 122 p ∧ N 122 p + 1 < nt ∧ (K (N 122 p + 1) = 46 → N 122 p + 2 < nt)) (s14 : N 121 p = 14 → 0 ≤ N 122 p ∧ N 122 p < nt) (ntb : nt ≤ 3001) (hd : 5 ≤ d)
    (hok : ∀ V', (∀ L k, ¬ ((L = 128 * b + 21 ∨ L = 128 * b + 22) ∧ k = p) → Wv c S V' L k = N L k) → Wv c S V' (128 * b + 21) p = LOp N M eo K W b p → Wv c S V' (128 * b + 22) p = LAr N M eo K W b p → OKs N M eo K W b p → Q (-1) S V')
    (hbad : ∀ V', (∀ L k, ¬ ((L = 128 * b + 21 ∨ L = 128 * b + 22) ∧ k = p) → Wv c S V' L k = N L k) → ¬ OKs N M eo K W b p → Q (btk N M eo K W b p) S V') : Ct l G bX0_linkStep Q d mc ms [vr (c (128 * b + 1)), vi p, vi e, vr (c 40)] S V := by
  have hB := h
  obtain ⟨h1, h2, h3, h4, h5, ⟨h6, h7⟩, ⟨h8, h9⟩, h10, h11, ⟨h12, h13⟩⟩ := h
  obtain ⟨v', tg, lnn⟩ := Wr hW
  have z3 : V (c (128 * b + 1)) 3 = c (128 * b + 20) := (v' _ _ (by decide)).trans h2
  have z0 : V (c (128 * b + 20)) 0 = c (128 * b + 21) := (v' _ _ (by decide)).trans h4
  have z1 : V (c (128 * b + 20)) 1 = c (128 * b + 22) := (v' _ _ (by decide)).trans h5
  have y0 : V (c (128 * b + 1)) 0 = c (128 * b + 2) := (v' _ _ (by decide)).trans h11
  have ye : V (c (128 * b + 2)) e = c (128 * (12 * b + e) + 3) := (v' _ _ e0).trans (hens e e0 e1).1
  have y4 : V (c (128 * (12 * b + e) + 3)) 4 = M 14 (12 * b + e) := (v' _ _ (by decide)).trans (hEs e e0 e1).nc
  have zo : V (c (128 * b + 21)) p = N 121 p := (v' _ _ p0).trans c1
  have za : V (c (128 * b + 22)) p = N 122 p := (v' _ _ p0).trans c2
  have t0 : V (c 40) 0 = c 41 := (v' _ _ (by decide)).trans rd.t0
  have t2 : V (c 40) 2 = c 43 := (v' _ _ (by decide)).trans rd.t2
  have g1 : S.1 (c (128 * b + 1)) = 1 := (tg _).trans h1
  have g40 : S.1 (c 40) = 10 := (tg _).trans rd.g40
  have g41 : S.1 (c 41) = 20 := (tg _).trans rd.g41
  have g43 : S.1 (c 43) = 22 := (tg _).trans rd.g43
  have l41 : S.2.1 (c 41) = 3001 := (lnn _).trans rd.n41
  have l43 : S.2.1 (c 43) = 3001 := (lnn _).trans rd.n43
  have vk : ∀ t, 0 ≤ t → V (c 41) t = K t := fun t q => (v' _ _ q).trans (tK t q)
  have vw : ∀ t, 0 ≤ t → V (c 43) t = W t := fun t q => (v' _ _ q).trans (tW t q)
  have frm : ∀ V' o a, Wv c S V' = up (up N (128 * b + 21) p o) (128 * b + 22) p a → (∀ L k, ¬ ((L = 128 * b + 21 ∨ L = 128 * b + 22) ∧ k = p) → Wv c S V' L k = N L k) ∧ Wv c S V' (128 * b + 21) p = o ∧ Wv c S V' (128 * b + 22) p = a := fun V' o a q => ⟨fun L k y => by rw [q, up_ne' (by omega), up_ne' (by omega)], by rw [q, up_ne' (by omega), up_eq], by rw [q, up_eq]⟩
  have fin : ∀ e' t : Int, 0 ≤ e' → own N M eo K W b p = e' → tkn N K p = t → 11 ≤ N 121 p → N 121 p ≤ 14 → ∀ (V' : Mem) (z o a : Int), Wv c S V' = up (up N (128 * b + 21) p o) (128 * b + 22) p a →
      (N (128 * b + 21) p = 11 → (0 ≤ fdx (cnm N (12 * b + e')) (W t) (M 14 (12 * b + e')).toNat 0 ∧ o = 15 ∧ a = e' * 24 + fdx (cnm N (12 * b + e')) (W t) (M 14 (12 * b + e')).toNat 0 ∧ z = 1) ∨ (fdx (cnm N (12 * b + e')) (W t) (M 14 (12 * b + e')).toNat 0 < 0 ∧ o = 16 ∧ a = 100 + e' * 4 + fdx (N (128 * (12 * b + e') + 13)) (W t) (M 17 (12 * b + e')).toNat 0 ∧ ((fdx (N (128 * (12 * b + e') + 13)) (W t) (M 17 (12 * b + e')).toNat 0 < 0 ∧ z = 0) ∨ (0 ≤ fdx (N (128 * (12 * b + e') + 13)) (W t) (M 17 (12 * b + e')).toNat 0 ∧ z = 1)))) →
      (N (128 * b + 21) p = 12 ∨ N (128 * b + 21) p = 13 → ((N (128 * b + 21) p = 12 ∧ o = 17 ∧ a = e') ∨ (N (128 * b + 21) p = 13 ∧ o = 18 ∧ a = e' * 4 + fdx (tnm N (12 * b + e')) (W t) (M 15 (12 * b + e')).toNat 0)) ∧ ((fdx (tnm N (12 * b + e')) (W t) (M 15 (12 * b + e')).toNat 0 < 0 ∧ z = 0) ∨ (0 ≤ fdx (tnm N (12 * b + e')) (W t) (M 15 (12 * b + e')).toNat 0 ∧ z = 1))) →
      (N (128 * b + 21) p = 14 → o = 14 ∧ a = fdx (cnm N (12 * b + e')) (W t) (M 14 (12 * b + e')).toNat 0 ∧ ((fdx (cnm N (12 * b + e')) (W t) (M 14 (12 * b + e')).toNat 0 < 0 ∧ z = 0) ∨ (0 ≤ fdx (cnm N (12 * b + e')) (W t) (M 14 (12 * b + e')).toNat 0 ∧ z = 1))) → (z = 0 → Q t S V') ∧ (¬ (z = 0) → Q (-1) S V') := by
    intro e' t e0' ow tk o11 o14 V' z o a hV r11 r12 r14
    have hl : lcn N M eo K W b p = fdx (cnm N (12 * b + e')) (W t) (M 14 (12 * b + e')).toNat 0 := by unfold lcn; rw [ow, tk]
    have hh : lho N M eo K W b p = fdx (N (128 * (12 * b + e') + 13)) (W t) (M 17 (12 * b + e')).toNat 0 := by unfold lho; rw [ow, tk]
    have ht : ltb N M eo K W b p = fdx (tnm N (12 * b + e')) (W t) (M 15 (12 * b + e')).toNat 0 := by unfold ltb; rw [ow, tk]
    rw [← hl, ← hh, c1] at r11
    rw [← ht, c1] at r12
    rw [← hl, c1] at r14
    obtain ⟨fr, f1, f2⟩ := frm V' o a hV
    have bt : btk N M eo K W b p = t := by unfold btk; rw [ow, if_neg (by omega), tk]
    refine ⟨fun z0 => ?_, fun z0 => ?_⟩
    · rw [← bt]
      refine hbad V' fr (fun ok => ?_)
      obtain ⟨k1, k2, k3⟩ := ok
      rw [ow] at k1 k2
      have oo : N 121 p = 11 ∨ (N 121 p = 12 ∨ N 121 p = 13) ∨ N 121 p = 14 := by omega
      rcases oo with oo | oo | oo
      · have := r11 oo
        have := (k1 oo).2
        omega
      · have := (r12 oo).2
        have := (k2 oo).2
        omega
      · have := (r14 oo).2.2
        have := k3 oo
        omega
    · refine hok V' fr ?_ ?_ ⟨fun oo => ?_, fun oo => ?_, fun oo => ?_⟩
      · rw [f1]
        unfold LOp
        by_cases o1 : N 121 p = 11
        · rw [if_neg (by omega), if_pos o1]
          rcases r11 o1 with q | q
          · rw [if_pos q.1]; exact q.2.1
          · rw [if_neg (by omega)]; exact q.2.1
        · rw [if_neg (by omega), if_neg o1]
          by_cases o2 : N 121 p = 12
          · rw [if_pos o2]
            have := (r12 (Or.inl o2)).1
            omega
          · rw [if_neg o2]
            by_cases o3 : N 121 p = 13
            · rw [if_pos o3]
              have := (r12 (Or.inr o3)).1
              omega
            · rw [if_neg o3]
              have := (r14 (by omega)).1
              omega
      · rw [f2]
        unfold LAr
        rw [ow]
        by_cases o1 : N 121 p = 11
        · rw [if_neg (by omega), if_pos o1]
          rcases r11 o1 with q | q
          · rw [if_pos q.1]; exact q.2.2.1
          · rw [if_neg (by omega)]; exact q.2.2.1
        · rw [if_neg (by omega), if_neg o1]
          by_cases o2 : N 121 p = 12
          · rw [if_pos o2]
            have := (r12 (Or.inl o2)).1
            omega
          · rw [if_neg o2]
            by_cases o3 : N 121 p = 13
            · rw [if_pos o3]
              have := (r12 (Or.inr o3)).1
              omega
            · rw [if_neg o3, if_pos (by omega)]
              exact (r14 (by omega)).2.1
      · rw [ow]
        refine ⟨e0', ?_⟩
        have := r11 oo
        omega
      · rw [ow]
        refine ⟨e0', ?_⟩
        have := (r12 oo).2
        omega
      · have := (r14 oo).2.2
        omega
  refine qX0_linkStep fun _ _ _ _ => vX0_linkStep_0 ?_
  rw [z3, z0, z1, zo, za, t0, t2, y0, ye, y4]
  refine ⟨g1, (tg _).trans h3, (tg _).trans h6, p0, by rw [lnn, h7]; exact p1, fun o5 => ⟨fun lt11 => ?_, fun lt11 => ⟨fun le14 => ⟨(tg _).trans h8, by rw [lnn, h9]; exact p1, fun o14 => ?_, fun o14 => ?_⟩, fun le14 => ?_⟩⟩, fun o5 => ⟨(tg _).trans h12, e0, by rw [lnn, h13]; omega, (tg _).trans (hens e e0 e1).2, CT.im (by omega) (fun d1 hd1 => ct_relink hc hW hB p0 p1 (fun V1 hW1 => ?_))⟩⟩
  · subst hW
    refine hok V (fun _ _ _ => rfl) ?_ ?_ ⟨fun y => absurd y (by omega), fun y => absurd y (by omega), fun y => absurd y (by omega)⟩
    · unfold LOp; rw [if_neg o5, if_neg (by omega), if_neg (by omega), if_neg (by omega)]; exact c1
    · unfold LAr; rw [if_neg o5, if_neg (by omega), if_neg (by omega), if_neg (by omega), if_neg (by omega)]; exact c2
  · obtain ⟨a0, a1⟩ := s14 o14
    have ow : own N M eo K W b p = e := by unfold own; rw [if_neg (fun y => y.1 o14)]; exact he
    have tk : tkn N K p = N 122 p := by unfold tkn; rw [if_neg (fun y => y.1 o14)]
    rw [vw _ a0]
    exact ⟨g40, g43, a0, by rw [l43]; omega, CT.im (by omega) (fun d1 hd1 => ct_linkTo (ne := M 10 b) hc hW hB p0 p1 e0 e1 ne1 (hens e e0 e1).1 (hEs e e0 e1) (by omega) (by omega) (fun V' z o a hV r11 r12 r14 => fin e _ e0 ow tk (by omega) (by omega) V' z o a hV r11 r12 r14))⟩
  · obtain ⟨a0, a1, a2⟩ := s11 (by omega) (by omega)
    rw [vk _ (by omega), vw _ a0]
    refine ⟨g40, by omega, by omega, g41, by omega, by rw [l41]; omega, fun k46 => ⟨g43, a0, by rw [l43]; omega, ?_⟩, fun k46 => ⟨g43, a0, by rw [l43]; omega, ?_⟩⟩
    · have ow : own N M eo K W b p = e := by unfold own; rw [if_neg (fun y => k46 y.2)]; exact he
      have tk : tkn N K p = N 122 p := by unfold tkn; rw [if_neg (fun y => k46 y.2)]
      exact CT.im (by omega) (fun d1 hd1 => ct_linkTo (ne := M 10 b) hc hW hB p0 p1 e0 e1 ne1 (hens e e0 e1).1 (hEs e e0 e1) (by omega) (by omega) (fun V' z o a hV r11 r12 r14 => fin e _ e0 ow tk (by omega) (by omega) V' z o a hV r11 r12 r14))
    · have k46' : K (N 122 p + 1) = 46 := by omega
      have b2 := a2 k46'
      have ow : own N M eo K W b p = fdx (enm N b) (W (N 122 p)) (M 10 b).toNat 0 := by unfold own; rw [if_pos ⟨o14, k46'⟩]
      have tk : tkn N K p = N 122 p + 2 := by unfold tkn; rw [if_pos ⟨o14, k46'⟩]
      have fr := fdx_rng (f := enm N b) (v := W (N 122 p)) (M 10 b).toNat 0 (Int.le_refl _)
      refine CT.pu (by omega) (fun d1 hd1 => ct_fE (n := M 10 b) hW h1 hb1 h11 h12 h13 ne1 hens ⟨rfl, rfl, fun f0 => ?_, fun f0 => ?_⟩)
      · rw [t2, vw _ (by omega)]
        refine ⟨by omega, by omega, g40, g43, by omega, by rw [l43]; omega, g1, CT.im (by omega) (fun d2 hd2 => ?_)⟩
        exact ct_linkTo (ne := M 10 b) hc hW hB p0 p1 f0 (by omega) ne1 (hens _ f0 (by omega)).1 (hEs _ f0 (by omega)) (by omega) (by omega) (fun V' z o a hV r11 r12 r14 => fin _ _ f0 ow tk (by omega) (by omega) V' z o a hV r11 r12 r14)
      · have bt : btk N M eo K W b p = N 122 p := by unfold btk; rw [if_pos (by rw [ow]; omega)]
        subst hW
        rw [← bt]
        refine hbad V (fun _ _ _ => rfl) (fun ok => ?_)
        obtain ⟨k1, k2, k3⟩ := ok
        rw [ow] at k1 k2
        have oo : Wv c S V 121 p = 11 ∨ (Wv c S V 121 p = 12 ∨ Wv c S V 121 p = 13) := by omega
        rcases oo with oo | oo
        · exact absurd (k1 oo).1 f0
        · exact absurd (k2 oo).1 f0
  · subst hW
    refine hok V (fun _ _ _ => rfl) ?_ ?_ ⟨fun y => absurd y (by omega), fun y => absurd y (by omega), fun y => absurd y (by omega)⟩
    · unfold LOp; rw [if_neg o5, if_neg (by omega), if_neg (by omega), if_neg (by omega)]; exact c1
    · unfold LAr; rw [if_neg o5, if_neg (by omega), if_neg (by omega), if_neg (by omega), if_neg (by omega)]; exact c2
  · obtain ⟨fr, f1, f2⟩ := frm V1 _ _ hW1
    have o5' : N 121 p = 5 := by omega
    refine hok V1 fr ?_ ?_ ⟨fun y => absurd y (by omega), fun y => absurd y (by omega), fun y => absurd y (by omega)⟩
    · rw [f1]; unfold LOp; rw [if_pos o5']
    · rw [f2]; unfold LAr; rw [if_pos o5', he]
end LKS
