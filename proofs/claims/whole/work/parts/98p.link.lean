/-! ===== book: names linked: all of them ===== -/
def LIV (N0 M0 gm : Mem) (eo cs K W : Int → Int) (b B ln p : Int) (N M : Mem) : Prop := (∀ L k, ¬ ((L = 128 * b + 21 ∨ L = 128 * b + 22) ∧ 0 ≤ k) → N L k = N0 L k) ∧ (∀ q, 0 ≤ q → q < p → N (128 * b + 21) q = LOp N0 M0 eo K W b q ∧ N (128 * b + 22) q = LAr N0 M0 eo K W b q ∧ OKs N0 M0 eo K W b q) ∧ (∀ q, p ≤ q → q < ln → N (128 * b + 21) q = N0 121 q ∧ N (128 * b + 22) q = N0 122 q) ∧ LMP N0 M0 gm eo cs K W b B p M
section LK2
variable {N N' M M' : Mem} {eo K W : Int → Int} {b : Int}
theorem lk_cg2 (n : ∀ L k, L ≠ 128 * b + 21 → L ≠ 128 * b + 22 → N' L k = N L k) (b0 : 0 ≤ b) (b1 : b < 10) (m : ∀ k i, k = 10 ∨ k = 14 ∨ k = 15 ∨ k = 17 → M' k i = M k i) (p : Int) : (OKs N' M' eo K W b p ↔ OKs N M eo K W b p) ∧ LOp N' M' eo K W b p = LOp N M eo K W b p ∧ LAr N' M' eo K W b p = LAr N M eo K W b p ∧ btk N' M' eo K W b p = btk N M eo K W b p := by
  obtain ⟨h1, h2, h3, h4, h5⟩ := lk_cg (eo := eo) (K := K) (W := W) n b0 b1 m p
  have e1 : N' 121 p = N 121 p := n _ _ (by omega) (by omega)
  have e2 : N' 122 p = N 122 p := n _ _ (by omega) (by omega)
  refine ⟨?_, ?_, ?_, ?_⟩
  · unfold OKs; rw [e1, h1, h3, h4, h5]
  · unfold LOp; rw [e1, h3]
  · unfold LAr; rw [e1, e2, h1, h3, h4, h5, m 14 _ (by omega)]
  · unfold btk; rw [h1, h2, e2]
end LK2
section LKX
variable {c : Int → Int} {N0 M0 M gm : Mem} {ow eo cs K P W E : Int → Int} {nt b B j ln ne p : Int}
/-- an INDEXED step leads where its OPENED one does -/
theorem BKI.n13 (h : BKI c N0 M0 gm ow eo cs K P W E nt b B j ln ne) (p0 : 0 ≤ p) (p1 : p < ln) (o : N0 121 p = 13) : ∃ q, 0 ≤ q ∧ q < p ∧ N0 121 q = 12 ∧ N0 122 p = N0 122 q ∧ own N0 M0 eo K W b p = own N0 M0 eo K W b q ∧ ltb N0 M0 eo K W b p = ltb N0 M0 eo K W b q := by
  obtain ⟨ts, ⟨lv, hr⟩, ⟨l0, lj, a0, a1⟩, ⟨w0, f0, b9⟩, tx, ⟨hB, h10⟩, pe, wd, ss, ⟨ne0, ne12, b0, b1, B0, B1⟩⟩ := h
  have cv : CVp N0 M0 gm B (M0 0 40) p := by
    rcases wd.2.1 p p0 p1 with q | q | q
    · omega
    · exact q
    · have := q.1; omega
  obtain ⟨x, x0, x1, kx, gx⟩ := cv.2.2.2.2 o
  obtain ⟨n1, n2, n3, n4⟩ := wd.1 x x0 x1
  have pk := n1.2.2.2.2
  have lt := n1.1
  have q12 : N0 121 (gm 1 x) = 12 ∧ N0 122 (gm 2 (M0 37 x)) = N0 122 (gm 1 x) ∧ gm 2 x = gm 2 (M0 37 x) + 1 ∧ gm 1 (M0 37 x) = gm 1 x + 1 ∧ B ≤ M0 37 x ∧ M0 37 x < M0 0 40 := by
    unfold PCk at pk
    omega
  rw [gx] at q12
  have c1 := (wd.1 (M0 37 x) q12.2.2.2.2.1 q12.2.2.2.2.2).1.1
  rw [gx] at c1
  have eoe : eo p = eo (gm 1 x) := by
    have u1 := n3 p (by omega) (by omega)
    have u2 := n3 (gm 1 x) (Int.le_refl _) (by omega)
    omega
  have ow' : own N0 M0 eo K W b p = own N0 M0 eo K W b (gm 1 x) := by
    unfold own
    rw [o, q12.1, q12.2.1, eoe]
    by_cases k : K (N0 122 (gm 1 x) + 1) = 46
    · rw [if_pos ⟨by decide, k⟩, if_pos ⟨by decide, k⟩]
    · rw [if_neg (fun y => k y.2), if_neg (fun y => k y.2)]
  have tk : tkn N0 K p = tkn N0 K (gm 1 x) := by
    unfold tkn
    rw [o, q12.1, q12.2.1]
    by_cases k : K (N0 122 (gm 1 x) + 1) = 46
    · rw [if_pos ⟨by decide, k⟩, if_pos ⟨by decide, k⟩]
    · rw [if_neg (fun y => k y.2), if_neg (fun y => k y.2)]
  exact ⟨gm 1 x, by omega, by omega, q12.1, q12.2.1, ow', by unfold ltb; rw [ow', tk]⟩
theorem BKI.tkb (h : BKI c N0 M0 gm ow eo cs K P W E nt b B j ln ne) (p0 : 0 ≤ p) (p1 : p < ln) : (11 ≤ N0 121 p → N0 121 p ≤ 13 → 0 ≤ N0 122 p ∧ N0 122 p + 1 < nt ∧ (K (N0 122 p + 1) = 46 → N0 122 p + 2 < nt)) ∧ (N0 121 p = 14 → 0 ≤ N0 122 p ∧ N0 122 p < nt) := by
  have two : ∀ q, 0 ≤ q → q < ln → N0 121 q = 11 ∨ N0 121 q = 12 → 0 ≤ N0 122 q ∧ N0 122 q + 1 < nt ∧ (K (N0 122 q + 1) = 46 → N0 122 q + 2 < nt) := fun q q0 q1 o => by
    obtain ⟨x, x0, x1, gx, ox, rf, m39, uq⟩ := h.ndx q0 q1 o
    obtain ⟨f48, t0, t1, k3, fcs⟩ := rf
    refine ⟨t0, t1, fun k => ?_⟩
    rcases fcs with f | f
    · exact absurd k f.1
    · exact f.2.1
  refine ⟨fun o1 o2 => ?_, fun o => ?_⟩
  · by_cases o3 : N0 121 p = 13
    · obtain ⟨q, q0, q1, q2, q3, q4, q5⟩ := h.n13 (P := P) p0 p1 o3
      rw [q3]
      exact two q q0 (by omega) (Or.inr q2)
    · exact two p p0 p1 (by omega)
  · obtain ⟨ts, ⟨lv, hr⟩, ⟨l0, lj, a0, a1⟩, ⟨w0, f0, b9⟩, tx, ⟨hB, h10⟩, pe, wd, ss, ⟨ne0, ne12, b0, b1, B0, B1⟩⟩ := h
    rcases wd.2.1 p p0 p1 with q | q | q
    · omega
    · have := q.1; omega
    · exact ⟨q.2.2.1.1, q.2.2.1.2.1⟩
/-- a step without a reference -/
theorem LMP.sk (h : BKI c N0 M0 gm ow eo cs K P W E nt b B j ln ne) (hm : LMP N0 M0 gm eo cs K W b B p M) (o : ¬ (N0 121 p = 11 ∨ N0 121 p = 12 ∨ N0 121 p = 14)) : LMP N0 M0 gm eo cs K W b B (p + 1) M := by
  obtain ⟨ts, ⟨lv, hr⟩, ⟨l0, lj, a0, a1⟩, ⟨w0, f0, b9⟩, tx, ⟨hB, h10⟩, pe, wd, ss, ⟨ne0, ne12, b0, b1, B0, B1⟩⟩ := h
  refine ⟨hm.1, fun x x0 x1 => (hm.2.1 x x0 x1).oth rfl rfl (fun k gx => ?_), fun q q0 q1 oq => hm.2.2 q q0 ?_ oq⟩
  · have pk := (wd.1 x x0 x1).1.2.2.2.2
    unfold PCk at pk
    rw [gx] at pk
    omega
  · have : q ≠ p := fun y => o (Or.inr (Or.inr (y ▸ oq)))
    omega
end LKX
section LKL
variable {l : Launch} {G : GT} {c : Int → Int} {S : Sh} {N0 M0 gm : Mem} {Q : Int → Sh → Mem → Prop} {d mc ms ee : Nat} {ow eo cs K P W E : Int → Int} {nt b B j ln ne : Int} {Xq : (Int → Mem → Prop) → Prop}
set_option maxHeartbeats 2000000 in
theorem lk_in (hc : Cn c S) (h : BKI c N0 M0 gm ow eo cs K P W E nt b B j ln ne) (hB : BCD c N0 b ln) (l3 : ln ≤ 3000) (hd : 10 ≤ d) (he : 6 ≤ ee)
    (hbad : ∀ V' M' t, 0 ≤ t → t < nt → (∀ L k, ¬ ((L = 128 * b + 21 ∨ L = 128 * b + 22) ∧ 0 ≤ k) → Wv c S V' L k = N0 L k) → (∀ k i, ¬ ((k = 35 ∨ k = 36) ∧ B ≤ i ∧ i < M0 0 40) → ¬ (k = 32 ∧ 432 * b ≤ i ∧ i < 432 * b + 432) → M' k i = M0 k i) → (∀ Qr : Int → Mem → Prop, Qr 0 (mFt M' 4 (P t)) → Xq Qr) → Q t S V')
    {e : Int} (e0 : 0 ≤ e) (e1 : e < ne)
    (hnx : ∀ V' M', LIV N0 M0 gm eo cs K W b B ln (N0 (128 * (12 * b + e) + 3) 2) (Wv c S V') M' → (∀ Qr : Int → Mem → Prop, PM (ee + 2) n_readBook_59 [rcn (N0 121) (N0 (128 * (12 * b + e) + 3) 2).toNat] M' Qr → Xq Qr) → XJ l G bX0_linkNames Q d 2 [vr (c (128 * b + 1)), vr (c 40), vi (e + 1), vu, vu, vu] [] S V' mc ms) :
    ∀ (r : Nat) (p : Int) (V M : Mem), N0 (128 * (12 * b + e) + 3) 2 - p = r → N0 (128 * (12 * b + e) + 3) 1 ≤ p → LIV N0 M0 gm eo cs K W b B ln p (Wv c S V) M → (∀ Qr : Int → Mem → Prop, PM (ee + 2) n_readBook_59 [rcn (N0 121) p.toNat] M Qr → Xq Qr) → XJ l G bX0_linkNames Q d 45 [vr (c (128 * b + 1)), vr (c 40), vi e, vi (N0 (128 * (12 * b + e) + 3) 2), vi p, vu] [] S V mc ms := by
  have hI := h
  obtain ⟨ts, ⟨lv, hr⟩, ⟨l0, lj, a0, a1⟩, ⟨w0, f0, b9⟩, tx, ⟨hH, h10⟩, pe, wd, ss, ⟨ne0, ne12, b0, b1, B0, B1⟩⟩ := h
  obtain ⟨-, -, -, -, ⟨F0, F1, F2⟩, heo, -, -⟩ := pe e e0 e1
  have ntb := ts.ntb
  intro r
  induction r with
  | zero =>
    intro p V M hr' hp hv rch
    have pe' : p = N0 (128 * (12 * b + e) + 3) 2 := by omega
    rw [pe'] at hv rch ⊢
    exact vX0_linkNames_45 ⟨fun _ => ⟨by omega, by omega, hnx V M hv rch⟩, fun y => absurd (Int.le_refl _) y⟩
  | succ r ih =>
    intro p V M hr' hp hv rch
    obtain ⟨v1, v2, v3, v4⟩ := hv
    have p1 : p < ln := by omega
    have p0 : 0 ≤ p := by omega
    have he' : eo p = e := heo p hp (by omega)
    have nq : ∀ L k, L ≠ 128 * b + 21 → L ≠ 128 * b + 22 → Wv c S V L k = N0 L k := fun L k q1 q2 => v1 L k (by omega)
    have mk : ∀ k i, k ≠ 35 → k ≠ 36 → k ≠ 32 → M k i = M0 k i := fun k i q1 q2 q3 => v4.1 k i (by omega) (by omega)
    obtain ⟨g1, g2, g3, g4⟩ := lk_cg2 (N' := Wv c S V) (M' := M) (eo := eo) (K := K) (W := W) nq b0 b1 (fun k i q => mk k i (by omega) (by omega) (by omega)) p
    have q10 : M 10 b = ne := (mk _ _ (by decide) (by decide) (by decide)).trans h10
    have n121 : Wv c S V 121 p = N0 121 p := nq _ _ (by omega) (by omega)
    have n122 : Wv c S V 122 p = N0 122 p := nq _ _ (by omega) (by omega)
    obtain ⟨tb1, tb2⟩ := hI.tkb (P := P) p0 p1
    have bcd : BCD c (Wv c S V) b ln := by
      obtain ⟨h1, h2, h3, h4, h5, ⟨h6, h7⟩, ⟨h8, h9⟩, h10, h11, ⟨h12, h13⟩⟩ := hB
      exact ⟨(nq _ _ (by omega) (by omega)).trans h1, (nq _ _ (by omega) (by omega)).trans h2, (nq _ _ (by omega) (by omega)).trans h3, (nq _ _ (by omega) (by omega)).trans h4, (nq _ _ (by omega) (by omega)).trans h5, ⟨(v1 _ _ (by omega)).trans h6, (v1 _ _ (by omega)).trans h7⟩, ⟨(v1 _ _ (by omega)).trans h8, (v1 _ _ (by omega)).trans h9⟩, (nq _ _ (by omega) (by omega)).trans h10, (nq _ _ (by omega) (by omega)).trans h11, (nq _ _ (by omega) (by omega)).trans h12, (nq _ _ (by omega) (by omega)).trans h13⟩
    have gB : S.1 (c (128 * b + 1)) = 1 := by rw [(Wr (rfl : Wv c S V = Wv c S V)).2.1]; exact bcd.1
    have w0' : M 0 46 = 0 := (mk _ _ (by decide) (by decide) (by decide)).trans w0
    have m51 : M 0 51 = rcn (N0 121) ln.toNat := (mk _ _ (by decide) (by decide) (by decide)).trans hr.symm
    have hEs : ∀ i, 0 ≤ i → i < M 10 b → HE c (Wv c S V) M (12 * b + i) := fun i i0 i1 => (pe i i0 (by omega)).1.fr (fun L k q => ⟨rfl, nq _ _ (by unfold hdL at q; omega) (by unfold hdL at q; omega)⟩) (fun L q => ⟨rfl, nq _ _ (by unfold hiL at q; omega) (by unfold hiL at q; omega)⟩) (fun k _ _ => mk _ _ (by omega) (by omega) (by omega)) (fun i => mk _ _ (by decide) (by decide) (by decide))
    have onx : ∀ V' : Mem, (∀ L k, ¬ ((L = 128 * b + 21 ∨ L = 128 * b + 22) ∧ k = p) → Wv c S V' L k = Wv c S V L k) → Wv c S V' (128 * b + 21) p = LOp N0 M0 eo K W b p → Wv c S V' (128 * b + 22) p = LAr N0 M0 eo K W b p → OKs N0 M0 eo K W b p → ∀ M' : Mem, LMP N0 M0 gm eo cs K W b B (p + 1) M' → LIV N0 M0 gm eo cs K W b B ln (p + 1) (Wv c S V') M' := fun V' fr f1 f2 ok M' hm => by
      refine ⟨fun L k q => (fr L k (by omega)).trans (v1 L k q), fun q q0 q1 => ?_, fun q q0 q1 => ?_, hm⟩
      · by_cases y : q = p
        · rw [y]; exact ⟨f1, f2, ok⟩
        · rw [fr _ _ (by omega), fr _ _ (by omega)]; exact v2 q q0 (by omega)
      · rw [fr _ _ (by omega), fr _ _ (by omega)]; exact v3 q (by omega) q1
    refine vX0_linkNames_45 ⟨fun y => absurd y (by omega), fun _ => ⟨gB, CT.im (by omega) (fun d1 hd1 => ct_lks (N := Wv c S V) (M := M) (nt := nt) hc rfl bcd (ts.rd.rg (fun _ _ => rfl) (fun L k q => nq _ _ (by unfold rdS at q; omega) (by unfold rdS at q; omega))) (fun i i0 => (nq _ _ (by omega) (by omega)).trans (ts.2.1.1 i i0)) (fun i i0 => (nq _ _ (by omega) (by omega)).trans (ts.2.1.2.2 i i0)) p0 p1 he' e0 (by omega) (by omega) ?_ (fun i i0 i1 => ?_) hEs ?_ ?_ ?_ ?_ (by omega) (by omega) (fun V' fr f1 f2 ok => ⟨fun _ => ⟨by omega, by omega, ?_⟩, fun y => absurd (by decide) y⟩) (fun V' fr ok => ?_))⟩⟩
    · rw [nq _ _ (by omega) (by omega), hH.ne, h10, q10]
    · rw [nq _ _ (by omega) (by omega), nq _ _ (by omega) (by omega)]; exact hH.ei i i0 (by omega)
    · rw [(v3 p (Int.le_refl _) p1).1, n121]
    · rw [(v3 p (Int.le_refl _) p1).2, n122]
    · rw [n121, n122]; exact tb1
    · rw [n121, n122]; exact tb2
    · rw [g2] at f1
      rw [g3] at f2
      have ok' := g1.1 ok
      by_cases o : N0 121 p = 11 ∨ N0 121 p = 12 ∨ N0 121 p = 14
      · obtain ⟨M', run, hm'⟩ := (lk_ref (P := P) (e := ee) hI v4 p0 p1 l3 (by omega) (by omega) o (by omega)).1 ok'
        have rl := rcn_lt (f := N0 121) p0 p1 o
        have rs : rcn (N0 121) (p + 1).toNat = rcn (N0 121) p.toNat + 1 := by
          rw [rcn_s p0]
          unfold rfs
          rw [if_pos o]
        have rn := rcn_n (f := N0 121) p.toNat
        have rn0 := rcn_0 (f := N0 121) p.toNat
        refine ih (p + 1) V' M' (by omega) (by omega) (onx V' fr f1 f2 ok' M' hm') (fun Qr hq => rch Qr (st_readBook_59 ⟨fun y => absurd y (by omega), fun _ => ⟨fun y => absurd w0' y, fun _ => run _ ⟨by omega, by omega, ?_⟩⟩⟩))
        rw [rs] at hq
        exact hq
      · have rs : rcn (N0 121) (p + 1).toNat = rcn (N0 121) p.toNat := by
          rw [rcn_s p0]
          unfold rfs
          rw [if_neg o, Int.add_zero]
        refine ih (p + 1) V' M (by omega) (by omega) (onx V' fr f1 f2 ok' M (v4.sk hI o)) (fun Qr hq => rch Qr ?_)
        rw [rs] at hq
        exact hq
    · rw [g4]
      have ok' : ¬ OKs N0 M0 eo K W b p := fun y => ok (g1.2 y)
      have o : N0 121 p = 11 ∨ N0 121 p = 12 ∨ N0 121 p = 14 := by
        by_cases o3 : N0 121 p = 13
        · exfalso
          obtain ⟨q, q0, q1, q2, q3, q4, q5⟩ := hI.n13 (P := P) p0 p1 o3
          have okq := (v2 q q0 q1).2.2.2.1 (Or.inl q2)
          refine ok' ⟨fun y => by omega, fun _ => ?_, fun y => by omega⟩
          rw [q4, q5]
          exact okq
        · by_cases y : N0 121 p = 11 ∨ N0 121 p = 12 ∨ N0 121 p = 14
          · exact y
          · exact absurd ⟨fun z => absurd (Or.inl z) y, fun z => by omega, fun z => absurd (Or.inr (Or.inr z)) y⟩ ok'
      have run := (lk_ref (P := P) (e := ee) hI v4 p0 p1 l3 (by omega) (by omega) o (by omega)).2 ok'
      have rl := rcn_lt (f := N0 121) p0 p1 o
      have rn := rcn_n (f := N0 121) p.toNat
      have rn0 := rcn_0 (f := N0 121) p.toNat
      have tq : 0 ≤ N0 122 p ∧ N0 122 p < nt := by
        by_cases o4 : N0 121 p = 14
        · exact tb2 o4
        · have := tb1 (by omega) (by omega)
          omega
      have tkq : 0 ≤ tkn N0 K p ∧ tkn N0 K p < nt := by
        unfold tkn
        by_cases o4 : N0 121 p ≠ 14 ∧ K (N0 122 p + 1) = 46
        · rw [if_pos o4]
          have := (tb1 (by omega) (by omega)).2.2 o4.2
          omega
        · rw [if_neg o4]
          exact tq
      have bt : 0 ≤ btk N0 M0 eo K W b p ∧ btk N0 M0 eo K W b p < nt := by
        unfold btk
        by_cases y : own N0 M0 eo K W b p < 0
        · rw [if_pos y]; exact tq
        · rw [if_neg y]; exact tkq
      have wp : 0 < mFt M 4 (P (btk N0 M0 eo K W b p)) 0 46 := by rw [mFt_46]; decide
      refine ⟨fun y => absurd y (by omega), fun _ => hbad V' M _ bt.1 bt.2 (fun L k q => (fr L k (by omega)).trans (v1 L k q)) v4.1 (fun Qr hq => rch Qr (st_readBook_59 ⟨fun y => absurd y (by omega), fun _ => ⟨fun y => absurd w0' y, fun _ => run _ ⟨by omega, by omega, st_readBook_59 ⟨fun _ => hq, fun _ => ⟨fun _ => hq, fun y => absurd wp (by omega)⟩⟩⟩⟩⟩))⟩
set_option maxHeartbeats 1000000 in
theorem lk_all (hc : Cn c S) (h : BKI c N0 M0 gm ow eo cs K P W E nt b B j ln ne) (hB : BCD c N0 b ln) (ne1 : 1 ≤ ne) (l3 : ln ≤ 3000) (hd : 10 ≤ d) (he : 6 ≤ ee)
    (hok : ∀ V' M', LIV N0 M0 gm eo cs K W b B ln ln (Wv c S V') M' → (∀ Qr : Int → Mem → Prop, Qr 0 M' → Xq Qr) → Q (-1) S V')
    (hbad : ∀ V' M' t, 0 ≤ t → t < nt → (∀ L k, ¬ ((L = 128 * b + 21 ∨ L = 128 * b + 22) ∧ 0 ≤ k) → Wv c S V' L k = N0 L k) → (∀ k i, ¬ ((k = 35 ∨ k = 36) ∧ B ≤ i ∧ i < M0 0 40) → ¬ (k = 32 ∧ 432 * b ≤ i ∧ i < 432 * b + 432) → M' k i = M0 k i) → (∀ Qr : Int → Mem → Prop, Qr 0 (mFt M' 4 (P t)) → Xq Qr) → Q t S V') :
    ∀ (r : Nat) (e : Int) (V M : Mem), ne - e = r → 0 ≤ e → LIV N0 M0 gm eo cs K W b B ln (if e = 0 then 0 else N0 (128 * (12 * b + (e - 1)) + 3) 2) (Wv c S V) M → (∀ Qr : Int → Mem → Prop, PM (ee + 2) n_readBook_59 [rcn (N0 121) (if e = 0 then 0 else N0 (128 * (12 * b + (e - 1)) + 3) 2).toNat] M Qr → Xq Qr) → XJ l G bX0_linkNames Q d 2 [vr (c (128 * b + 1)), vr (c 40), vi e, vu, vu, vu] [] S V mc ms := by
  have hI := h
  obtain ⟨ts, ⟨lv, hr⟩, ⟨l0, lj, a0, a1⟩, ⟨w0, f0, b9⟩, tx, ⟨hH, h10⟩, pe, wd, ⟨ss1, ss2⟩, ⟨ne0, ne12, b0, b1, B0, B1⟩⟩ := h
  have common : ∀ (V M : Mem) (p : Int), LIV N0 M0 gm eo cs K W b B ln p (Wv c S V) M → S.1 (c (128 * b + 1)) = 1 ∧ V (c (128 * b + 1)) 1 = ne ∧ V (c (128 * b + 1)) 0 = c (128 * b + 2) ∧ V (c (128 * b + 1)) 3 = c (128 * b + 20) ∧ S.1 (c (128 * b + 2)) = 33 ∧ S.2.1 (c (128 * b + 2)) = 12 ∧ S.1 (c (128 * b + 20)) = 2 ∧ V (c (128 * b + 20)) 2 = ln ∧ (∀ e, 0 ≤ e → e < ne → V (c (128 * b + 2)) e = c (128 * (12 * b + e) + 3) ∧ S.1 (c (128 * (12 * b + e) + 3)) = 4 ∧ V (c (128 * (12 * b + e) + 3)) 1 = N0 (128 * (12 * b + e) + 3) 1 ∧ V (c (128 * (12 * b + e) + 3)) 2 = N0 (128 * (12 * b + e) + 3) 2) := by
    intro V M p hv
    have nq : ∀ L k, L ≠ 128 * b + 21 → L ≠ 128 * b + 22 → Wv c S V L k = N0 L k := fun L k q1 q2 => hv.1 L k (by omega)
    obtain ⟨v', tg, lnn⟩ := Wr (rfl : Wv c S V = Wv c S V)
    obtain ⟨h1, h2, h3, h4, h5, ⟨h6, h7⟩, ⟨h8, h9⟩, h10', h11, ⟨h12, h13⟩⟩ := hB
    refine ⟨(tg _).trans ((nq _ _ (by omega) (by omega)).trans h1), (v' _ _ (by decide)).trans ((nq _ _ (by omega) (by omega)).trans (hH.ne.trans h10)), (v' _ _ (by decide)).trans ((nq _ _ (by omega) (by omega)).trans h11), (v' _ _ (by decide)).trans ((nq _ _ (by omega) (by omega)).trans h2), (tg _).trans ((nq _ _ (by omega) (by omega)).trans h12), (lnn _).trans ((nq _ _ (by omega) (by omega)).trans h13), (tg _).trans ((nq _ _ (by omega) (by omega)).trans h3), (v' _ _ (by decide)).trans ((nq _ _ (by omega) (by omega)).trans h10'), fun e e0 e1 => ⟨(v' _ _ e0).trans ((nq _ _ (by omega) (by omega)).trans (hH.ei e e0 (by omega)).1), (tg _).trans ((nq _ _ (by omega) (by omega)).trans (hH.ei e e0 (by omega)).2), (v' _ _ (by decide)).trans (nq _ _ (by omega) (by omega)), (v' _ _ (by decide)).trans (nq _ _ (by omega) (by omega))⟩⟩
  intro r
  induction r with
  | zero =>
    intro e V M hr' e0 hv rch
    obtain ⟨c1, c2, c3, c4, c5, c6, c7, c8, c9⟩ := common V M _ hv
    have ee' : e = ne := by omega
    have le : (if e = 0 then 0 else N0 (128 * (12 * b + (e - 1)) + 3) 2) = ln := by
      rw [if_neg (by omega), ee']
      exact (ss2 (by omega)).symm
    rw [le] at hv rch
    refine vX0_linkNames_2 ?_
    rw [c2]
    have m51 : M 0 51 = rcn (N0 121) ln.toNat := (hv.2.2.2.1 _ _ (by omega) (by omega)).trans hr.symm
    exact ⟨c1, fun _ => hok V M hv (fun Qr hq => rch Qr (st_readBook_59 ⟨fun _ => hq, fun y => absurd (by omega) y⟩)), fun y => absurd (by omega) y⟩
  | succ r ih =>
    intro e V M hr' e0 hv rch
    obtain ⟨c1, c2, c3, c4, c5, c6, c7, c8, c9⟩ := common V M _ hv
    have e1 : e < ne := by omega
    obtain ⟨d1, d2, d3, d4⟩ := c9 e e0 e1
    obtain ⟨-, -, -, -, ⟨F0, F1, F2⟩, heo, s1, s2⟩ := pe e e0 e1
    have fe : (if e = 0 then 0 else N0 (128 * (12 * b + (e - 1)) + 3) 2) = N0 (128 * (12 * b + e) + 3) 1 := by
      by_cases y : e = 0
      · rw [if_pos y]; exact (s1 y).symm
      · rw [if_neg y]; exact (s2 (by omega)).symm
    rw [fe] at hv rch
    have im : imin (N0 (128 * (12 * b + e) + 3) 2) ln = N0 (128 * (12 * b + e) + 3) 2 := by unfold imin; split <;> omega
    have ix : imax (N0 (128 * (12 * b + e) + 3) 1) 0 = N0 (128 * (12 * b + e) + 3) 1 := by unfold imax; split <;> omega
    refine vX0_linkNames_2 ?_
    rw [c2, c3, c4, d1, d3, d4, c8, im, ix]
    refine ⟨c1, fun y => absurd y (by omega), fun _ => ⟨c5, e0, by rw [c6]; omega, d2, c7, by omega, ?_⟩⟩
    refine lk_in hc hI hB l3 hd he hbad e0 e1 (fun V' M' hv' rch' => ih (e + 1) V' M' (by omega) (by omega) ?_ ?_) (N0 (128 * (12 * b + e) + 3) 2 - N0 (128 * (12 * b + e) + 3) 1).toNat _ V M (by omega) (Int.le_refl _) hv rch
    · rw [if_neg (by omega), show e + 1 - 1 = e from by omega]; exact hv'
    · rw [if_neg (by omega), show e + 1 - 1 = e from by omega]; exact rch'
end LKL
