/-! ===== evaluation: items start and are used ===== -/
theorem Lx.cl {it b : Int} {M M' : Mem} (h : Lx it b M M') (z : M 52 (160 * b + it) = 0) (n : M' 52 (160 * b + it) ≠ 3) : Lx (-1) b M M' := fun i i0 i1 _ => by
  by_cases e : i = it
  · subst e
    exact ⟨fun _ => n, fun q => absurd z q⟩
  · exact h i i0 i1 e
theorem EvF.beg {b it D s : Int} {N M : Mem} (b0 : 0 ≤ b) (i0 : 0 ≤ it) (i1 : it < 148) (s0 : 0 ≤ s) (s1 : s < 60) : EvF b N M (nBeg N b it D s) (mBeg M b it D s) := ⟨fun L j a q => nBeg_ne (by unfold bkL at q; omega), fun k j q => mBeg_ne (by unfold dM at q; omega), fun j => nBeg_ne (by omega)⟩
theorem Lx.beg {b it D s : Int} {M : Mem} : Lx it b M (mBeg M b it D s) := Lx.of (fun _ _ _ _ => mBeg_ne (by omega)) (fun _ _ _ _ => ⟨mBeg_ne (by omega), fun _ _ _ => mBeg_ne (by omega), fun _ _ _ => mBeg_ne (by omega), fun _ _ _ => mBeg_ne (by omega)⟩) (fun _ _ _ _ => mBeg_ne (by omega))
theorem EvF.fin {b it D v : Int} {N M : Mem} (b0 : 0 ≤ b) (i0 : 0 ≤ it) (i1 : it < 148) : EvF b N M (nFin N b it D v) (mFin M b it D v) := ⟨fun L j a q => nFin_ne (by unfold bkL at q; omega), fun k j q => mFin_ne (by unfold dM at q; omega), fun j => nFin_ne (by omega)⟩
theorem Lx.fin {b it D v : Int} {M : Mem} : Lx it b M (mFin M b it D v) := Lx.of (fun _ _ _ _ => mFin_ne (by omega)) (fun _ _ _ _ => ⟨mFin_ne (by omega), fun _ _ _ => mFin_ne (by omega), fun _ _ _ => mFin_ne (by omega), fun _ _ _ => mFin_ne (by omega)⟩) (fun _ _ _ _ => mFin_ne (by omega))
theorem EvF.aro {b it s : Int} {N M : Mem} (b0 : 0 ≤ b) : EvF b N M (nAro N s it) (mAro M s it) := ⟨fun L j a q => nAro_ne (by omega), fun k j q => mAro_ne (by unfold dM at q; omega), fun j => nAro_ne (by omega)⟩
theorem Lx.aro {b it s i : Int} {M : Mem} : Lx i b M (mAro M s it) := Lx.of (fun _ _ _ _ => mAro_ne (by omega)) (fun _ _ _ _ => ⟨mAro_ne (by omega), fun _ _ _ => mAro_ne (by omega), fun _ _ _ => mAro_ne (by omega), fun _ _ _ => mAro_ne (by omega)⟩) (fun _ _ _ _ => mAro_ne (by omega))
def UP (c : Int → Int) (b : Int) (gm : Mem) (it : Int) (N M : Mem) (U : Int → Int) (N' M' : Mem) (U' : Int → Int) : Prop := EvS c b gm 0 0 N M U N' M' U' ∧ N' 30 9 = N 30 9 ∧ N' 30 10 = N 30 10 ∧ (M' 0 65 = 0 → N' 30 3 = N 30 3 ∧ (M' 52 (160 * b + it) = 1 ∨ (M' 52 (160 * b + it) = 3 ∧ M 52 (160 * b + it) = 3)))
section EV11
variable {l : Launch} {G : GT} {Q : Int → Sh → Mem → Prop} {c : Int → Int} {S : Sh} {V N M gm : Mem} {U : Int → Int} {b D it : Int} {d dm mc ms : Nat}
theorem ct_setStateF {x : Int} (hc : Cn c S) (hW : Wv c S V = N) (i0 : 0 ≤ it) (i1 : it < 148) (g1 : N (128 * b + 1) (-1) = 1) (r4 : N (128 * b + 1) 4 = c (128 * b + 23)) (g23 : N (128 * b + 23) (-1) = 20) (n23 : N (128 * b + 23) (-2) = 148) (h : ∀ V', Wv c S V' = up N (128 * b + 23) it x → Q 0 S V') : Ct l G bX0_setState Q d mc ms [vr (c (128 * b + 1)), vi it, vi x] S V := qX0_setState fun _ _ _ => vX0_setState_0 <| by
  obtain ⟨v, tg, ln⟩ := Wr hW
  simp (disch := omega) only [v, tg, ln, g1, r4, g23, n23]
  refine ⟨fun q => absurd q (by omega), fun _ => ⟨fun q => absurd q (by omega), fun _ => ⟨trivial, trivial, i0, i1, h _ ?_⟩⟩⟩
  rw [Wv_up hc i0, hW]
theorem ct_noteStartF {s x : Int} (hc : Cn c S) (hW : Wv c S V = N) (g1 : N (128 * b + 1) (-1) = 1) (r5 : N (128 * b + 1) 5 = c (128 * b + 24)) (g24 : N (128 * b + 24) (-1) = 20) (n24 : N (128 * b + 24) (-2) = 60) (nt : N (128 * b + 1) 6 = s) (s0 : 0 ≤ s) (s1 : s < 60) (h : ∀ V', Wv c S V' = up (up N (128 * b + 24) s x) (128 * b + 1) 6 (s + 1) → Q 0 S V') : Ct l G bX0_noteStart Q d mc ms [vr (c (128 * b + 1)), vi x] S V := qX0_noteStart fun _ _ => vX0_noteStart_0 <| by
  obtain ⟨v, tg, ln⟩ := Wr hW
  simp (disch := omega) only [v, tg, ln, g1, r5, g24, n24, nt]
  refine ⟨trivial, trivial, fun q => absurd q (by omega), fun _ => ⟨s0, s1, by omega, by omega, h _ ?_⟩⟩
  rw [Wv_up hc (by decide), Wv_up hc s0, hW]
theorem st_exit {N0 M0 : Mem} {V1 N1 M1 : Mem} {U1 : Int → Int} (hc : Cn c S) (E0 : EvI c N0 M0 gm U b) (it0 : 0 ≤ it ∧ it < 12 ∨ 100 ≤ it ∧ it < 148) (z0 : M0 52 (160 * b + it) = 0) (f0 : M0 0 65 = 0) (d12 : M0 0 64 < 12) (hW : Wv c S V1 = N1) (h : MS c b gm it (N0 30 3) (nBeg N0 b it (M0 0 64) (M0 59 b)) (mBeg M0 b it (M0 0 64) (M0 59 b)) U N1 M1 U1) (fu : M1 0 65 = 0 → it < 12 → Full b it M1) (fh : M1 0 65 = 0 → ∀ e i, 0 ≤ e → e < M1 10 b → 0 ≤ i → i < M1 17 (12 * b + e) → it = 100 + 4 * e + i → N1 (128 * (12 * b + e) + 15) i = M1 57 (4 * (12 * b + e) + i)) (hd : 1 ≤ d) (hk : ∀ V' N' M' U', Wv c S V' = N' → ((M1 0 65 = 0 ∧ M' = mFin M1 b it (M1 0 64) 1) ∨ (M1 0 65 = 1 ∧ M' = mAro (mFin M1 b it (M1 0 64) 2) (M1 0 68) it)) → UP c b gm it N0 M0 U N' M' U' → Q 0 S V') : S.1 (c 30) = 11 ∧ -2147483648 ≤ V1 (c 30) 5 - 1 ∧ V1 (c 30) 5 - 1 ≤ 2147483647 ∧ (V1 (c 30) 1 = 0 → S.1 (V1 (c 30) 0) = 1 ∧ CT l G bX0_setState d mc ms [vr (V1 (c 30) 0), vi it, vi 1] S (up V1 (c 30) 5 (V1 (c 30) 5 - 1)) (fun z2 S2 V2 mc2 ms2 => S2.1 (c 30) = 11 ∧ (V2 (c 30) 1 = 0 → Q 0 S2 V2) ∧ (¬ V2 (c 30) 1 = 0 → CT l G bX10_failAround d mc2 ms2 [vr (c 30), vi it] S2 V2 (fun z3 S3 V3 mc3 ms3 => Q 0 S3 V3)))) ∧ (¬ V1 (c 30) 1 = 0 → S.1 (V1 (c 30) 0) = 1 ∧ CT l G bX0_setState d mc ms [vr (V1 (c 30) 0), vi it, vi 2] S (up V1 (c 30) 5 (V1 (c 30) 5 - 1)) (fun z2 S2 V2 mc2 ms2 => S2.1 (c 30) = 11 ∧ (V2 (c 30) 1 = 0 → Q 0 S2 V2) ∧ (¬ V2 (c 30) 1 = 0 → CT l G bX10_failAround d mc2 ms2 [vr (c 30), vi it] S2 V2 (fun z3 S3 V3 mc3 ms3 => Q 0 S3 V3)))) := by
  have E := h.1
  have q := E.bh.bk
  have b0 := E.b0
  have b1 := E.b1
  have dp0 := E.dp0
  have dp1 := E.dp1
  have d00 := E0.dp0
  have s590 := E0.bh.bk.nt0
  have s59 := (E0.beg it0 z0 d12 f0).1
  have h64 : M1 0 64 = M0 0 64 + 1 := h.2.2.1.trans mBeg_64
  have st3 := h.2.2.2.2.2.1
  have ne1 := q.ne1
  obtain ⟨v, tg, ln⟩ := Wr hW
  simp (disch := omega) only [v, tg, E.wk.g30, E.dp, E.fl, E.wb, q.g1]
  have hWa : Wv c S (up V1 (c 30) 5 (M1 0 64 - 1)) = up N1 30 5 (M1 0 64 - 1) := by rw [Wv_up hc (by decide), hW]
  have fin : ∀ x, (x = 1 ∨ x = 2) → (x = 1 → M1 0 65 = 0) → EvI c (nFin N1 b it (M1 0 64) x) (mFin M1 b it (M1 0 64) x) gm U1 b := fun x hx hx1 => E.fin it0 st3 (by omega) hx (fun e lt => (fu (hx1 e) (by omega)).1) (fun e lt => (fu (hx1 e) (by omega)).2) (fun e => fh (hx1 e)) (fun f => (E.fc f).2)
  have lxa : ∀ x, Lx it b M0 (mFin M1 b it (M1 0 64) x) := fun x => (Lx.beg.tr h.2.2.2.1).tr Lx.fin
  have mk : ∀ p, U1 p ≠ U p → (0 ≤ p ∧ p < 0 ∧ 0 ≤ gm 5 p) ∨ (0 ≤ gm 5 p ∧ M0 52 (160 * b + gm 5 p / 1000) = 0) := by
    intro p hp
    obtain ⟨y0, y⟩ := h.2.2.2.2.1 p hp
    refine Or.inr ⟨y0, ?_⟩
    by_cases e : gm 5 p / 1000 = it
    · rw [e]; exact z0
    · rcases y with y | y
      · exact absurd y e
      · rw [mBeg_ne (by omega)] at y
        exact y
  refine ⟨trivial, by omega, by omega, fun f => ⟨trivial, CT.im hd (fun d1 hd1 => ct_setStateF hc hWa (by omega) (by omega) (by rw [up_ne (by omega)]; exact q.g1) (by rw [up_ne (by omega)]; exact q.r4) (by rw [up_ne (by omega)]; exact q.g23) (by rw [up_ne (by omega)]; exact q.n23) (fun V2 hW2 => ?_))⟩, fun f => ⟨trivial, CT.im hd (fun d1 hd1 => ct_setStateF hc hWa (by omega) (by omega) (by rw [up_ne (by omega)]; exact q.g1) (by rw [up_ne (by omega)]; exact q.r4) (by rw [up_ne (by omega)]; exact q.g23) (by rw [up_ne (by omega)]; exact q.n23) (fun V2 hW2 => ?_))⟩⟩
  · have E2 := fin 1 (Or.inl rfl) (fun _ => f)
    have f2 : mFin M1 b it (M1 0 64) 1 0 65 = 0 := by rw [mFin_ne (by omega)]; exact f
    have hW2' : Wv c S V2 = nFin N1 b it (M1 0 64) 1 := hW2
    obtain ⟨v2, tg2, ln2⟩ := Wr hW2'
    simp (disch := omega) only [v2, tg2, E2.wk.g30, E2.fl, f2]
    have t3 := h.2.2.2.2.2.2.2.2 f
    refine ⟨trivial, fun _ => hk V2 _ _ U1 hW2' (Or.inl ⟨f, rfl⟩) ⟨⟨E2, ((EvF.beg b0 (by omega) (by omega) s590 s59).tr h.2.1).tr (EvF.fin b0 (by omega) (by omega)), ?_, (lxa 1).cl z0 (by rw [mFin_1 b0]; decide), mk, fun _ j j0 j1 => ?_⟩, ?_, ?_, fun _ => ⟨?_, Or.inl (mFin_1 b0)⟩⟩, fun z => absurd trivial z⟩
    · rw [mFin_0 b0]; omega
    · rw [nFin_ne (by omega), t3.2 j j0 j1, nBeg_ne (by omega)]
    · rw [nFin_ne (by omega), h.2.2.2.2.2.2.1, nBeg_ne (by omega)]
    · rw [nFin_ne (by omega), h.2.2.2.2.2.2.2.1, nBeg_ne (by omega)]
    · rw [nFin_ne (by omega)]; exact t3.1
  · have f1 : M1 0 65 = 1 := by have := E.f01; omega
    have E2 := fin 2 (Or.inr rfl) (fun e => absurd e (by decide))
    have f2 : mFin M1 b it (M1 0 64) 2 0 65 = 1 := by rw [mFin_ne (by omega)]; exact f1
    have m68 : mFin M1 b it (M1 0 64) 2 0 68 = M1 0 68 := mFin_ne (by omega)
    have m64 : mFin M1 b it (M1 0 64) 2 0 64 = M1 0 64 - 1 := mFin_0 b0
    have fc := E.fc f1
    have hW2' : Wv c S V2 = nFin N1 b it (M1 0 64) 2 := hW2
    obtain ⟨v2, tg2, ln2⟩ := Wr hW2'
    simp (disch := omega) only [v2, tg2, E2.wk.g30, E2.fl, f2]
    refine ⟨trivial, fun z => absurd z (by decide), fun _ => CT.im hd (fun d2 hd2 => ct_failAround E2 hc hW2' (by omega) (fun V3 hW3 => ?_))⟩
    have E3 := E2.aro (it := it) f2 (by omega)
    refine hk V3 _ (mAro (mFin M1 b it (M1 0 64) 2) (M1 0 68) it) U1 hW3 (Or.inr ⟨f1, rfl⟩) ?_
    rw [m68] at E3 ⊢
    refine ⟨⟨E3, (((EvF.beg b0 (by omega) (by omega) s590 s59).tr h.2.1).tr (EvF.fin b0 (by omega) (by omega))).tr (EvF.aro b0), ?_, ((lxa 2).tr Lx.aro).cl z0 (by rw [mAro_ne (by omega), mFin_1 b0]; decide), mk, fun z => ?_⟩, ?_, ?_, fun z => ?_⟩
    · rw [mAro_ne (by omega), m64]; omega
    · rw [mAro_ne (by omega), f2] at z; exact absurd z (by decide)
    · rw [nAro_ne (by omega), nFin_ne (by omega), h.2.2.2.2.2.2.1, nBeg_ne (by omega)]
    · rw [nAro_ne (by omega), nFin_ne (by omega), h.2.2.2.2.2.2.2.1, nBeg_ne (by omega)]
    · rw [mAro_ne (by omega), f2] at z; exact absurd z (by decide)
theorem pm_starts_e {M' M1 : Mem} {Q : Int → Mem → Prop} (b0 : 0 ≤ b) (b1 : b < 10) (nw : M 0 9 = b) (i0 : 0 ≤ it) (i1 : it < 12) (d0 : 0 ≤ M 0 64) (d1 : M 0 64 < 12) (s0 : 0 ≤ M 59 b) (s1 : M 59 b < 60) (run : RunM d n_startsEnum_0 [12 * b + it] (mBeg M b it (M 0 64) (M 59 b)) 0 M1) (nw1 : M1 0 9 = b) (e0 : 1 ≤ M1 0 64) (e1 : M1 0 64 ≤ 12) (c0 : 0 ≤ M1 0 68) (c1 : M1 0 68 ≤ 13) (hm : (M1 0 65 = 0 ∧ M' = mFin M1 b it (M1 0 64) 1) ∨ (M1 0 65 = 1 ∧ M' = mAro (mFin M1 b it (M1 0 64) 2) (M1 0 68) it)) (hq : Q 0 M') : PM (d + 1) n_starts_0 [it] M Q := by
  refine st_starts_0 ?_
  unfold B_starts_0
  rw [nw]
  refine ⟨fun _ => ⟨by omega, by omega, by omega, by omega, by omega, by omega, by omega, by omega, by omega, by omega, by omega, by omega, by omega, by omega, by omega, by omega, by omega, by omega, fun z => absurd z (by omega), fun _ => ⟨by omega, by omega, by omega, by omega, run _ ?_⟩⟩, fun z => absurd (by omega) z⟩
  rw [nw1]
  rcases hm with ⟨f, rfl⟩ | ⟨f, rfl⟩
  · exact ⟨by omega, by omega, by omega, by omega, by omega, by omega, fun _ => ⟨by omega, by omega, fun _ => hq, fun z => absurd f z⟩, fun z => absurd f z⟩
  · exact ⟨by omega, by omega, by omega, by omega, by omega, by omega, fun z => by omega, fun _ => ⟨by omega, by omega, fun z => by omega, fun _ => ⟨by omega, by omega, by omega, by omega, hq⟩⟩⟩
theorem pm_starts_h {M' M1 : Mem} {Q : Int → Mem → Prop} (b0 : 0 ≤ b) (b1 : b < 10) (nw : M 0 9 = b) (i0 : 100 ≤ it) (i1 : it < 148) (d0 : 0 ≤ M 0 64) (d1 : M 0 64 < 12) (s0 : 0 ≤ M 59 b) (s1 : M 59 b < 60) (run : RunM d n_startsHolder_0 [48 * b + it - 100] (mBeg M b it (M 0 64) (M 59 b)) 0 M1) (nw1 : M1 0 9 = b) (e0 : 1 ≤ M1 0 64) (e1 : M1 0 64 ≤ 12) (c0 : 0 ≤ M1 0 68) (c1 : M1 0 68 ≤ 13) (hm : (M1 0 65 = 0 ∧ M' = mFin M1 b it (M1 0 64) 1) ∨ (M1 0 65 = 1 ∧ M' = mAro (mFin M1 b it (M1 0 64) 2) (M1 0 68) it)) (hq : Q 0 M') : PM (d + 1) n_starts_0 [it] M Q := by
  refine st_starts_0 ?_
  unfold B_starts_0
  rw [nw]
  refine ⟨fun _ => ⟨by omega, by omega, by omega, by omega, by omega, by omega, by omega, by omega, by omega, by omega, by omega, by omega, by omega, by omega, by omega, by omega, by omega, by omega, fun _ => ⟨by omega, by omega, by omega, by omega, by omega, by omega, run _ ?_⟩, fun z => absurd i0 z⟩, fun z => absurd (by omega) z⟩
  rw [nw1]
  rcases hm with ⟨f, rfl⟩ | ⟨f, rfl⟩
  · exact ⟨by omega, by omega, by omega, by omega, by omega, by omega, fun _ => ⟨by omega, by omega, fun _ => hq, fun z => absurd f z⟩, fun z => absurd f z⟩
  · exact ⟨by omega, by omega, by omega, by omega, by omega, by omega, fun z => by omega, fun _ => ⟨by omega, by omega, fun z => by omega, fun _ => ⟨by omega, by omega, by omega, by omega, hq⟩⟩⟩
theorem ct_startItem (hV : D < 12 → ∀ n, Vst c S gm b (D + 1) 2 n) (hc : Cn c S) (hW : Wv c S V = N) (E : EvI c N M gm U b) (hD : M 0 64 = D) (hf : M 0 65 = 0) (ok : itOK M b it) (z0 : M 52 (160 * b + it) = 0) (t : N 30 3 + 45 * (12 - D) ≤ 950) (hd : 10 * (12 - D) + 4 ≤ (d : Int)) (hdm : 100 * (12 - D) + 4 ≤ (dm : Int)) (hk : ∀ V' N' M' U', Wv c S V' = N' → RunM dm n_starts_0 [it] M 0 M' → UP c b gm it N M U N' M' U' → Q 0 S V') : Ct l G bX10_startItem Q d 0 0 [vr (c 30), vi it] S V := by
  have q := E.bh.bk
  have b0 := E.b0
  have b1 := E.b1
  have dp0 := E.dp0
  have dp1 := E.dp1
  have ne1 := q.ne1
  have s0 := q.nt0
  obtain ⟨dm', rfl⟩ : ∃ k, dm = k + 1 := ⟨dm - 1, by omega⟩
  obtain ⟨v, tg, ln⟩ := Wr hW
  have it0 : 0 ≤ it ∧ it < 12 ∨ 100 ≤ it ∧ it < 148 := by
    rcases ok with o | ⟨o1, o2, o3⟩
    · omega
    · omega
  refine qX10_startItem fun _ _ => vX10_startItem_0 ?_
  simp (disch := omega) only [v, tg, ln, E.wk.g30, E.wk.r4, E.wk.g32, E.wk.n32, E.dp, E.wb, q.g1]
  refine ⟨trivial, fun lt => ⟨trivial, dp0, lt, by omega, by omega, trivial, ?_⟩, fun ge => ?_⟩
  rotate_left
  · obtain ⟨dm2, rfl⟩ : ∃ k, dm' = k + 1 := ⟨dm' - 1, by omega⟩
    have e12 : M 0 64 = 12 := by omega
    refine CT.im (by omega) (fun d1 hd1 => ct_fail E hc hW (fun V1 hW1 => hk V1 _ (mFail M 6 (-1)) U hW1 (fun Q hq => st_starts_0 ⟨fun z => absurd e12 z, fun _ => pm_failing hq⟩) ⟨EvS.fail E, nFail_ne (by omega) (by omega) (by omega), nFail_ne (by omega) (by omega) (by omega), fun z => absurd (mFail_65.symm.trans z) (by decide)⟩))
  · have hV' := hV (by omega)
    obtain ⟨s1, E3⟩ := E.beg it0 z0 (by omega) hf
    have hWa : Wv c S (up (up V (c 32) (M 0 64) it) (c 30) 5 (M 0 64 + 1)) = up (up N 32 (M 0 64) it) 30 5 (M 0 64 + 1) := by rw [Wv_up hc (by decide), Wv_up hc dp0, hW]
    have ua : ∀ L j, L ≠ 32 → L ≠ 30 → up (up N 32 (M 0 64) it) 30 5 (M 0 64 + 1) L j = N L j := fun L j a e => by rw [up_ne (by omega), up_ne (by omega)]
    refine CT.im (by omega) (fun d1 hd1 => ct_setStateF hc hWa (by omega) (by omega) (by rw [ua _ _ (by omega) (by omega)]; exact q.g1) (by rw [ua _ _ (by omega) (by omega)]; exact q.r4) (by rw [ua _ _ (by omega) (by omega)]; exact q.g23) (by rw [ua _ _ (by omega) (by omega)]; exact q.n23) (fun V2 hW2 => ?_))
    have ub : ∀ L j, L ≠ 32 → L ≠ 30 → L ≠ 128 * b + 23 → up (up (up N 32 (M 0 64) it) 30 5 (M 0 64 + 1)) (128 * b + 23) it 3 L j = N L j := fun L j a e f => by rw [up_ne (by omega), ua L j a e]
    obtain ⟨v2, tg2, ln2⟩ := Wr hW2
    have w0 : V2 (c 30) 0 = c (128 * b + 1) := by rw [v2 _ _ (by decide), up_ne (by omega), up_ne (by omega), up_ne (by omega)]; exact E.wb
    have tk2 : S.1 (c 30) = 11 := by rw [tg]; exact E.wk.g30
    have tb2 : S.1 (c (128 * b + 1)) = 1 := by rw [tg]; exact q.g1
    rw [w0]
    refine ⟨tk2, tb2, CT.im (by omega) (fun d2 hd2 => ct_noteStartF hc hW2 (by rw [ub _ _ (by omega) (by omega) (by omega)]; exact q.g1) (by rw [ub _ _ (by omega) (by omega) (by omega)]; exact q.r5) (by rw [ub _ _ (by omega) (by omega) (by omega)]; exact q.g24) (by rw [ub _ _ (by omega) (by omega) (by omega)]; exact q.n24) (by rw [ub _ _ (by omega) (by omega) (by omega)]; exact q.nt) s0 s1 (fun V3 hW3 => ?_))⟩
    have hW3' : Wv c S V3 = nBeg N b it (M 0 64) (M 59 b) := hW3
    obtain ⟨v3, tg3, ln3⟩ := Wr hW3'
    have w3 : V3 (c 30) 0 = c (128 * b + 1) := by rw [v3 _ _ (by decide)]; exact E3.wb
    have m10 : mBeg M b it (M 0 64) (M 59 b) 10 b = M 10 b := mBeg_ne (by omega)
    have t3 : nBeg N b it (M 0 64) (M 59 b) 30 3 = N 30 3 := nBeg_ne (by omega)
    have f3 : mBeg M b it (M 0 64) (M 59 b) 0 65 = 0 := by rw [mBeg_ne (by omega)]; exact hf
    have d3 : mBeg M b it (M 0 64) (M 59 b) 0 64 = D + 1 := by rw [mBeg_64, hD]
    have ruA : ∀ cur, RU gm it cur U := fun cur p p0 p1 => by
      by_cases g5 : 0 ≤ gm 5 p
      · exact E.bd.uz p g5 (by rw [p1]; exact z0)
      · omega
    refine ⟨tk2, CT.pu (by omega) (fun d3' hd3' => ct_enumOfItem (by omega) (fun lt100 => ⟨rfl, rfl, ?_⟩) (fun ge100 => ⟨rfl, rfl, ?_⟩))⟩
    · have oi : 0 ≤ it ∧ it < M 10 b := by
        rcases ok with o | o
        · omega
        · omega
      have e1' : it < mBeg M b it (M 0 64) (M 59 b) 10 b := by omega
      have zc := E.bd.zc it oi.1 oi.2 z0
      rw [w3]
      refine ⟨tb2, CT.pu (by omega) (fun d4 hd4 => ct_enumAtH E3.bh hW3' (fun _ _ => ⟨rfl, rfl, fun y => absurd y (hc.2 _).1, fun _ => CT.pu (by omega) (fun d5 hd5 => ct_isHolder (fun _ => ⟨rfl, rfl, fun _ => ⟨fun y => absurd y (hc.2 _).1, fun _ => ⟨tk2, CT.im (by omega) (fun d6 hd6 => ?_)⟩⟩, fun y => absurd rfl y⟩) (fun y => by omega))⟩) (fun z => absurd ⟨oi.1, e1'⟩ z))⟩
      refine ct_makeEnum (dm := dm') (T := N 30 3) (D := D + 1) hV' hc (by omega) (by omega) hW3' E3 d3 f3 oi.1 e1' mBeg_52 t3 (by rw [mBeg_ne (by omega)]; exact zc) (fun s s0' s1' => ?_) (ruA _) (by omega) (by omega) (fun V4 N4 M4 U4 hW4 run h4 fu => ?_)
      · rw [mBeg_ne (by omega)] at s1' ⊢
        exact E.bd.zt it s oi.1 oi.2 z0 s0' s1'
      · have E4 := h4.1
        have k4 := E4.wk.cc0
        have k5 := E4.wk.cc1
        have k6 : M4 0 64 = D + 1 := h4.2.2.1.trans d3
        exact st_exit hc E it0 z0 hf (by omega) hW4 h4 (fun f _ => fu f) (fun f e i a1 a2 a3 a4 a5 => by omega) (by omega) (fun V5 N5 M5 U5 hW5 hm up => hk V5 N5 M5 U5 hW5 (fun Q hq => pm_starts_e b0 b1 E.nw oi.1 (by omega) dp0 (by omega) s0 s1 run E4.nw (by omega) (by omega) k4 k5 hm hq) up)
    · obtain ⟨_, oi1, oi2⟩ : 100 ≤ it ∧ (it - 100) / 4 < M 10 b ∧ (it - 100) % 4 < M 17 (12 * b + (it - 100) / 4) := by
        rcases ok with o | o
        · omega
        · exact o
      have oe0 : 0 ≤ (it - 100) / 4 := by omega
      have oj0 : 0 ≤ (it - 100) % 4 := by omega
      have eit : 100 + 4 * ((it - 100) / 4) + (it - 100) % 4 = it := by omega
      have e1' : (it - 100) / 4 < mBeg M b it (M 0 64) (M 59 b) 10 b := by omega
      have j1' : (it - 100) % 4 < mBeg M b it (M 0 64) (M 59 b) 17 (12 * b + (it - 100) / 4) := by rw [mBeg_ne (by omega)]; exact oi2
      rw [w3]
      refine ⟨tb2, CT.pu (by omega) (fun d4 hd4 => ct_enumAtH E3.bh hW3' (fun _ _ => ⟨rfl, rfl, fun y => absurd y (hc.2 _).1, fun _ => CT.pu (by omega) (fun d5 hd5 => ct_isHolder (fun y => by omega) (fun _ => ⟨rfl, rfl, fun y => absurd y (by decide), fun _ => CT.pu (by omega) (fun d6 hd6 => ct_holderOfItem (by omega) (fun y => by omega) (fun _ => ⟨rfl, rfl, tk2, CT.im (by omega) (fun d7 hd7 => ?_)⟩))⟩))⟩) (fun z => absurd ⟨oe0, e1'⟩ z))⟩
      refine ct_fillHolder (dm := dm') (T := N 30 3) (D := D + 1) hV' hc (by omega) (by omega) hW3' E3 d3 f3 oe0 e1' oj0 j1' (by rw [eit]; exact mBeg_52) t3 (by rw [eit]; exact ruA _) (by omega) (by omega) (fun V4 N4 M4 U4 hW4 run h4 fh => ?_)
      rw [eit] at h4
      have E4 := h4.1
      have k4 := E4.wk.cc0
      have k5 := E4.wk.cc1
      have k6 : M4 0 64 = D + 1 := h4.2.2.1.trans d3
      refine st_exit hc E it0 z0 hf (by omega) hW4 h4 (fun f y => by omega) (fun f e i a1 a2 a3 a4 a5 => ?_) (by omega) (fun V5 N5 M5 U5 hW5 hm up => hk V5 N5 M5 U5 hW5 (fun Q hq => pm_starts_h b0 b1 E.nw (by omega) (by omega) dp0 (by omega) s0 s1 (by rw [show 48 * b + it - 100 = 4 * (12 * b + (it - 100) / 4) + (it - 100) % 4 from by omega]; exact run) E4.nw (by omega) (by omega) k4 k5 hm hq) up)
      have nh := (E4.bh.be a1 a2).en.nh1
      have y1 : e = (it - 100) / 4 := by omega
      have y2 : i = (it - 100) % 4 := by omega
      rw [y1, y2]
      exact fh f
theorem use_of (hV : D < 12 → ∀ n, Vst c S gm b (D + 1) 2 n) (hc : Cn c S) : UseOK c S gm b D := by
  intro l G Q d dm it V N M U hW E hD hf hN ok t hd hdm hk
  have q := E.bh.bk
  have b0 := E.b0
  have b1 := E.b1
  have dp1 := E.dp1
  have ne1 := q.ne1
  obtain ⟨dm', rfl⟩ : ∃ k, dm = k + 1 := ⟨dm - 1, by omega⟩
  obtain ⟨v, tg, ln⟩ := Wr hW
  have it0 : 0 ≤ it ∧ it < 12 ∨ 100 ≤ it ∧ it < 148 := by
    rcases ok with o | ⟨o1, o2, o3⟩
    · omega
    · omega
  have s0 := E.bd.s0 it (by omega) (by omega)
  have s3 := E.bd.s3 it (by omega) (by omega)
  refine qX10_useItem fun _ _ => vX10_useItem_0 ?_
  simp (disch := omega) only [v, tg, E.wk.g30, E.wb, q.g1]
  refine ⟨trivial, trivial, CT.pu (by omega) (fun d1 hd1 => ct_stateOfE E hW (by omega) (by omega) ⟨rfl, rfl, fun n2 => ⟨fun n0 => ?_, fun z0 => ?_⟩, fun n2 => ?_⟩)⟩
  · exact hk V N M U hW (fun Q hq => pm_use_ok E.nw b0 b1 (by omega) (by omega) n2 n0 hq) (EvS.rf E) rfl rfl (fun _ => ⟨rfl, by omega⟩)
  · have z : M 52 (160 * b + it) = 0 := by omega
    refine ⟨by rw [tg]; exact E.wk.g30, CT.im (by omega) (fun d2 hd2 => ct_startItem (dm := dm') hV hc hW E hD hf ok z t (by omega) (by omega) (fun V1 N1 M1 U1 hW1 run up => hk V1 N1 M1 U1 hW1 (fun Q hq => st_use_0 ?_) up.1 up.2.1 up.2.2.1 up.2.2.2))⟩
    unfold B_use_0
    rw [E.nw]
    exact ⟨by omega, by omega, by omega, by omega, by omega, by omega, fun _ => ⟨fun y => absurd z y, fun _ => run _ hq⟩, fun y => absurd n2 y⟩
  · have z : M 52 (160 * b + it) = 2 := by omega
    obtain ⟨dm2, rfl⟩ : ∃ k, dm' = k + 1 := ⟨dm' - 1, by omega⟩
    refine ⟨by rw [tg]; exact E.wk.g30, CT.im (by omega) (fun d2 hd2 => ct_fail E hc hW (fun V1 hW1 => hk V1 _ (mFail M 2 it) U hW1 (fun Q hq => st_use_0 ?_) (EvS.fail E) (nFail_ne (by omega) (by omega) (by omega)) (nFail_ne (by omega) (by omega) (by omega)) (fun y => absurd (mFail_65.symm.trans y) (by decide))))⟩
    unfold B_use_0
    rw [E.nw]
    exact ⟨by omega, by omega, by omega, by omega, by omega, by omega, fun y => absurd z y, fun _ => pm_failing hq⟩
theorem a2_st : Ast c S gm b D 2 := by
  intro l G Q d dm mc ms x fr g i cst ca ra V N M U hx hn hlv hW E hD hf hN hak cx ow t hd hdm hk hF
  have K := (E.bn.2 x hx).2.2.2.2.2.2.2.2.2
  unfold LCk at K
  rcases K with K | K | K | K | K | K | K | K | K | K <;> omega
theorem v_all (hc : Cn c S) (hU : UseOK c S gm b D) {lv : Int} (hA : Ast c S gm b D lv) : ∀ n, Vst c S gm b D lv n ∧ Bst c S gm b D lv n := by
  intro n
  induction n with
  | zero =>
    refine ⟨?_, ?_⟩
    · intro l G Q d dm mc ms x fr g i cst ca ra V N M U hx hn hlv hW E
      have := (E.bn.2 x hx).2.2.2.1
      omega
    · intro l G Q d dm mc ms x0 y fr g i cst ca ra V N M U hy k0 k1 yx hn hlv hW E
      have := (E.bn.2 y hy).2.2.2.1
      omega
  | succ n ih => exact ⟨ev_V hc hU hA ih.1 ih.2, ev_B hc ih.1 ih.2⟩
theorem use_all (hc : Cn c S) : ∀ (n : Nat) (D : Int), 12 - D = n → UseOK c S gm b D := by
  intro n
  induction n with
  | zero => intro D h; exact use_of (fun q => by omega) hc
  | succ n ih => intro D h; exact use_of (fun _ k => (v_all hc (ih (D + 1) (by omega)) a2_st k).1) hc
end EV11
