/-! ===== evaluation: above ===== -/
theorem EvS.none {c : Int → Int} {b lo hi a e : Int} {N M N' M' gm : Mem} {U U' : Int → Int} (h : EvS c b gm a e N M U N' M' U') (q : ∀ p, a ≤ p → p < e → gm 5 p = -1) : EvS c b gm lo hi N M U N' M' U' := ⟨h.1, h.2.1, h.2.2.1, h.2.2.2.1, fun p z => (h.2.2.2.2.1 p z).elim (fun y => by have := q p y.1 y.2.1; omega) Or.inr, h.2.2.2.2.2⟩
theorem EvS.abv {c : Int → Int} {b lo hi x y : Int} {N M gm : Mem} {U : Int → Int} (h : EvI c N M gm U b) : EvS c b gm lo hi N M U (up (up N 30 10 x) 30 9 y) M U :=
  ⟨h.abv, ⟨fun L j a _ => (up_ne (by omega)).trans (up_ne (by omega)), fun _ _ _ => rfl, fun j => (up_ne (by have := h.b0; omega)).trans (up_ne (by have := h.b0; omega))⟩, rfl, Lx.rf, fun p q => absurd rfl q, fun _ j j0 j1 => (up_ne (by omega)).trans (up_ne (by omega))⟩
theorem pm_val8 {d : Nat} {M : Mem} {Q : Int → Mem → Prop} {x y z g : Int} (h0 : M 0 65 = 0) (x0 : 0 ≤ x) (x1 : x < 31000) (hk : M 35 x = 8) (hg : y.tdiv 24 = g) (g0 : 0 ≤ g) (g1 : g < 120) (z0 : 0 ≤ z) (z1 : z < 4) (h1 : M 19 (4 * g + z) ≠ -1 → PM d n_value_0 [M 19 (4 * g + z), y, z] M Q) (h2 : M 19 (4 * g + z) = -1 → PM d n_failing_0 [5, -1] M Q) : PM (d + 1) n_value_0 [x, y, z] M Q := by
  refine st_value_0 ⟨fun _ => ⟨x0, x1, ?_⟩, fun e => absurd h0 e⟩
  rw [hk, hg]
  exact ⟨fun e => absurd e (by decide), fun _ => ⟨fun e => absurd e (by decide), fun _ => ⟨fun e => absurd e (by decide), fun _ => ⟨fun e => absurd e (by decide), fun _ => ⟨fun e => absurd e (by decide), fun _ => ⟨fun e => absurd e (by decide), fun _ => ⟨fun e => absurd e (by decide), fun _ => ⟨fun e => absurd e (by decide), fun _ => ⟨fun _ => ⟨by omega, by omega, by omega, by omega, by omega, by omega, h1, fun e => h2 (by omega)⟩, fun e => absurd rfl e⟩⟩⟩⟩⟩⟩⟩⟩⟩
section EV12
variable {l : Launch} {G : GT} {Q : Int → Sh → Mem → Prop} {c : Int → Int} {S : Sh} {V N M gm : Mem} {U : Int → Int} {b fr g i ca p : Int} {d mc ms : Nat}
theorem ts4 {a : Int} (E : EvI c N M gm U b) (hW : Wv c S V = N) (hd : 3 ≤ d) (h : ∀ d1, d1 + 1 = d → Ct l G bX10_workOutAbove (fun z S' V' => S'.1 (c 30) = 11 ∧ CT l G bX10_push d mc ms [vr (c 30), vi z] S' V' (fun _ S' V' _ _ => Q 0 S' V')) d1 0 0 [vr (c 30), vr (c (128 * g + 3)), vi i, vi ca] S V) : Ct l G bX10_takeStep Q d mc ms [vr (c 30), vi 4, vi a, vr (c (128 * g + 3)), vi i, vi ca] S V := qX10_takeStep fun _ _ _ _ _ _ => vX10_takeStep_0 <| by
  have tg : S.1 (c 30) = 11 := by rw [(Wr hW).2.1]; exact E.wk.g30
  exact ⟨fun e => absurd e (by decide), fun _ => ⟨fun e => absurd e (by decide), fun _ => ⟨fun e => absurd e (by decide), fun _ => ⟨fun _ => ⟨tg, CT.im (by omega) h⟩, fun e => absurd rfl e⟩⟩⟩⟩
theorem a3_st (hc : Cn c S) (hV2 : ∀ n, Vst c S gm b 0 2 n) : Ast c S gm b 0 3 := by
  intro l G Q d dm mc ms x fr g i cst ca ra V N M U hx hn hlv hW E hD hf hN hak cx ow t hd hdm hk hF
  have L := E.bn.2 x hx
  obtain ⟨x0, x40, p0, plt, pln, h3, h3', l0, l1, K⟩ := L
  have x1 : x < 31000 := by have := E.bn.1; omega
  have K8 : gm 2 x = gm 1 x + 1 ∧ N (128 * b + 21) (gm 1 x) = 4 ∧ gm 4 x = 3 := by
    unfold LCk at K
    rcases K with K | K | K | K | K | K | K | K | K | K
    · omega
    · omega
    · omega
    · omega
    · omega
    · exact K.2
    · omega
    · omega
    · omega
    · omega
  obtain ⟨p2, op, l3⟩ := K8
  obtain ⟨ak, rfl, r0, r1, hdm3, hd3, ht3⟩ := hak (by omega)
  obtain ⟨c1, i0, i1, gl, gh⟩ := cx.1 (by omega)
  have ws := cx.2 (by omega)
  have ne1 := E.bh.bk.ne1
  have b0 := E.b0
  have b1 := E.b1
  have tp0 := E.tp0
  have hg : 12 * b + (g - 12 * b) = g := by omega
  have he := E.bh.be (e := g - 12 * b) (by omega) (by omega)
  have hbt := E.bt (g - 12 * b) (by omega) (by omega)
  have nc1 := he.en.nc1
  rw [hg] at he nc1
  have heb := hbt.eb
  rw [hg] at heb
  have c24 : cst / 24 = g := by omega
  have t24 : cst.tdiv 24 = g := by rw [Int.tdiv_eq_ediv_of_nonneg (by omega)]; exact c24
  have hbd := he.en.bd ca r0 r1
  obtain ⟨dm', rfl⟩ : ∃ k, dm = k + 2 := ⟨dm - 2, by omega⟩
  have after : ∀ (d' : Nat), 1 ≤ d' → ∀ V' N' M' U' z, Wv c S V' = N' → VP c b gm x cst ca (dm' + 2) 0 N M U N' M' U' z → (M' 0 65 = 0 → N' 30 3 = N 30 3) → (M' 0 65 ≠ 0 → z = 0) → S.1 (c 30) = 11 ∧ CT l G bX10_push d' 0 0 [vr (c 30), vi z] S V' (fun _ S' V' _ _ => XJ l G bX10_workOut Q d 16 (WL c b fr g i ca (gm 1 x + 1)) [] S' V' mc ms) := by
    intro d' hd' V' N' M' U' z hW' vp tk zk
    rw [← p2]
    obtain ⟨run, s1, fa, pv⟩ := vp
    have E1 := s1.1
    refine ⟨by rw [(Wr hW').2.1]; exact E1.wk.g30, CT.im hd' (fun d2 hd2 => ?_)⟩
    rcases E1.f01 with f | f
    · have tt := tk f
      refine ct_push E1 hc hW' (fun _ V2 hW2 => ?_) (fun q => by omega)
      refine hk V2 _ M' U' z hW2 ⟨run, s1.tr (EvS.push (lo := gm 1 x) (hi := gm 2 x) E1 (by omega)) f (by omega) (by omega) (by omega) (by omega) (by omega), fa.tr (lv2 := 0) (FA.of ?_ ?_ StM.rf Lx.rf) f (by omega) (by omega), pv⟩ f ?_ ?_
      · rw [up_ne (by omega), up_ne (by omega)]
      · rw [up_ne (by omega), up_ne (by omega)]
      · rw [up_eq]; omega
      · rw [up_ne (by omega), ← tt, up_eq]
    · have z0 := zk (by omega)
      subst z0
      refine ct_push E1 hc hW' (fun lt V2 hW2 => ?_) (fun q => wo_fail E1 hW' f (hF V' N' M' U' hW' ⟨run, s1, fa, pv⟩ f))
      have E2 := E1.push (x := 0) lt
      have s12 : EvS c b gm (gm 1 x) (gm 2 x) N M U (up (up N' 31 (N' 30 3) 0) 30 3 (N' 30 3 + 1)) M' U' := ⟨E2, s1.2.1.tr (EvS.push (lo := 0) (hi := 0) (x := 0) E1 lt).2.1, s1.2.2.1, s1.2.2.2.1, s1.2.2.2.2.1, fun q => by omega⟩
      refine wo_fail E2 hW2 f (hF V2 _ M' U' hW2 ⟨run, s12, ⟨fun q => by omega, fun q => by omega⟩, fun q => by omega⟩ f)
  refine wo_step E hW hf p0 (by omega) op (by decide) (by omega) (fun d1 hd1 => ts4 E hW (by omega) (fun d2 hd2 => qX10_workOutAbove fun _ _ _ _ => vX10_workOutAbove_0 ?_))
  obtain ⟨v, tg, ln⟩ := Wr hW
  simp (disch := omega) only [v, tg, E.wk.g30]
  refine ⟨trivial, fun kn => ?_, fun nk => CT.im (by omega) (fun d3 hd3 => qX10_performShared fun _ _ _ _ => vX10_performShared_0 ?_)⟩
  · rcases ak with ak | ⟨ak1, ak2⟩
    · exact absurd ak kn
    · rw [c24] at ak1 ak2
      have bl := (heb ca r0 r1 ak1)
      have b3 := (E.bn.2 _ bl.1).2.2.2.2.2.2.1
      refine ⟨trivial, (after d1 (by omega) V N M U (N 30 10) hW ⟨fun Q hq => pm_val8 hf x0 x1 hn t24 (by omega) (by omega) r0 r1 (fun _ => ak2 N M U E StM.rf Lx.rf hf (dm' + 1) (by omega) Q hq) (fun z => absurd z ak1), EvS.rf E, FA.of rfl rfl StM.rf Lx.rf, fun _ _ q => by omega⟩ (fun _ => rfl) (fun q => absurd hf q)).2⟩
  · have tk : S.1 (c 30) = 11 := by rw [tg]; exact E.wk.g30
    simp (disch := omega) only [v, tg, ln, E.wk.g30, he.en.g3, he.en.r6, he.en.g7, he.en.n7]
    refine ⟨fun z => absurd z (by omega), fun _ => ⟨trivial, trivial, r0, by omega, fun nb => ⟨trivial, CT.im (by omega) (fun d4 hd4 => ?_)⟩, fun nb => ⟨trivial, CT.im (by omega) (fun d4 hd4 => ?_)⟩⟩⟩
    · have nb' : M 19 (4 * g + ca) ≠ -1 := fun z => nb (hbd.2 z)
      have rt := heb ca r0 r1 nb'
      have b3 := (E.bn.2 _ rt.1).2.2.2.2.2.2.1
      refine ct_wo (dm := dm' + 1) (ra := ca) (cst := cst) (lv := 2) hV2 hc hW E hD hf hN rt (by decide) (fun z => absurd z (by decide)) (cx.le (by omega)) (fun z => absurd rfl z) (by omega) (by omega) (by omega) (fun V1 N1 M1 U1 z hW1 vp t1 zf => ?_)
      obtain ⟨run, s1, fa, pv⟩ := vp
      have E1 := s1.1
      have st1 := s1.stm
      have s1' : EvS c b gm (gm 1 x) (gm 2 x) N M U N1 M1 U1 := s1.none rt.2.2.2.2
      obtain ⟨v1, tg1, ln1⟩ := Wr hW1
      simp (disch := omega) only [v1, tg1, E1.wk.g30, E1.fl]
      refine ⟨trivial, fun f => ?_, fun f => ?_⟩
      · have f1 : M1 0 65 = 1 := by have := E1.f01; omega
        have z0 := zf f1
        subst z0
        have sa : EvS c b gm (gm 1 x) (gm 2 x) N M U (up (up N1 30 10 0) 30 9 0) M1 U1 := ⟨E1.abv, s1'.2.1.tr (EvS.abv (lo := 0) (hi := 0) E1).2.1, s1'.2.2.1, s1'.2.2.2.1, s1'.2.2.2.2.1, fun q => by omega⟩
        refine ⟨trivial, (after d1 (by omega) (up (up V1 (c 30) 10 0) (c 30) 9 0) (up (up N1 30 10 0) 30 9 0) M1 U1 0 (by rw [Wv_up hc (by decide), Wv_up hc (by decide), hW1]) ⟨fun Q hq => pm_val8 hf x0 x1 hn t24 (by omega) (by omega) r0 r1 (fun _ => run Q hq) (fun z => absurd z nb'), sa, ⟨fun q => by omega, fun q => by omega⟩, fun q => by omega⟩ (fun q => by omega) (fun _ => rfl)).2⟩
      · have f1 : M1 0 65 = 0 := by omega
        have sa : EvS c b gm (gm 1 x) (gm 2 x) N M U (up (up N1 30 10 z) 30 9 1) M1 U1 := s1'.tr (EvS.abv (lo := gm 1 x) (hi := gm 2 x) E1) f1 (by have := t1 f1; omega) (by omega) (by omega) (by omega) (by omega)
        have pv' := pv f1 rfl rt.2.2.1
        refine ⟨trivial, (after d1 (by omega) (up (up V1 (c 30) 10 z) (c 30) 9 1) (up (up N1 30 10 z) 30 9 1) M1 U1 z (by rw [Wv_up hc (by decide), Wv_up hc (by decide), hW1]) ⟨fun Q hq => pm_val8 hf x0 x1 hn t24 (by omega) (by omega) r0 r1 (fun _ => run Q hq) (fun z => absurd z nb'), sa, ⟨fun q => by omega, fun _ _ => Or.inr ?_⟩, fun _ _ q => by omega⟩ (fun _ => by rw [up_ne (by omega), up_ne (by omega)]; exact t1 f1) (fun q => absurd f1 q)).2⟩
        rw [c24, st1 19 _ (by decide) (by decide), up_ne (by omega), up_eq]
        exact ⟨nb', pv'⟩
    · have nb' : M 19 (4 * g + ca) = -1 := hbd.1 (by omega)
      refine ct_fail E hc hW (fun V1 hW1 => ?_)
      have E1 := E.fail (x := 5) (y := -1)
      have f1 : mFail M 5 (-1) 0 65 = 1 := mFail_65
      have sf := EvS.fail (lo := gm 1 x) (hi := gm 2 x) (x := 5) (y := -1) E
      have sa : EvS c b gm (gm 1 x) (gm 2 x) N M U (up (up (nFail N 5 (-1)) 30 10 0) 30 9 0) (mFail M 5 (-1)) U := ⟨E1.abv, sf.2.1.tr (EvS.abv (lo := 0) (hi := 0) E1).2.1, sf.2.2.1, sf.2.2.2.1, sf.2.2.2.2.1, fun q => by omega⟩
      obtain ⟨v1, tg1, ln1⟩ := Wr hW1
      simp (disch := omega) only [v1, tg1, E1.wk.g30, E1.fl]
      refine ⟨trivial, fun f => ?_, fun f => by omega⟩
      refine ⟨trivial, (after d1 (by omega) (up (up V1 (c 30) 10 0) (c 30) 9 0) (up (up (nFail N 5 (-1)) 30 10 0) 30 9 0) (mFail M 5 (-1)) U 0 (by rw [Wv_up hc (by decide), Wv_up hc (by decide), hW1]) ⟨fun Q hq => pm_val8 hf x0 x1 hn t24 (by omega) (by omega) r0 r1 (fun z => absurd nb' z) (fun _ => pm_failing hq), sa, ⟨fun q => by omega, fun q => by omega⟩, fun q => by omega⟩ (fun q => by omega) (fun _ => rfl)).2⟩
theorem v3_all (hc : Cn c S) : (∀ n, Vst c S gm b 0 2 n) ∧ (∀ n, Vst c S gm b 0 3 n) := by
  have hU := use_all (gm := gm) (b := b) hc 12 0 (by decide)
  have h2 : ∀ n, Vst c S gm b 0 2 n := fun n => (v_all hc hU a2_st n).1
  exact ⟨h2, fun n => (v_all hc hU (a3_st hc h2) n).1⟩
end EV12
