/-! ===== evaluation: an expression, the kinds ===== -/
def Ast (c : Int → Int) (S : Sh) (gm : Mem) (b D lv : Int) : Prop := ∀ (l : Launch) (G : GT) (Q : Int → Sh → Mem → Prop) (d dm mc ms : Nat) (x fr g i cst ca ra : Int) (V N M : Mem) (U : Int → Int), gm 0 x = 1 → M 35 x = 8 → gm 4 x ≤ lv → Wv c S V = N → EvI c N M gm U b → M 0 64 = D → M 0 65 = 0 → (D = 0 → NU b M) → (3 ≤ gm 4 x → AKc c gm b cst ra N M ∧ ca = ra ∧ 0 ≤ ra ∧ ra < 4 ∧ 2 * gm 3 x + 1305 ≤ (dm : Int) ∧ 140 ≤ (d : Int) ∧ N 30 3 + gm 3 x + 540 ≤ 912) → CXt b M (gm 4 x) g i cst → OW b gm M U (gm 1 x) (gm 2 x) D → N 30 3 + gm 3 x + 45 * (12 - D) ≤ 951 → 10 * (12 - D) + 9 ≤ (d : Int) → 2 * gm 3 x + 100 * (12 - D) + 5 ≤ (dm : Int) → (∀ V' N' M' U' z, Wv c S V' = N' → VP c b gm x cst ra dm D N M U N' M' U' z → M' 0 65 = 0 → N' 30 3 = N 30 3 + 1 → N' 31 (N 30 3) = z → XJ l G bX10_workOut Q d 16 (WL c b fr g i ca (gm 2 x)) [] S V' mc ms) → (∀ V' N' M' U', Wv c S V' = N' → VP c b gm x cst ra dm D N M U N' M' U' 0 → M' 0 65 = 1 → Q 0 S V') → XJ l G bX10_workOut Q d 16 (WL c b fr g i ca (gm 1 x)) [] S V mc ms
section EV6
variable {c : Int → Int} {S : Sh} {gm : Mem} {b D : Int}
theorem ev_V {lv : Int} {n : Nat} (hc : Cn c S) (hU : UseOK c S gm b D) (hA : Ast c S gm b D lv) (hV : Vst c S gm b D lv n) (hB : Bst c S gm b D lv n) : Vst c S gm b D lv (n + 1) := by
  intro l G Q d dm mc ms x fr g i cst ca ra V N M U hx hn hlv hW E hD hf hN hak cx ow t hd hdm hk hF
  have L := E.bn.2 x hx
  obtain ⟨x0, x40, p0, plt, pln, h3, h3', l0, l1, K⟩ := L
  have x1 : x < 31000 := by have := E.bn.1; omega
  have ne1 := E.bh.bk.ne1
  have dp0 := E.dp0
  have dp1 := E.dp1
  have tp0 := E.tp0
  have b0 := E.b0
  have b1 := E.b1
  obtain ⟨dm', rfl⟩ : ∃ k, dm = k + 3 := ⟨dm - 3, by omega⟩
  have leaf : ∀ z, (∀ (N2 M2 : Mem) (U2 : Int → Int), EvI c N2 M2 gm U2 b → StM M M2 → Lx (-1) b M M2 → M2 0 65 = 0 → ∀ dm : Nat, RunM (dm + 1) n_value_0 [x, cst, ra] M2 z M2) → gm 2 x = gm 1 x + 1 → ∀ V', Wv c S V' = up (up N 31 (N 30 3) z) 30 3 (N 30 3 + 1) → XJ l G bX10_workOut Q d 16 (WL c b fr g i ca (gm 1 x + 1)) [] S V' mc ms := by
    intro z run q V' hW'
    rw [← q]
    refine hk V' _ M U z hW' ⟨run N M U E StM.rf Lx.rf hf _, EvS.push E (by omega), FA.of ?_ ?_ StM.rf Lx.rf, fun _ _ _ N2 M2 U2 E2 st lx f2 dm2 hdm2 => ?_⟩ hf ?_ ?_
    · rw [up_ne (by omega), up_ne (by omega)]
    · rw [up_ne (by omega), up_ne (by omega)]
    · obtain ⟨k2, rfl⟩ : ∃ k, dm2 = k + 1 := ⟨dm2 - 1, by omega⟩
      exact run N2 M2 U2 E2 st lx f2 k2
    · rw [up_eq]
    · rw [up_ne (by omega), up_eq]
  have after : ∀ (d' : Nat), 1 ≤ d' → ∀ V' N' M' U' z, Wv c S V' = N' → VP c b gm x cst ra (dm' + 3) D N M U N' M' U' z → (M' 0 65 = 0 → N' 30 3 = N 30 3) → (M' 0 65 ≠ 0 → z = 0) → S.1 (c 30) = 11 ∧ CT l G bX10_push d' 0 0 [vr (c 30), vi z] S V' (fun _ S' V' _ _ => XJ l G bX10_workOut Q d 16 (WL c b fr g i ca (gm 2 x)) [] S' V' mc ms) := by
    intro d' hd' V' N' M' U' z hW' vp tk zk
    obtain ⟨run, s1, fa, pv⟩ := vp
    have E1 := s1.1
    refine ⟨by rw [(Wr hW').2.1]; exact E1.wk.g30, CT.im hd' (fun d2 hd2 => ?_)⟩
    rcases E1.f01 with f | f
    · have tt := tk f
      refine ct_push E1 hc hW' (fun _ V2 hW2 => ?_) (fun q => by omega)
      refine hk V2 _ M' U' z hW2 ⟨run, s1.tr (EvS.push (lo := gm 1 x) (hi := gm 2 x) E1 (by omega)) f (by omega) (by omega) (by omega) (by omega) (by omega), fa.tr (lv2 := 0) (FA.of ?_ ?_ StM.rf Lx.rf) f (by omega) (by omega), pv⟩ f ?_ ?_
      · rw [up_ne (by omega), up_ne (by omega)]
      · rw [up_ne (by omega), up_ne (by omega)]
      · rw [up_eq]; omega
      · rw [up_ne (by omega), ← tt, up_eq]
    · have z0 := zk (by omega)
      subst z0
      refine ct_push E1 hc hW' (fun lt V2 hW2 => ?_) (fun q => wo_fail E1 hW' f (hF V' N' M' U' hW' ⟨run, s1, fa, pv⟩ f))
      have E2 := E1.push (x := 0) lt
      have s12 : EvS c b gm (gm 1 x) (gm 2 x) N M U (up (up N' 31 (N' 30 3) 0) 30 3 (N' 30 3 + 1)) M' U' := ⟨E2, s1.2.1.tr (EvS.push (lo := 0) (hi := 0) (x := 0) E1 lt).2.1, s1.2.2.1, s1.2.2.2.1, s1.2.2.2.2.1, fun q => by omega⟩
      refine wo_fail E2 hW2 f (hF V2 _ M' U' hW2 ⟨run, s12, ⟨fun q => ?_, fun q => by omega⟩, fun q => by omega⟩ f)
      rw [up_ne (by omega), up_ne (by omega), up_ne (by omega), up_ne (by omega)]
      exact fa.1 q
  unfold LCk at K
  rcases K with K | K | K | K | K | K | K | K | K | K
  · obtain ⟨k, q, op, ar⟩ := K
    refine wo_step E hW hf p0 (by omega) op (by decide) (by omega) (fun d1 hd1 => ts1 E hW (by omega) (fun d2 hd2 => ct_push E hc hW (fun _ => ?_) (fun z => by omega)))
    rw [ar]
    refine leaf _ (fun N2 M2 U2 E2 st lx f2 dm2 Q hq => pm_val0 f2 x0 x1 (by rw [st 35 _ (by decide) (by decide)]; exact k) ?_) q
    rw [st 36 _ (by decide) (by decide)]
    exact hq
  · obtain ⟨k, g0, q1, q2, q3, q4, op⟩ := K
    have Lz := E.bn.2 _ g0
    obtain ⟨_, _, _, zlt, _, z3, _⟩ := Lz
    rw [← q1]
    refine hV l G Q d (dm' + 2) mc ms (M 36 x) fr g i cst ca ra V N M U g0 (by omega) (by omega) hW E hD hf hN (fun q => by have h := hak (by omega); exact ⟨h.1, h.2.1, h.2.2.1, h.2.2.2.1, by omega, by omega, by omega⟩) (cx.le q4) (ow.sub (by omega) (by omega)) (by omega) hd (by omega) (fun V1 N1 M1 U1 v hW1 vp f1 t1 v1 => ?_) (fun V1 N1 M1 U1 hW1 vp f1 => ?_)
    · obtain ⟨run, s1, fa, pv⟩ := vp
      have E1 := s1.1
      have st1 := s1.stm
      have op1 : N1 (128 * b + 21) (gm 2 (M 36 x)) = 6 := by
        have K1 := (E1.bn.2 x hx).2.2.2.2.2.2.2.2.2
        unfold LCk at K1
        rw [st1 35 _ (by decide) (by decide), st1 36 _ (by decide) (by decide)] at K1
        rcases K1 with K | K | K | K | K | K | K | K | K | K
        · omega
        · exact K.2.2.2.2.2.2
        all_goals omega
      have ln1 := E1.ln hx
      refine wo_step E1 hW1 f1 (by omega) (by omega) op1 (by decide) (by omega) (fun d1 hd1 => ts6 E1 hW1 (by omega) hc (by omega) (fun V2 hW2 => ?_))
      rw [← q2]
      rw [t1, show N 30 3 + 1 - 1 = N 30 3 from by omega, v1] at hW2
      have E2 := E1.top (t := N 30 3) tp0 (by omega)
      have n3 : up N1 30 3 (N 30 3) 30 3 = N 30 3 := up_eq
      have s1' : EvS c b gm (gm 1 x) (gm 2 x) N M U N1 M1 U1 := s1.wid (fun p a e => by omega)
      have s2 := s1'.tr (lo := gm 1 x) (hi := gm 2 x) (EvS.top (lo := gm 1 x) (hi := gm 2 x) (t := N 30 3) E1 tp0 (by omega)) f1 (by omega) (by omega) (by omega) (by omega) (by omega)
      have s3 := s2.tr (lo := gm 1 x) (hi := gm 2 x) (EvS.push (lo := gm 1 x) (hi := gm 2 x) (x := wr (-v)) E2 (by rw [n3]; omega)) f1 (by rw [n3]; omega) (by omega) (by omega) (by omega) (by omega)
      rw [n3] at s3
      refine hk V2 _ M1 U1 (wr (-v)) hW2 ⟨fun Q hq => pm_val1 hf x0 x1 k (run _ hq), s3, fa.tr (lv2 := 0) (FA.of ?_ ?_ StM.rf Lx.rf) f1 (by omega) (by omega), fun _ D0 lv2 N2 M2 U2 E2 st lx f2 dm2 hdm2 Q hq => ?_⟩ f1 ?_ ?_
      · rw [up_ne (by omega), up_ne (by omega), up_ne (by omega)]
      · rw [up_ne (by omega), up_ne (by omega), up_ne (by omega)]
      · obtain ⟨k2, rfl⟩ : ∃ k, dm2 = k + 1 := ⟨dm2 - 1, by omega⟩
        have ss := st1.tr st
        refine pm_val1 f2 x0 x1 (by rw [ss 35 _ (by decide) (by decide)]; exact k) ?_
        rw [ss 36 _ (by decide) (by decide)]
        exact pv f1 D0 (by omega) N2 M2 U2 E2 st lx f2 k2 (by omega) _ hq
      · rw [up_eq]
      · rw [up_ne (by omega), up_eq]
    · obtain ⟨run, s1, fa, pv⟩ := vp
      have w0 : wr (-0) = 0 := by decide
      exact hF V1 N1 M1 U1 hW1 ⟨fun Q hq => pm_val1 hf x0 x1 k (run _ (by rw [w0]; exact hq)), s1.wid (fun p a e => by omega), fa.le q4, fun q => by omega⟩ f1
  · have k0 := K.1
    have k1 := K.2.1
    have hB' := ev_B hc hV hB
    refine hB' l G Q d (dm' + 2) mc ms x x fr g i cst ca ra V N M U hx k0 k1 (by omega) hn hlv hW E hD hf hN (fun q => by have h := hak q; exact ⟨h.1, h.2.1, h.2.2.1, h.2.2.2.1, by omega, by omega, by omega⟩) cx ow t hd (by omega) (fun V1 N1 M1 U1 v hW1 bp f1 t1 v1 => ?_) (fun V1 N1 M1 U1 hW1 bp f1 => ?_)
    · obtain ⟨run, s1, fa, pb⟩ := bp
      refine hk V1 N1 M1 U1 v hW1 ⟨fun Q hq => pm_val25 hf x0 x1 k0 k1 (st_both_0 (run Q (fun _ => ⟨fun q => absurd rfl q, fun _ => hq⟩) (fun q => absurd f1 q))), s1, fa, fun _ D0 lv2 N2 M2 U2 E2 st lx f2 dm2 hdm2 Q hq => ?_⟩ f1 t1 v1
      obtain ⟨k2, rfl⟩ : ∃ k, dm2 = k + 2 := ⟨dm2 - 2, by omega⟩
      have ss := s1.stm.tr st
      exact pm_val25 f2 x0 x1 (by rw [ss 35 _ (by decide) (by decide)]; exact k0) (by rw [ss 35 _ (by decide) (by decide)]; exact k1) (st_both_0 (pb f1 D0 lv2 N2 M2 U2 E2 st lx f2 _ (by omega) Q ⟨fun q => absurd rfl q, fun _ => hq⟩))
    · obtain ⟨run, s1, fa, pb⟩ := bp
      have f1' : M1 0 65 ≠ 0 := by omega
      exact hF V1 N1 M1 U1 hW1 ⟨fun Q hq => pm_val25 hf x0 x1 k0 k1 (st_both_0 (run Q (fun q => absurd q f1') (fun _ => hq))), s1, fa, fun q => absurd q f1'⟩ f1
  · obtain ⟨k, q, op, l2⟩ := K
    obtain ⟨c1, i0, i1, gl, gh⟩ := cx.1 (by omega)
    have ws := cx.2 l2
    have hg : 12 * b + (g - 12 * b) = g := by omega
    have hE := E.bh.be (e := g - 12 * b) (by omega) (by omega)
    have wc := E.bd.wc (g - 12 * b) (by omega) (by omega) ws
    have ar := E.bd.ar (g - 12 * b) i (by omega) (by omega) i0 (by rw [wc, hg]; exact i1)
    have nc1 := hE.en.nc1
    rw [hg] at hE ar nc1
    refine wo_step E hW hf p0 (by omega) op (by decide) (by omega) (fun d1 hd1 => ts3 E hW (by omega) hc hE i0 i1 ar (fun d2 hd2 => ct_push E hc hW (fun _ => ?_) (fun z => by omega)))
    refine leaf _ (fun N2 M2 U2 E2 st lx f2 dm2 Q hq => pm_val6 f2 x0 x1 (by rw [st 35 _ (by decide) (by decide)]; exact k) (by omega) (by omega) ?_) q
    have ld := ((lx (g - 12 * b) (by omega) (by omega) (by omega)).2 (by omega)).2.1 (by omega)
    have := ld.2.1 i i0 (by omega)
    rw [hg] at this
    rw [c1, this]
    exact hq
  · obtain ⟨k, q, op, l2⟩ := K
    obtain ⟨c1, i0, i1, gl, gh⟩ := cx.1 l2
    have hg : 12 * b + (g - 12 * b) = g := by omega
    have nc1 := (E.bh.be (e := g - 12 * b) (by omega) (by omega)).en.nc1
    rw [hg] at nc1
    refine wo_step E hW hf p0 (by omega) op (by decide) (by omega) (fun d1 hd1 => ts2 E hW (by omega) (fun d2 hd2 => ct_push E hc hW (fun _ => ?_) (fun z => by omega)))
    refine leaf _ (fun N2 M2 U2 E2 st lx f2 dm2 Q hq => pm_val7 f2 x0 x1 (by rw [st 35 _ (by decide) (by decide)]; exact k) ?_) q
    rw [c1, Int.tmod_eq_emod_of_nonneg (by omega), show (24 * g + i) % 24 = i from by omega]
    exact hq
  · exact hA l G Q d (dm' + 3) mc ms x fr g i cst ca ra V N M U hx K.1 hlv hW E hD hf hN hak cx ow t hd hdm hk hF
  · obtain ⟨k, q, op, g0, g1, ar⟩ := K
    refine wo_step E hW hf p0 (by omega) op (by decide) (by omega) (fun d1 hd1 => ts1 E hW (by omega) (fun d2 hd2 => ct_push E hc hW (fun _ => ?_) (fun z => by omega)))
    rw [ar]
    refine leaf _ (fun N2 M2 U2 E2 st lx f2 dm2 Q hq => pm_val9 f2 x0 x1 (by rw [st 35 _ (by decide) (by decide)]; exact k) (by rw [st 39 _ (by decide) (by decide)]; exact g0) (by rw [st 39 _ (by decide) (by decide)]; exact g1) ?_) q
    rw [st 39 _ (by decide) (by decide), st 14 _ (by decide) (by decide)]
    exact hq
  · obtain ⟨k, q, op, e, j, e0, e1, j0, j1, ha, ar⟩ := K
    have nc1 := (E.bh.be e0 e1).en.nc1
    refine wo_step E hW hf p0 (by omega) op (by decide) (by omega) (fun d1 hd1 => ts15 E hW (by omega) ar e0 j0 (by omega) (fun d2 hd2 => ct_readConstant (dm := dm' + 3) (cst := cst) (ra := ra) hU hc hW E hD hf hN hx x0 x1 k ha e0 e1 j0 j1 rfl p0 q (by rw [← q]; exact ow) h3 (by omega) (by omega) (by omega) (fun V1 N1 M1 U1 z hW1 vp tk zk => ?_)))
    rw [← q]
    exact after d1 (by omega) V1 N1 M1 U1 z hW1 vp tk zk
  · obtain ⟨k, q, op, e, j, e0, e1, j0, j1, ha, ar⟩ := K
    refine wo_step E hW hf p0 (by omega) op (by decide) (by omega) (fun d1 hd1 => ts16 E hW (by omega) (fun d2 hd2 => ?_))
    rw [ar]
    refine ct_readHolder (dm := dm' + 3) (cst := cst) (ra := ra) hU hc hW E hD hf hN hx x0 x1 k ha e0 e1 j0 j1 rfl p0 q (by rw [← q]; exact ow) h3 (by omega) (by omega) (by omega) (fun V1 N1 M1 U1 z hW1 vp tk zk => ?_)
    rw [← q]
    exact after d1 (by omega) V1 N1 M1 U1 z hW1 vp tk zk
  · obtain ⟨k, op, g0, q1, q2, q3, q4, op2, e, j, e0, e1, j0, j1, ha, ar, ar2⟩ := K
    have nt1 := (E.bh.be e0 e1).en.nt1
    have Lz := E.bn.2 _ g0
    obtain ⟨_, _, _, zlt, _, z3, _⟩ := Lz
    have g12 : (12 * b + e) % 12 = e := by omega
    refine wo_step E hW hf p0 (by omega) op (by decide) (by omega) (fun d1 hd1 => ts17 E hW (by omega) (fun d2 hd2 => ?_))
    rw [ar]
    refine hU l G _ d2 (dm' + 1) e V N M U hW E hD hf hN (Or.inl ⟨by omega, e0, e1⟩) (by omega) (by omega) (by omega) (fun V1 N1 M1 U1 hW1 hr s1 n9 n10 hs => ?_)
    have E1 := s1.1
    have st1 := s1.stm
    have m37 : M1 37 x = M 37 x := st1 37 _ (by decide) (by decide)
    have d64 : M1 0 64 = D := s1.2.2.1.trans hD
    have fa1 : FA c gm b cst ra (gm 4 x) N M N1 M1 := FA.of n9 n10 st1 s1.2.2.2.1
    rcases E1.f01 with f1 | f1
    · obtain ⟨tt, ok⟩ := hs f1
      rw [← q1]
      refine hV l G Q d (dm' + 1) mc ms (M 37 x) fr g i cst ca ra V1 N1 M1 U1 g0 (by omega) (by omega) hW1 E1 d64 f1 (fun q => (hN q).st s1.2.2.2.1) (fun q => by have h := hak (by omega); exact ⟨fa1.2 f1 h.1, h.2.1, h.2.2.1, h.2.2.2.1, by omega, by omega, by omega⟩) ((cx.st st1 s1.2.2.2.1 ne1).le q4) ((ow.sub (by omega) (by omega)).st s1 (Or.inl (by omega))) (by omega) hd (by omega) (fun V2 N2 M2 U2 v hW2 vp f2 t2 v2 => ?_) (fun V2 N2 M2 U2 hW2 vp f2 => ?_)
      · obtain ⟨run, s2, fa2, pv⟩ := vp
        have E2 := s2.1
        have st2 := st1.tr s2.stm
        have K2 := (E2.bn.2 x hx).2.2.2.2.2.2.2.2.2
        have op3 : N2 (128 * b + 21) (gm 2 (M 37 x)) = 18 ∧ N2 (128 * b + 22) (gm 2 (M 37 x)) = 4 * e + j := by
          unfold LCk at K2
          rw [st2 35 _ (by decide) (by decide), st2 37 _ (by decide) (by decide)] at K2
          rcases K2 with K | K | K | K | K | K | K | K | K | K
          · omega
          · omega
          · omega
          · omega
          · omega
          · omega
          · omega
          · omega
          · omega
          · obtain ⟨_, _, _, _, _, _, _, r1, e', j', _, _, _, r5, r2, _, r3⟩ := K
            rw [st2 36 _ (by decide) (by decide), ha] at r2
            have : 4 * e' + j' = 4 * e + j := by omega
            exact ⟨r1, by omega⟩
        have ln2 := E2.ln hx
        have e1' : e < M2 10 b := by rw [st2 10 _ (by decide) (by decide)]; exact e1
        have j1' : j < M2 15 (12 * b + e) := by rw [st2 15 _ (by decide) (by decide)]; exact j1
        have ht := (E2.bh.be e0 e1').tb j0 j1'
        have ne12 := ht.ne1
        have th1 := ht.th1
        have s12 : EvS c b gm (gm 1 x) (gm 2 x) N M U N2 M2 U2 := (s1.wid (lo := gm 1 x) (hi := gm 2 x) (fun p a e => by omega)).tr s2 f1 (by omega) (by omega) (by omega) (by omega) (by omega)
        have fa12 : FA c gm b cst ra (gm 4 x) N M N2 M2 := fa1.tr fa2 f1 (by omega) (by omega)
        have t2' : N2 30 3 = N 30 3 + 1 := by omega
        refine wo_step E2 hW2 f2 (by omega) (by omega) op3.1 (by decide) (by omega) (fun d1 hd1 => ts18 E2 hW2 (by omega) hc (by omega) op3.2 e0 j0 (by omega) (fun d2 V3 hd2 hW3 => ?_))
        rw [t2', show N 30 3 + 1 - 1 = N 30 3 from by omega, ← tt, v2]
        rw [t2', show N 30 3 + 1 - 1 = N 30 3 from by omega] at hW3
        have E3 := E2.top (t := N 30 3) tp0 (by omega)
        have n3 : up N2 30 3 (N 30 3) 30 3 = N 30 3 := up_eq
        have s13 := s12.tr (lo := gm 1 x) (hi := gm 2 x) (EvS.top (lo := gm 1 x) (hi := gm 2 x) (t := N 30 3) E2 tp0 (by omega)) f2 (by omega) (by omega) (by omega) (by omega) (by omega)
        have fa13 : FA c gm b cst ra (gm 4 x) N M (up N2 30 3 (N 30 3)) M2 := fa12.tr (lv2 := 0) (FA.of (up_ne (by omega)) (up_ne (by omega)) StM.rf Lx.rf) f2 (by omega) (by omega)
        have hrE : RunM (dm' + 1) n_use_0 [(12 * b + e) % 12] M 0 M1 := by rw [g12]; exact hr
        have hvE : RunM (dm' + 1) n_value_0 [M1 37 x, cst, ra] M1 v M2 := by rw [m37]; exact run
        have wS : D = 0 → M1 52 (160 * b + e) = 1 := fun y => by
          rcases ok with r | r
          · exact r
          · exact absurd r.2 (hN y e e0 (by omega))
        have wS2 : D = 0 → M2 52 (160 * b + e) = 1 := fun y => by
          have := wS y
          rw [((s2.2.2.2.1 e e0 (by omega) (by omega)).2 (by omega)).1]
          exact this
        have p2 : gm 2 x = gm 2 (M 37 x) + 1 := q2
        rw [← p2]
        refine ct_readEntry hc hW3 E3 (by omega) e0 e1' j0 j1' (fun bad V4 hW4 => ?_) (fun r0 r1 r2 => ?_) (fun r0 r2 => ?_)
        · have s14 := s13.tr (lo := gm 1 x) (hi := gm 2 x) (EvS.fail (lo := gm 1 x) (hi := gm 2 x) (x := 4) (y := -1) E3) f2 (by rw [n3]; omega) (by omega) (by omega) (by omega) (by omega)
          refine after d1 (by omega) V4 _ _ U2 0 hW4 ⟨fun Q hq => pm_val12 hf x0 x1 k (pm_entryOf x0 x1 ha (by omega) (by omega) j0 (by omega) hrE hvE ne12 (fun q => absurd f2 q) (fun _ _ => hq) (fun _ a1 a2 => by omega) (fun _ a1 a2 => by omega)), s14, fa13.tr (lv2 := 0) (FA.of (nFail_ne (by omega) (by omega) (by omega)) (nFail_ne (by omega) (by omega) (by omega)) (EvS.fail (lo := 0) (hi := 0) E3).stm (EvS.fail (lo := 0) (hi := 0) E3).2.2.2.1) f2 (by omega) (by omega), fun q => absurd (mFail_65.symm.trans q) (by decide)⟩ (fun q => absurd (mFail_65.symm.trans q) (by decide)) (fun _ => rfl)
        · have D1 : D ≠ 0 := fun y => by
            have := E2.bd.wt e j e0 e1' (wS2 y) j0 j1'
            omega
          have ow2 : OW b gm M2 U2 (gm 2 (M 37 x)) (gm 2 x) D := ((ow.sub (by omega) (by omega)).st s1 (Or.inl (by omega))).st s2 (Or.inl (by omega))
          have owp := ow2 D1 (gm 2 (M 37 x)) (by omega) (by omega)
          have n20 : up N2 30 3 (N 30 3) (128 * b + 20) 2 = N2 (128 * b + 20) 2 := up_ne (by omega)
          have sk := EvS.see (y := M2 63 (M2 0 64 - 1)) (x := e) E3 (p := gm 2 (M 37 x)) (by omega) (by rw [n20]; omega) owp.1 owp.2.2 owp.2.1
          have s62 := (E3.see (y := 0) (x := 0) (p := gm 2 (M 37 x)) (by omega) (by rw [n20]; omega) owp.1 owp.2.2).1
          have d64' : M2 0 64 = D := s2.2.2.1.trans d64
          have cl1 := E3.bh.bk.cl1
          have nz0 := E3.bh.bk.nz0
          refine ⟨by omega, s62, fun V4 hW4 => ?_⟩
          have s14 := s13.tr (lo := gm 1 x) (hi := gm 2 x) sk f2 (by rw [n3]; omega) (by omega) (by omega) (by omega) (by omega)
          refine after d1 (by omega) V4 _ _ _ 0 hW4 ⟨fun Q hq => pm_val12 hf x0 x1 k (pm_entryOf x0 x1 ha (by omega) (by omega) j0 (by omega) hrE hvE ne12 (fun q => absurd f2 q) (fun _ a1 => by omega) (fun _ _ _ _ => by rw [g12]; exact pm_sees E2.nw b0 b1 nz0 (by omega) (by omega) (by omega) (by omega) hq) (fun _ a1 a2 a3 => by omega)), s14, fa13.tr (lv2 := 0) (FA.of (nSee_ne (by omega)) (nSee_ne (by omega)) sk.stm sk.2.2.2.1) f2 (by omega) (by omega), fun _ q => absurd q D1⟩ (fun _ => ?_) (fun _ => rfl)
          rw [nSee_ne (by omega), n3]
        · refine after d1 (by omega) V3 _ M2 U2 _ hW3 ⟨fun Q hq => pm_val12 hf x0 x1 k (pm_entryOf x0 x1 ha (by omega) (by omega) j0 (by omega) hrE hvE ne12 (fun q => absurd f2 q) (fun _ a1 => by omega) (fun _ _ _ a3 => by omega) (fun _ _ _ _ => hq)), s13, fa13, fun _ D0 lv2 N4 M4 U4 E4 st4 lx4 f4 dm4 hdm4 Q hq => ?_⟩ (fun _ => n3) (fun q => absurd f2 q)
          obtain ⟨k4, rfl⟩ : ∃ k, dm4 = k + 3 := ⟨dm4 - 3, by omega⟩
          have ss := st2.tr st4
          have ws2 := wS2 D0
          have lz := (lx4 e e0 (by omega) (by omega)).2 (by omega)
          have ws4 : M4 52 (160 * b + e) = 1 := by rw [lz.1]; exact ws2
          have ld := lz.2.1 (by omega)
          have m36 : M4 36 x = 4 * (12 * b + e) + j := by rw [ss 36 _ (by decide) (by decide)]; exact ha
          have m24 : M4 24 (4 * (12 * b + e) + j) = M2 24 (4 * (12 * b + e) + j) := st4 24 _ (by decide) (by decide)
          have m55 : M4 55 (4 * (12 * b + e) + j) = M2 55 (4 * (12 * b + e) + j) := ld.2.2.1 j j0 (by omega)
          have m56 : M4 56 (12 * (4 * (12 * b + e) + j) + v) = M2 56 (12 * (4 * (12 * b + e) + j) + v) := by
            have := ld.2.2.2 (12 * j + v) (by omega) (by omega)
            rw [show 48 * (12 * b + e) + (12 * j + v) = 12 * (4 * (12 * b + e) + j) + v from by omega] at this
            exact this
          refine pm_val12 f4 x0 x1 (by rw [ss 35 _ (by decide) (by decide)]; exact k) (pm_entryOf (M1 := M4) (M2 := M4) (k := v) x0 x1 m36 (by omega) (by omega) j0 (by omega) (fun Q hq => by rw [g12]; exact pm_use_ok E4.nw b0 b1 e0 (by omega) (by omega) (by omega) hq) (by rw [ss 37 _ (by decide) (by decide)]; exact pv f2 D0 (by omega) N4 M4 U4 E4 st4 lx4 f4 (k4 + 1) (by omega)) (by omega) (fun q => absurd f4 q) (fun _ a1 => by omega) (fun _ _ _ a3 => by omega) (fun _ _ _ _ => by rw [m56]; exact hq))
      · obtain ⟨run, s2, fa2, pv⟩ := vp
        have st2 := st1.tr s2.stm
        have f2' : M2 0 65 ≠ 0 := by omega
        have j1' : j < M2 15 (12 * b + e) := by rw [st2 15 _ (by decide) (by decide)]; exact j1
        have ne12 := ((s2.1.bh.be e0 (by rw [st2 10 _ (by decide) (by decide)]; exact e1)).tb j0 j1').ne1
        refine hF V2 N2 M2 U2 hW2 ⟨fun Q hq => pm_val12 hf x0 x1 k (pm_entryOf (k := 0) x0 x1 ha (by omega) (by omega) j0 (by omega) (by rw [g12]; exact hr) (by rw [m37]; exact run) ne12 (fun _ => hq) (fun q => absurd q f2') (fun q => absurd q f2') (fun q => absurd q f2')), (s1.wid (lo := gm 1 x) (hi := gm 2 x) (fun p a e => by omega)).tr s2 f1 (by omega) (by omega) (by omega) (by omega) (by omega), fa1.tr fa2 f1 (by omega) (by omega), fun q => absurd q f2'⟩ f2
    · have f1' : M1 0 65 ≠ 0 := by omega
      have j1' : j < M1 15 (12 * b + e) := by rw [st1 15 _ (by decide) (by decide)]; exact j1
      have ne12 := ((E1.bh.be e0 (by rw [st1 10 _ (by decide) (by decide)]; exact e1)).tb j0 j1').ne1
      refine wo_fail E1 hW1 f1 (hF V1 N1 M1 U1 hW1 ⟨fun Q hq => pm_val12 hf x0 x1 k (pm_entryOf (M1 := M1) (M2 := M1) (k := 0) x0 x1 ha (by omega) (by omega) j0 (by omega) (by rw [g12]; exact hr) (fun Q hq => pm_val_f f1' hq) ne12 (fun _ => hq) (fun q => absurd q f1') (fun q => absurd q f1') (fun q => absurd q f1')), s1.wid (fun p a e => by omega), fa1, fun q => absurd q f1'⟩ f1)
end EV6
