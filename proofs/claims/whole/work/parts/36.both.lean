/-! ===== evaluation: an expression, by induction ===== -/
def PB (c : Int → Int) (gm : Mem) (b x0 y cst ra v : Int) (M' : Mem) : Prop := ∀ (N2 M2 : Mem) (U2 : Int → Int), EvI c N2 M2 gm U2 b → StM M' M2 → Lx (-1) b M' M2 → M2 0 65 = 0 → ∀ dm : Nat, 2 * gm 3 y + 1205 ≤ (dm : Int) + 1 → ∀ Qr : Int → Mem → Prop, ((y ≠ x0 → PM dm n_both_48 [x0, cst, ra, M2 38 y, v] M2 Qr) ∧ (y = x0 → Qr v M2)) → PM dm n_both_3 [x0, cst, ra, y] M2 Qr
def BP (c : Int → Int) (b : Int) (gm : Mem) (x0 y cst ra : Int) (dm : Nat) (D : Int) (N M : Mem) (U : Int → Int) (N' M' : Mem) (U' : Int → Int) (v : Int) : Prop := (∀ Qr : Int → Mem → Prop, (M' 0 65 = 0 → (y ≠ x0 → PM dm n_both_48 [x0, cst, ra, M' 38 y, v] M' Qr) ∧ (y = x0 → Qr v M')) → (M' 0 65 ≠ 0 → Qr 0 M') → PM dm n_both_3 [x0, cst, ra, y] M Qr) ∧ EvS c b gm (gm 1 y) (gm 2 y) N M U N' M' U' ∧ FA c gm b cst ra (gm 4 y) N M N' M' ∧ (M' 0 65 = 0 → D = 0 → gm 4 y ≤ 2 → PB c gm b x0 y cst ra v M')
def Vst (c : Int → Int) (S : Sh) (gm : Mem) (b D lv : Int) (n : Nat) : Prop := ∀ (l : Launch) (G : GT) (Q : Int → Sh → Mem → Prop) (d dm mc ms : Nat) (x fr g i cst ca ra : Int) (V N M : Mem) (U : Int → Int), gm 0 x = 1 → gm 2 x - gm 1 x ≤ n → gm 4 x ≤ lv → Wv c S V = N → EvI c N M gm U b → M 0 64 = D → M 0 65 = 0 → (D = 0 → NU b M) → (3 ≤ gm 4 x → AKc c gm b cst ra N M ∧ ca = ra ∧ 0 ≤ ra ∧ ra < 4 ∧ 2 * gm 3 x + 1305 ≤ (dm : Int) ∧ 140 ≤ (d : Int) ∧ N 30 3 + gm 3 x + 540 ≤ 912) → CXt b M (gm 4 x) g i cst → OW b gm M U (gm 1 x) (gm 2 x) D → N 30 3 + gm 3 x + 45 * (12 - D) ≤ 951 → 10 * (12 - D) + 9 ≤ (d : Int) → 2 * gm 3 x + 100 * (12 - D) + 5 ≤ (dm : Int) → (∀ V' N' M' U' z, Wv c S V' = N' → VP c b gm x cst ra dm D N M U N' M' U' z → M' 0 65 = 0 → N' 30 3 = N 30 3 + 1 → N' 31 (N 30 3) = z → XJ l G bX10_workOut Q d 16 (WL c b fr g i ca (gm 2 x)) [] S V' mc ms) → (∀ V' N' M' U', Wv c S V' = N' → VP c b gm x cst ra dm D N M U N' M' U' 0 → M' 0 65 = 1 → Q 0 S V') → XJ l G bX10_workOut Q d 16 (WL c b fr g i ca (gm 1 x)) [] S V mc ms
def Bst (c : Int → Int) (S : Sh) (gm : Mem) (b D lv : Int) (n : Nat) : Prop := ∀ (l : Launch) (G : GT) (Q : Int → Sh → Mem → Prop) (d dm mc ms : Nat) (x0 y fr g i cst ca ra : Int) (V N M : Mem) (U : Int → Int), gm 0 y = 1 → 2 ≤ M 35 y → M 35 y ≤ 5 → gm 2 y ≤ gm 2 x0 → gm 2 y - gm 1 y ≤ n → gm 4 y ≤ lv → Wv c S V = N → EvI c N M gm U b → M 0 64 = D → M 0 65 = 0 → (D = 0 → NU b M) → (3 ≤ gm 4 y → AKc c gm b cst ra N M ∧ ca = ra ∧ 0 ≤ ra ∧ ra < 4 ∧ 2 * gm 3 y + 1305 ≤ (dm : Int) + 1 ∧ 140 ≤ (d : Int) ∧ N 30 3 + gm 3 y + 540 ≤ 912) → CXt b M (gm 4 y) g i cst → OW b gm M U (gm 1 y) (gm 2 y) D → N 30 3 + gm 3 y + 45 * (12 - D) ≤ 951 → 10 * (12 - D) + 9 ≤ (d : Int) → 2 * gm 3 y + 100 * (12 - D) + 5 ≤ (dm : Int) + 1 → (∀ V' N' M' U' z, Wv c S V' = N' → BP c b gm x0 y cst ra dm D N M U N' M' U' z → M' 0 65 = 0 → N' 30 3 = N 30 3 + 1 → N' 31 (N 30 3) = z → XJ l G bX10_workOut Q d 16 (WL c b fr g i ca (gm 2 y)) [] S V' mc ms) → (∀ V' N' M' U', Wv c S V' = N' → BP c b gm x0 y cst ra dm D N M U N' M' U' 0 → M' 0 65 = 1 → Q 0 S V') → XJ l G bX10_workOut Q d 16 (WL c b fr g i ca (gm 1 y)) [] S V mc ms
theorem LCn.bin {N M gm : Mem} {b x : Int} (h : LCn N M gm b x) (k0 : 2 ≤ M 35 x) (k1 : M 35 x ≤ 5) : gm 0 (M 36 x) = 1 ∧ gm 0 (M 37 x) = 1 ∧ gm 1 (M 36 x) = gm 1 x ∧ gm 1 (M 37 x) = gm 2 (M 36 x) ∧ gm 2 x = gm 2 (M 37 x) + 1 ∧ gm 3 (M 37 x) + 1 ≤ gm 3 x ∧ gm 3 (M 36 x) ≤ gm 3 x ∧ (2 ≤ M 35 (M 36 x) → M 35 (M 36 x) ≤ 5 → M 38 (M 36 x) = x) ∧ (¬ (2 ≤ M 35 (M 36 x) ∧ M 35 (M 36 x) ≤ 5) → gm 3 (M 36 x) + 1 ≤ gm 3 x) ∧ gm 4 (M 36 x) ≤ gm 4 x ∧ gm 4 (M 37 x) ≤ gm 4 x ∧ N (128 * b + 21) (gm 2 (M 37 x)) = M 35 x + 5 := by
  have q := h.2.2.2.2.2.2.2.2.2
  unfold LCk at q
  rcases q with q | q | q | q | q | q | q | q | q | q
  · omega
  · omega
  · exact q.2.2
  all_goals omega
theorem pm_both48 {d : Nat} {M M1 : Mem} {Q : Int → Mem → Prop} {x0 y cst ra v zw : Int} (y0 : 0 ≤ y) (y1 : y < 31000) (hv : RunM (d + 2) n_value_0 [M 37 y, cst, ra] M zw M1) (h0 : M1 0 65 ≠ 0 → Q 0 M1) (h1 : M1 0 65 = 0 → ¬ (M 35 y ≠ 2 ∧ M 35 y ≠ 3 ∧ M 35 y ≠ 4 ∧ zw = 0) → (y ≠ x0 → PM (d + 3) n_both_48 [x0, cst, ra, M1 38 y, jnd (M 35 y) v zw] M1 Q) ∧ (y = x0 → Q (jnd (M 35 y) v zw) M1)) (h2 : M1 0 65 = 0 → M 35 y ≠ 2 ∧ M 35 y ≠ 3 ∧ M 35 y ≠ 4 ∧ zw = 0 → Q 0 (mFail M1 4 (-1))) : PM (d + 3) n_both_48 [x0, cst, ra, y, v] M Q := by
  refine st_both_48 ⟨y0, y1, hv _ ?_⟩
  by_cases z : M1 0 65 = 0
  · refine pm_joined z (fun n => ⟨fun _ => ⟨fun q => ⟨y0, y1, (h1 z n).1 q⟩, fun q => (h1 z n).2 (by omega)⟩, fun q => absurd z q⟩) (fun n => ⟨fun q => absurd (mFail_65.symm.trans q) (by decide), fun _ => h2 z n⟩)
  · exact pm_joined_f z ⟨fun q => absurd q z, fun _ => h0 z⟩
theorem pm_both48f {d : Nat} {M : Mem} {Q : Int → Mem → Prop} {x0 y cst ra v : Int} (y0 : 0 ≤ y) (y1 : y < 31000) (hf : M 0 65 ≠ 0) (hq : Q 0 M) : PM (d + 3) n_both_48 [x0, cst, ra, y, v] M Q := st_both_48 ⟨y0, y1, pm_val_f hf (pm_joined_f hf ⟨fun q => absurd q hf, fun _ => hq⟩)⟩
theorem pm_both3b {d : Nat} {M : Mem} {Q : Int → Mem → Prop} {x0 y cst ra : Int} (y0 : 0 ≤ y) (y1 : y < 31000) (z0 : 0 ≤ M 36 y) (z1 : M 36 y < 31000) (k0 : 2 ≤ M 35 (M 36 y)) (k1 : M 35 (M 36 y) ≤ 5) (h : PM (d + 2) n_both_3 [x0, cst, ra, M 36 y] M Q) : PM (d + 2) n_both_3 [x0, cst, ra, y] M Q := st_both_3 ⟨y0, y1, z0, z1, pm_isTwo (fun _ _ => ⟨fun q => absurd q (by decide), fun _ => ⟨y0, y1, h⟩⟩) (fun q => absurd ⟨k0, k1⟩ q)⟩
theorem pm_both3l {d : Nat} {M M1 : Mem} {Q : Int → Mem → Prop} {x0 y cst ra v : Int} (y0 : 0 ≤ y) (y1 : y < 31000) (z0 : 0 ≤ M 36 y) (z1 : M 36 y < 31000) (k : ¬ (2 ≤ M 35 (M 36 y) ∧ M 35 (M 36 y) ≤ 5)) (hv : RunM (d + 1) n_value_0 [M 36 y, cst, ra] M v M1) (h : PM (d + 2) n_both_48 [x0, cst, ra, y, v] M1 Q) : PM (d + 2) n_both_3 [x0, cst, ra, y] M Q := st_both_3 ⟨y0, y1, z0, z1, pm_isTwo (fun p q => absurd ⟨p, q⟩ k) (fun _ => ⟨fun _ => ⟨y0, y1, hv _ h⟩, fun q => absurd rfl q⟩)⟩
section EV5
variable {c : Int → Int} {S : Sh} {gm : Mem} {b D : Int}
theorem ev_B {lv : Int} {n : Nat} (hc : Cn c S) (hV : Vst c S gm b D lv n) (hB : Bst c S gm b D lv n) : Bst c S gm b D lv (n + 1) := by
  intro l G Q d dm mc ms x0 y fr g i cst ca ra V N M U hy k0 k1 yx hn hlv hW E hD hf hN hak cx ow t hd hdm hk hF
  have L := E.bn.2 y hy
  have Bn := L.bin k0 k1
  obtain ⟨y0, y40, _⟩ := L
  have x40 := E.bn.1
  have ne1 := E.bh.bk.ne1
  have dp0 := E.dp0
  have dp1 := E.dp1
  have tp0 := E.tp0
  have y1 : y < 31000 := by omega
  obtain ⟨g0, g0', p1, p2, p3, h3, h3', up38, h3n, l4, l4', op⟩ := Bn
  have Lz := E.bn.2 _ g0
  have Lw := E.bn.2 _ g0'
  obtain ⟨z0, z40, _, zlt, _, z3, _⟩ := Lz
  obtain ⟨_, _, _, wlt, _, w3, _⟩ := Lw
  obtain ⟨dm', rfl⟩ : ∃ k, dm = k + 3 := ⟨dm - 3, by omega⟩
  have right : ∀ V1 N1 M1 U1 v, Wv c S V1 = N1 → EvS c b gm (gm 1 (M 36 y)) (gm 2 (M 36 y)) N M U N1 M1 U1 → FA c gm b cst ra (gm 4 (M 36 y)) N M N1 M1 → M1 0 65 = 0 → N1 30 3 = N 30 3 + 1 → N1 31 (N 30 3) = v → (∀ Qr : Int → Mem → Prop, PM (dm' + 3) n_both_48 [x0, cst, ra, y, v] M1 Qr → PM (dm' + 3) n_both_3 [x0, cst, ra, y] M Qr) → (D = 0 → gm 4 y ≤ 2 → ∀ (N2 M2 : Mem) (U2 : Int → Int), EvI c N2 M2 gm U2 b → StM M1 M2 → Lx (-1) b M1 M2 → M2 0 65 = 0 → ∀ dm : Nat, 2 * gm 3 y + 1205 ≤ (dm : Int) + 1 → ∀ Qr : Int → Mem → Prop, PM dm n_both_48 [x0, cst, ra, y, v] M2 Qr → PM dm n_both_3 [x0, cst, ra, y] M2 Qr) → XJ l G bX10_workOut Q d 16 (WL c b fr g i ca (gm 2 (M 36 y))) [] S V1 mc ms := by
    intro V1 N1 M1 U1 v hW1 s1 fa1 f1 t1 v1 reach pure
    have E1 := s1.1
    have st1 := s1.stm
    have m37 : M1 37 y = M 37 y := st1 37 _ (by decide) (by decide)
    have m35 : M1 35 y = M 35 y := st1 35 _ (by decide) (by decide)
    rw [← p2]
    have ow1 : OW b gm M1 U1 (gm 1 (M 37 y)) (gm 2 (M 37 y)) D := (ow.sub (by omega) (by omega)).st s1 (Or.inl (by omega))
    have cx1 : CXt b M1 (gm 4 (M 37 y)) g i cst := (cx.st st1 s1.2.2.2.1 ne1).le l4'
    refine hV l G Q d (dm' + 2) mc ms (M 37 y) fr g i cst ca ra V1 N1 M1 U1 g0' (by omega) (by omega) hW1 E1 (s1.2.2.1.trans hD) f1 (fun q => (hN q).st s1.2.2.2.1) (fun q => by have h := hak (by omega); exact ⟨fa1.2 f1 h.1, h.2.1, h.2.2.1, h.2.2.2.1, by omega, by omega, by omega⟩) cx1 ow1 (by omega) hd (by omega) (fun V2 N2 M2 U2 zw hW2 vp f2 t2 v2 => ?_) (fun V2 N2 M2 U2 hW2 vp f2 => ?_)
    · obtain ⟨run, s2, fa2, pv⟩ := vp
      have E2 := s2.1
      have st2 := st1.tr s2.stm
      have L2 := E2.bn.2 y hy
      have B2 := L2.bin (by rw [st2 35 _ (by decide) (by decide)]; exact k0) (by rw [st2 35 _ (by decide) (by decide)]; exact k1)
      have op2 := B2.2.2.2.2.2.2.2.2.2.2.2
      rw [st2 37 _ (by decide) (by decide), st2 35 _ (by decide) (by decide)] at op2
      have ln2 := E2.ln hy
      have s12 : EvS c b gm (gm 1 y) (gm 2 y) N M U N2 M2 U2 := s1.tr s2 f1 (by omega) (by omega) (by omega) (by omega) (by omega)
      have vv : N2 31 (N 30 3) = v := by rw [s2.2.2.2.2.2 f2 _ tp0 (by omega)]; exact v1
      have v2' : N2 31 (N 30 3 + 1) = zw := by rw [← t1]; exact v2
      have t2' : N2 30 3 = N 30 3 + 2 := by omega
      refine wo_step E2 hW2 f2 (by omega) (by omega) op2 (by omega) (by omega) (fun d1 hd1 => ts7_10 E2 hW2 (by omega) k0 k1 (fun d2 hd2 => ct_combine E2 hc hW2 (by omega) (by omega) rfl k0 k1 (fun nz V3 hW3 => ?_) (fun iz V3 hW3 => ?_)))
      · rw [← p3]
        rw [t2', show N 30 3 + 2 - 2 = N 30 3 from by omega, show N 30 3 + 2 - 1 = N 30 3 + 1 from by omega, vv, v2'] at hW3
        rw [t2', show N 30 3 + 2 - 1 = N 30 3 + 1 from by omega, v2'] at nz
        have E23 := E2.top (t := N 30 3) tp0 (by omega)
        have s23 := s12.tr (lo := gm 1 y) (hi := gm 2 y) (EvS.top (lo := gm 1 y) (hi := gm 2 y) (t := N 30 3) E2 tp0 (by omega)) f2 (by omega) (by omega) (by omega) (by omega) (by omega)
        have n3 : up N2 30 3 (N 30 3) 30 3 = N 30 3 := up_eq
        have s24 := s23.tr (lo := gm 1 y) (hi := gm 2 y) (EvS.push (lo := gm 1 y) (hi := gm 2 y) (x := jnd (M 35 y) v zw) E23 (by rw [n3]; omega)) f2 (by rw [n3]; omega) (by omega) (by omega) (by omega) (by omega)
        rw [n3] at s24
        refine hk V3 _ M2 U2 (jnd (M 35 y) v zw) hW3 ⟨fun Qr q1 q2 => reach Qr (pm_both48 y0 y1 (by rw [m37]; exact run) (fun q => absurd f2 q) (fun _ _ => by rw [m35]; exact q1 f2) (fun _ q => by rw [m35] at q; exact absurd q nz)), s24, (fa1.tr (lv := gm 4 y) fa2 f1 l4 l4').tr (lv2 := gm 4 y) (FA.of ?_ ?_ StM.rf Lx.rf) f2 (by omega) (by omega), fun _ D0 lv2 => ?_⟩ f2 ?_ ?_
        · rw [up_ne (by omega), up_ne (by omega), up_ne (by omega)]
        · rw [up_ne (by omega), up_ne (by omega), up_ne (by omega)]
        · intro N4 M4 U4 E4 st4 lx4 f4 dm4 hdm4 Qr q1
          obtain ⟨k4, rfl⟩ : ∃ k, dm4 = k + 3 := ⟨dm4 - 3, by omega⟩
          refine pure D0 lv2 N4 M4 U4 E4 (s2.stm.tr st4) (s2.2.2.2.1.tr lx4) f4 _ hdm4 Qr ?_
          have st5 := st2.tr st4
          have r4 := pv f2 D0 (by omega) N4 M4 U4 E4 st4 lx4 f4 (k4 + 2) (by omega)
          refine pm_both48 y0 y1 (by rw [st5 37 _ (by decide) (by decide)]; exact r4) (fun q => absurd f4 q) (fun _ _ => ?_) (fun _ q => ?_)
          · rw [st5 35 _ (by decide) (by decide)]
            exact q1
          · rw [st5 35 _ (by decide) (by decide)] at q
            exact absurd q nz
        · rw [up_eq]
        · rw [up_ne (by omega), up_eq]
      · rw [t2', show N 30 3 + 2 - 1 = N 30 3 + 1 from by omega, v2'] at iz
        rw [t2', show N 30 3 + 2 - 2 = N 30 3 from by omega] at hW3
        have E23 := E2.top (t := N 30 3) tp0 (by omega)
        have s23 := s12.tr (lo := gm 1 y) (hi := gm 2 y) (EvS.top (lo := gm 1 y) (hi := gm 2 y) (t := N 30 3) E2 tp0 (by omega)) f2 (by omega) (by omega) (by omega) (by omega) (by omega)
        have n3 : up N2 30 3 (N 30 3) 30 3 = N 30 3 := up_eq
        have s24 := s23.tr (lo := gm 1 y) (hi := gm 2 y) (EvS.fail (lo := gm 1 y) (hi := gm 2 y) (x := 4) (y := -1) E23) f2 (by rw [n3]; omega) (by omega) (by omega) (by omega) (by omega)
        refine wo_fail s24.1 hW3 mFail_65 (hF V3 _ _ U2 hW3 ⟨fun Qr q1 q2 => reach Qr (pm_both48 y0 y1 (by rw [m37]; exact run) (fun q => absurd f2 q) (fun _ q => absurd (by rw [m35]; exact iz) q) (fun _ _ => q2 (by rw [mFail_65]; decide))), s24, (fa1.tr (lv := gm 4 y) fa2 f1 l4 l4').tr (lv2 := gm 4 y) (FA.of ?_ ?_ (EvS.fail (lo := 0) (hi := 0) E23).stm (EvS.fail (lo := 0) (hi := 0) E23).2.2.2.1) f2 (by omega) (by omega), fun q => absurd (mFail_65.symm.trans q) (by decide)⟩ mFail_65)
        · rw [nFail_ne (by omega) (by omega) (by omega), up_ne (by omega)]
        · rw [nFail_ne (by omega) (by omega) (by omega), up_ne (by omega)]
    · obtain ⟨run, s2, fa2, pv⟩ := vp
      have f2' : M2 0 65 ≠ 0 := by omega
      refine hF V2 N2 M2 U2 hW2 ⟨fun Qr q1 q2 => reach Qr (pm_both48 y0 y1 (by rw [m37]; exact run) (fun q => q2 q) (fun q => absurd q f2') (fun q => absurd q f2')), s1.tr s2 f1 (by omega) (by omega) (by omega) (by omega) (by omega), fa1.tr fa2 f1 l4 l4', fun q => absurd q f2'⟩ f2
  rw [← p1]
  by_cases zb : 2 ≤ M 35 (M 36 y) ∧ M 35 (M 36 y) ≤ 5
  · have zy : M 36 y ≠ x0 := fun q => by rw [q] at p2 zlt; omega
    have u38 := up38 zb.1 zb.2
    refine hB l G Q d (dm' + 3) mc ms x0 (M 36 y) fr g i cst ca ra V N M U g0 zb.1 zb.2 (by omega) (by omega) (by omega) hW E hD hf hN (fun q => by have h := hak (by omega); exact ⟨h.1, h.2.1, h.2.2.1, h.2.2.2.1, by omega, by omega, by omega⟩) (cx.le l4) (ow.sub (by omega) (by omega)) (by omega) hd (by omega) (fun V1 N1 M1 U1 v hW1 bp f1 t1 v1 => ?_) (fun V1 N1 M1 U1 hW1 bp f1 => ?_)
    · obtain ⟨run, s1, fa1, pb⟩ := bp
      have st1 := s1.stm
      refine right V1 N1 M1 U1 v hW1 s1 fa1 f1 t1 v1 (fun Qr q => pm_both3b y0 y1 z0 (by omega) zb.1 zb.2 (run Qr (fun _ => ⟨fun _ => ?_, fun q => absurd q zy⟩) (fun q => absurd f1 q))) (fun D0 lv2 N2 M2 U2 E2 st2 lx2 f2 dm2 hdm2 Qr q => ?_)
      · rw [st1 38 _ (by decide) (by decide), u38]
        exact q
      · obtain ⟨k2, rfl⟩ : ∃ k, dm2 = k + 3 := ⟨dm2 - 3, by omega⟩
        have st3 := st1.tr st2
        have e36 : M2 36 y = M 36 y := st3 36 _ (by decide) (by decide)
        refine pm_both3b y0 y1 (by omega) (by omega) (by rw [e36, st3 35 _ (by decide) (by decide)]; exact zb.1) (by rw [e36, st3 35 _ (by decide) (by decide)]; exact zb.2) ?_
        rw [e36]
        refine pb f1 D0 (by omega) N2 M2 U2 E2 st2 lx2 f2 _ (by omega) Qr ⟨fun _ => ?_, fun q => absurd q zy⟩
        rw [st3 38 _ (by decide) (by decide), u38]
        exact q
    · obtain ⟨run, s1, fa1, pb⟩ := bp
      exact hF V1 N1 M1 U1 hW1 ⟨fun Qr q1 q2 => pm_both3b y0 y1 z0 (by omega) zb.1 zb.2 (run Qr (fun q => by omega) q2), s1.wid (fun p a e => by omega), fa1.le l4, fun q => by omega⟩ f1
  · have h3z := h3n zb
    refine hV l G Q d (dm' + 2) mc ms (M 36 y) fr g i cst ca ra V N M U g0 (by omega) (by omega) hW E hD hf hN (fun q => by have h := hak (by omega); exact ⟨h.1, h.2.1, h.2.2.1, h.2.2.2.1, by omega, by omega, by omega⟩) (cx.le l4) (ow.sub (by omega) (by omega)) (by omega) hd (by omega) (fun V1 N1 M1 U1 v hW1 vp f1 t1 v1 => ?_) (fun V1 N1 M1 U1 hW1 vp f1 => ?_)
    · obtain ⟨run, s1, fa1, pv⟩ := vp
      have st1 := s1.stm
      refine right V1 N1 M1 U1 v hW1 s1 fa1 f1 t1 v1 (fun Qr q => pm_both3l y0 y1 z0 (by omega) zb run q) (fun D0 lv2 N2 M2 U2 E2 st2 lx2 f2 dm2 hdm2 Qr q => ?_)
      obtain ⟨k2, rfl⟩ : ∃ k, dm2 = k + 3 := ⟨dm2 - 3, by omega⟩
      have st3 := st1.tr st2
      have e36 : M2 36 y = M 36 y := st3 36 _ (by decide) (by decide)
      exact pm_both3l y0 y1 (by omega) (by omega) (by rw [e36, st3 35 _ (by decide) (by decide)]; exact zb) (by rw [e36]; exact pv f1 D0 (by omega) N2 M2 U2 E2 st2 lx2 f2 (k2 + 2) (by omega)) q
    · obtain ⟨run, s1, fa1, pv⟩ := vp
      have f1' : M1 0 65 ≠ 0 := by omega
      exact hF V1 N1 M1 U1 hW1 ⟨fun Qr q1 q2 => pm_both3l y0 y1 z0 (by omega) zb run (pm_both48f y0 y1 f1' (q2 f1')), s1.wid (fun p a e => by omega), fa1.le l4, fun q => by omega⟩ f1
end EV5
