/-! ===== decode, the call ===== -/
theorem DS.m {c : Int → Int} {S : Sh} {V0 M0 V M : Mem} (h : DS c S V0 M0 V M) {k j : Int} (h1 : k ≠ 82) (h2 : k ≠ 1) (h3 : k ≠ 0 ∨ (j ≠ 2 ∧ j ≠ 83)) : dv M k j = M0 k j := (dv_ne h2 (by omega)).trans (h.2.2.1 k j h1 (by omega))
section DEC2
variable {l : Launch} {G : GT} {Q : Int → Sh → Mem → Prop} {c : Int → Int} {S : Sh} {V0 M0 : Mem} {d : Nat} {m : Int}
theorem ct_nameOf {V M : Mem} {Q : Int → Sh → Mem → Prop} {i : Int} {mc ms : Nat} (hc : Cn c S) (h : DS c S V0 M0 V M) (m0 : 0 ≤ m) (m1 : m < M0 0 81) (i0 : 0 ≤ i) (i1 : i < M0 78 m) (hd : 4 ≤ d) (hk : ∀ v, NR M0 v (M0 20 (M0 79 (61 * m + i))) → 0 ≤ M0 79 (61 * m + i) → M0 79 (61 * m + i) < 2880 → Q v S V) : Ct l G bX11_nameOf Q d mc ms [vr (c 60), vr (c (128 * m + 70)), vi i] S V := by
  have R := h.1
  have e81 : dv M 0 81 = M0 0 81 := h.m (by decide) (by decide) (by omega)
  have e8 : dv M 0 8 = M0 0 8 := h.m (by decide) (by decide) (by omega)
  have kd := R.dr m0 (by omega)
  have km := R.ms m0 (by omega)
  have e78 : dv M 78 m = M0 78 m := h.m (by decide) (by decide) (by omega)
  have e79 : dv M 79 (61 * m + i) = M0 79 (61 * m + i) := h.m (by decide) (by decide) (by omega)
  have z1 := km.z1
  have ng := R.top.ng1
  have nb := R.top.nb1
  have b0 := km.b0
  have b1 := km.b1
  obtain ⟨q1, q2, q3, q4, q5⟩ := km.q i i0 (by omega)
  obtain ⟨v, tg, ln⟩ := Wr (rfl : Wv c S V = Wv c S V)
  have kB := R.bk b0 b1
  have kE := kB.be q2 q3
  have ne1 := kB.bk.ne1
  have nc1 := kE.en.nc1
  have tp := R.top
  refine qX11_nameOf fun _ _ _ => vX11_nameOf_0 ?_
  simp (disch := omega) only [v, tg, ln, kd.g, kd.r2, kd.g71, kd.n71, kd.r3, kd.g72, kd.n72, km.b, tp.g60]
  refine ⟨trivial, trivial, i0, by omega, trivial, CT.pu (by omega) (fun d1 hd1 => ct_enumOf hc R (by omega) (fun _ _ _ _ => ⟨rfl, rfl, ?_⟩) (fun z => absurd ⟨b0, b1, q2, q3⟩ z))⟩
  simp (disch := omega) only [v, tg, ln, kd.g, kd.r3, kd.g72, kd.n72, kE.en.g3]
  refine ⟨fun _ => ⟨trivial, trivial, i0, by omega, trivial, CT.pu (by omega) (fun d2 hd2 => ct_constantAt kE (fun _ _ => ⟨rfl, rfl, fun _ => ⟨(kE.cn q4 q5).vg5, ?_⟩, fun z => absurd (hc.2 _).1 z⟩) (fun z => absurd ⟨q4, q5⟩ z))⟩, fun z => absurd (hc.2 _).1 z⟩
  · have nr := (kE.cn q4 q5).nm
    rw [Wv_el (by decide)] at nr
    refine hk _ ?_ (by omega) (by omega)
    have q1' : M0 79 (61 * m + i) = 24 * (12 * dv M 77 m + Wv c S V (128 * m + 71) i) + Wv c S V (128 * m + 72) i := by omega
    rw [q1']
    have e7 : ∀ j, dv M 7 j = M0 7 j := fun j => h.m (by decide) (by decide) (by omega)
    have e20 : ∀ j, dv M 20 j = M0 20 j := fun j => h.m (by decide) (by decide) (by omega)
    unfold NR at *
    simp only [e7, e20] at nr
    exact nr
theorem dec_loop (hc : Cn c S) (m0 : 0 ≤ m) (m1 : m < M0 0 81) (m20 : M0 0 81 ≤ 20) (z60 : M0 78 m ≤ 60) (hd : 20 ≤ d) (hk : ∀ V M, DS c S V0 M0 V M → M 0 83 ≤ 1260 → (∀ Qr : Int → Mem → Prop, PM 2047 n_decode_24 [m, 61 * m + M0 78 m] M Qr → PM 2047 n_decode_24 [m, 61 * m] (up M0 0 83 0) Qr) → Q (M 0 83) S V) : ∀ (r : Nat) (i : Int) (V M : Mem), DS c S V0 M0 V M → 0 ≤ i → M0 78 m - i = r → (i = 0 → M 0 83 = 0) → (0 < i → 0 < M 0 83) → M 0 83 ≤ 21 * i → (∀ Qr : Int → Mem → Prop, PM 2047 n_decode_24 [m, 61 * m + i] M Qr → PM 2047 n_decode_24 [m, 61 * m] (up M0 0 83 0) Qr) → XJ l G bX11_decode Q d 19 [vr (c 60), vi m, vr (c (128 * m + 70)), vi i] [] S V 0 0 := by
  intro r
  induction r with
  | zero =>
    intro i V M h i0 hr a1 a2 a3 reach
    have R := h.1
    have e81 : dv M 0 81 = M0 0 81 := h.m (by decide) (by decide) (by omega)
    have e78 : dv M 78 m = M0 78 m := h.m (by decide) (by decide) (by omega)
    have kd := R.dr m0 (by omega)
    have km := R.ms m0 (by omega)
    refine vX11_decode_19 ?_
    have tl := R.top.vtl
    rw [dv_2] at tl
    rw [km.vz, e78, tl]
    exact ⟨kd.vg, fun _ => ⟨R.top.vg60, hk V M h (by omega) (fun Qr q => reach Qr (by rw [show i = M0 78 m from by omega]; exact q))⟩, fun z => absurd (by omega) z⟩
  | succ r ih =>
    intro i V M h i0 hr a1 a2 a3 reach
    have R := h.1
    have e81 : dv M 0 81 = M0 0 81 := h.m (by decide) (by decide) (by omega)
    have e78 : dv M 78 m = M0 78 m := h.m (by decide) (by decide) (by omega)
    have kd := R.dr m0 (by omega)
    have km := R.ms m0 (by omega)
    have nn := h.2.2.2.2
    have body : ∀ V M, DS c S V0 M0 V M → 0 ≤ M 0 83 → M 0 83 ≤ 21 * i + 1 → (∀ Qr : Int → Mem → Prop, PM 2047 n_decode_67 [m, 61 * m + i, M0 20 (M0 79 (61 * m + i)), 0] M Qr → PM 2047 n_decode_24 [m, 61 * m] (up M0 0 83 0) Qr) → S.1 (c 60) = 12 ∧ CT l G bX11_nameOf d 0 0 [vr (c 60), vr (c (128 * m + 70)), vi i] S V (fun z3 S3 V3 mc3 ms3 => S3.1 (c 60) = 12 ∧ CT l G bX11_putName d mc3 ms3 [vr (c 60), vl z3] S3 V3 (fun z5 S5 V5 mc5 ms5 => S5.1 (c (128 * m + 70)) = 5 ∧ S5.1 (V5 (c (128 * m + 70)) 4) = 20 ∧ 0 ≤ i ∧ i < S5.2.1 (V5 (c (128 * m + 70)) 4) ∧ ((V5 (V5 (c (128 * m + 70)) 4) i) = 0 → -2147483648 ≤ i + 1 ∧ i + 1 ≤ 2147483647 ∧ XJ l G bX11_decode Q d 19 [vr (c 60), vi m, vr (c (128 * m + 70)), vi (i + 1)] [] S5 V5 mc5 ms5) ∧ (¬ ((V5 (V5 (c (128 * m + 70)) 4) i) = 0) → S5.1 (c 60) = 12 ∧ CT l G bX11_putByte d mc5 ms5 [vr (c 60), vi 32] S5 V5 (fun z8 S8 V8 mc8 ms8 => S8.1 (c (128 * m + 70)) = 5 ∧ S8.1 (V8 (c (128 * m + 70)) 4) = 20 ∧ 0 ≤ i ∧ i < S8.2.1 (V8 (c (128 * m + 70)) 4) ∧ S8.1 (c 60) = 12 ∧ CT l G bX11_putNumber d mc8 ms8 [vr (c 60), vi (V8 (V8 (c (128 * m + 70)) 4) i)] S8 V8 (fun z10 S10 V10 mc10 ms10 => -2147483648 ≤ i + 1 ∧ i + 1 ≤ 2147483647 ∧ XJ l G bX11_decode Q d 19 [vr (c 60), vi m, vr (c (128 * m + 70)), vi (i + 1)] [] S10 V10 mc10 ms10))))) := by
      intro V M h p0 p1 reach
      have R := h.1
      have e81 : dv M 0 81 = M0 0 81 := h.m (by decide) (by decide) (by omega)
      refine ⟨R.top.vg60, CT.pu (by omega) (fun d1 hd1 => ct_nameOf hc h m0 m1 i0 (by omega) (by omega) (fun v nr q0 q1 => ⟨rfl, rfl, R.top.vg60, CT.im (by omega) (fun d2 hd2 => qX11_putName fun _ _ => vX11_putName_0 <| CT.pu (by omega) (fun d3 hd3 => ?_))⟩))⟩
      have nr' : NR (dv M) v (M0 20 (M0 79 (61 * m + i))) := by
        have e : ∀ j, dv M 7 j = M0 7 j := fun j => h.m (by decide) (by decide) (by omega)
        unfold NR
        simp only [e]
        exact nr
      have n10 := nr.2.2.1
      have n1 := nr.2.1
      refine ct_lengthOfName nr' ⟨rfl, rfl, ?_⟩
      refine name_loop (n := M0 20 (M0 79 (61 * m + i))) (q := 61 * m + i) (i := m) hc (by omega) (by omega) (by omega) (M0 20 (M0 79 (61 * m + i)) % 16).toNat 0 V M h nr (by decide) (by omega) (by omega) (fun V1 M1 h1 e1 reach1 => ?_)
      have R1 := h1.1
      have f81 : dv M1 0 81 = M0 0 81 := h1.m (by decide) (by decide) (by omega)
      have f78 : dv M1 78 m = M0 78 m := h1.m (by decide) (by decide) (by omega)
      have f80 : dv M1 80 (61 * m + i) = M0 80 (61 * m + i) := h1.m (by decide) (by decide) (by omega)
      have kd1 := R1.dr m0 (by omega)
      have km1 := R1.ms m0 (by omega)
      have t1 : (M0 20 (M0 79 (61 * m + i))).tmod 16 = M0 20 (M0 79 (61 * m + i)) % 16 := Int.tmod_eq_emod_of_nonneg nr.1
      obtain ⟨ad, ad0, ad9⟩ := km1.a i i0 (by omega)
      rw [Wv_el i0, f80] at ad
      rw [f80] at ad0 ad9
      rw [kd1.vr4, kd1.vn73, ad]
      have g80 : M1 80 (61 * m + i) = M0 80 (61 * m + i) := h1.2.2.1 80 _ (by decide) (by omega)
      refine ⟨kd1.vg, kd1.vg73, i0, by omega, fun z0 => ⟨by omega, by omega, ?_⟩, fun nz => ⟨R1.top.vg60, CT.im (by omega) (fun d4 hd4 => h1.put hc (by omega) (fun V2 h2 => ?_))⟩⟩
      · refine ih (i + 1) V1 M1 h1 (by omega) (by omega) (fun z => by omega) (fun _ => by omega) (by omega) (fun Qr q => reach Qr (reach1 Qr (st_decode_67 ?_)))
        unfold B_decode_67
        rw [t1]
        refine ⟨fun _ => ⟨by omega, by omega, fun y => absurd (by rw [g80]; exact z0) y, fun _ => ⟨by omega, by omega, ?_⟩⟩, fun z => absurd (Int.le_refl _) z⟩
        rw [show 61 * m + i + 1 = 61 * m + (i + 1) from by omega]
        exact q
      · have R2 := h2.1
        have k81 : dv (mPut M1 32) 0 81 = M0 0 81 := h2.m (by decide) (by decide) (by omega)
        have k78 : dv (mPut M1 32) 78 m = M0 78 m := h2.m (by decide) (by decide) (by omega)
        have k80 : dv (mPut M1 32) 80 (61 * m + i) = M0 80 (61 * m + i) := h2.m (by decide) (by decide) (by omega)
        have kd2 := R2.dr m0 (by omega)
        have km2 := R2.ms m0 (by omega)
        obtain ⟨bd, _, _⟩ := km2.a i i0 (by omega)
        rw [Wv_el i0, k80] at bd
        rw [kd2.vr4, kd2.vn73, bd]
        have p83 : mPut M1 32 0 83 = M1 0 83 + 1 := mPut_83
        refine ⟨kd2.vg, kd2.vg73, i0, by omega, R2.top.vg60, CT.im (by omega) (fun d5 hd5 => qX11_putNumber fun _ _ => vX11_putNumber_0 ?_)⟩
        refine wgt_loop (a := M0 80 (61 * m + i)) (q := 61 * m + i) (i := m) (n := M0 20 (M0 79 (61 * m + i))) hc (by omega) (by omega) ad0 ad9 (by omega) h2 rfl (by omega) (fun V3 M3 h3 e3 e4 reach3 => ⟨by omega, by omega, ?_⟩) 8 1 (by decide) (by decide) (fun Qr q => q)
        refine ih (i + 1) V3 M3 h3 (by omega) (by omega) (fun z => by omega) (fun _ => by omega) (by omega) (fun Qr q => reach Qr (reach1 Qr (st_decode_67 ?_)))
        unfold B_decode_67
        rw [t1]
        refine ⟨fun _ => ⟨by omega, by omega, fun _ => pm_put (by omega) (by omega) (reach3 Qr ?_), fun y => absurd (by rw [g80]; exact nz) y⟩, fun z => absurd (Int.le_refl _) z⟩
        rw [show 61 * m + i + 1 = 61 * m + (i + 1) from by omega]
        exact q
    have g78 : M 78 m = M0 78 m := h.2.2.1 78 _ (by decide) (by omega)
    have g79 : M 79 (61 * m + i) = M0 79 (61 * m + i) := h.2.2.1 79 _ (by decide) (by omega)
    have g20 : M 20 (M0 79 (61 * m + i)) = M0 20 (M0 79 (61 * m + i)) := h.2.2.1 20 _ (by decide) (by omega)
    have qb : 0 ≤ M0 79 (61 * m + i) ∧ M0 79 (61 * m + i) < 2880 := by
      obtain ⟨q1, q2, q3, q4, q5⟩ := km.q i i0 (by omega)
      have e79 : dv M 79 (61 * m + i) = M0 79 (61 * m + i) := h.m (by decide) (by decide) (by omega)
      have b0 := km.b0
      have b1 := km.b1
      have nb := R.top.nb1
      have ne1 := (R.bk b0 b1).bk.ne1
      have nc1 := ((R.bk b0 b1).be q2 q3).en.nc1
      omega
    refine vX11_decode_19 ?_
    rw [km.vz, e78]
    refine ⟨kd.vg, fun z => absurd z (by omega), fun _ => ⟨fun le => body V M h nn (by omega) (fun Qr q => reach Qr (st_decode_24 ?_)), fun gt => ⟨R.top.vg60, CT.im (by omega) (fun d1 hd1 => h.put hc (by omega) (fun V1 h1 => body V1 _ h1 (by rw [mPut_83]; omega) (by rw [mPut_83]; omega) (fun Qr q => reach Qr (st_decode_24 ?_))))⟩⟩⟩
    · unfold B_decode_24
      rw [g78, g79, g20]
      exact ⟨by omega, by omega, by omega, by omega, by omega, by omega, fun z => absurd z (by omega), fun _ => ⟨fun _ => ⟨by omega, by omega, qb.1, qb.2, q⟩, fun z => absurd (by have := a1 (by omega); omega) z⟩⟩
    · unfold B_decode_24
      rw [g78]
      have j79 : mPut M 32 79 (61 * m + i) = M0 79 (61 * m + i) := (mPut_ne (by decide) (by omega)).trans g79
      have j20 : mPut M 32 20 (M0 79 (61 * m + i)) = M0 20 (M0 79 (61 * m + i)) := (mPut_ne (by decide) (by omega)).trans g20
      refine ⟨by omega, by omega, by omega, by omega, by omega, by omega, fun z => absurd z (by omega), fun _ => ⟨fun z => absurd z (by have := a2 (by omega); omega), fun _ => pm_put nn (by omega) ?_⟩⟩
      rw [j79, j20]
      exact ⟨by omega, by omega, qb.1, qb.2, q⟩
end DEC2
theorem call_decode (m : Int) : CallOK CI bX11_decode n_decode_0 [vi m] [m] := call_upd fun l G c S V M Q hc hR hk => qX11_decode fun _ _ => vX11_decode_0 <| by
  have t := hR.top
  have ng := t.ng1
  have tl0 := t.tl0
  refine ⟨t.vg60, CT.pu (by decide) (fun d1 hd1 => ct_messageAt hR (fun m0 m1 => ⟨rfl, rfl, fun _ => ⟨t.vg60, ?_⟩, fun z => absurd (hc.2 _).1 z⟩) (fun h => ⟨rfl, rfl, fun z => absurd rfl z, fun _ => hk (-1) V M (fun Q hq => st_decode_0 ⟨fun _ => hq, fun y => ⟨fun y2 => absurd ⟨by omega, y2⟩ h, fun _ => hq⟩⟩) (fun _ _ _ => rfl) hR (by omega)⟩))⟩
  have km := hR.ms m0 m1
  have z0 := km.z0
  have z1 := km.z1
  have R1 := hR.cut (n := 0) (by decide) tl0
  rw [← Wv_up hc (by decide)] at R1
  have e83 : up M 0 83 0 0 83 = 0 := up_eq
  have h : DS c S V M (up V (c 60) 1 0) (up M 0 83 0) := by
    refine ⟨R1.cg (fun j q => ?_) (fun k j q => ?_) (fun j j0 j1 => ?_), fun L j q => upc_ne hc (by omega), fun k j a b => up_ne (by omega), fun j j0 j1 => by omega, by omega⟩
    · by_cases y : j = 2
      · subst y
        rw [dv_2, up_eq, up_eq]
      · rw [dv_ne (by decide) (by omega), up_ne (by omega), up_ne (by omega)]
    · rw [dv_ne (by omega) (by omega), up_ne (by omega), up_ne (by omega)]
    · rw [up_eq] at j1
      omega
  refine dec_loop (V0 := V) (M0 := M) hc m0 m1 ng z1 (by decide) (fun V1 M1 h1 b1 reach => ?_) (M 78 m).toNat 0 _ (up M 0 83 0) h (by decide) (by omega) (fun _ => e83) (fun z => absurd z (by decide)) (by omega) (fun Qr q => by simpa using q)
  have n1 := h1.2.2.2.2
  have g83 : up M1 0 2 (M1 0 83) 0 83 = M1 0 83 := up_ne (by omega)
  obtain ⟨M', k1, k2, k3, k4⟩ := cpy_loop (m := m) (M1 0 83).toNat 0 (up M1 0 2 (M1 0 83)) (by decide) (by omega) (by omega)
  rw [g83] at k1 k4
  have g78 : M1 78 m = M 78 m := h1.2.2.1 78 _ (by decide) (by omega)
  have m2 : M' 0 2 = M1 0 83 := by rw [k2 0 2 (by decide), up_eq]
  refine hk _ V1 M' (fun Q hq => st_decode_0 ⟨fun z => absurd z (by omega), fun _ => ⟨fun _ => ⟨by omega, by omega, reach Q (st_decode_24 ?_)⟩, fun z => absurd m1 z⟩⟩) h1.2.1 (h1.1.cg (fun j q => ?_) (fun k j q => ?_) (fun j j0 j1 => ?_)) (by omega)
  · unfold B_decode_24
    rw [g78]
    exact ⟨by omega, by omega, by omega, by omega, by omega, by omega, fun _ => k1 Q hq, fun z => absurd (by omega) z⟩
  · by_cases y : j = 2
    · subst y
      rw [dv_2, m2]
    · rw [k2 0 j (by decide), up_ne (by omega), dv_ne (by decide) (by omega)]
  · rw [k2 k j (by omega), up_ne (by omega), dv_ne (by omega) (by omega)]
  · rw [dv_2] at j1
    rw [k4 j j0 j1, dv_1, up_ne (by omega)]
    exact h1.2.2.2.1 j j0 j1

