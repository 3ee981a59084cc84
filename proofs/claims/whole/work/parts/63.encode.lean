/-! ===== encode: the call ===== -/
theorem call_encode (b : Int) : CallOK CI bX11_encode n_encode_0 [vi b] [b] := call_gen fun l G c S V M hc hR => ⟨4, 185, by decide, by have := hR.top.tl0; omega, fun Q hk => qX11_encode fun c60 _ => vX11_encode_0 <| by
  have t := hR.top
  have nb := t.nb1
  have n0 := t.ng0
  have n20 := t.ng1
  have l0 := t.tl0
  have l1 := t.tl1
  have h0 : 0 ≤ S.2.2 := by have := (hc.2 60).2; omega
  have same : ∀ z, RunM 2047 n_encode_0 [b] M z M → Q z S V := fun z run => hk z c S V M run hc rfl (fun _ _ => ⟨rfl, fun _ => rfl⟩) hR (by omega)
  refine ⟨t.vg60, CT.pu (by decide) (fun d1 hd1 => ct_bookAt hR (fun b0 b1 => ⟨rfl, rfl, fun _ => ⟨t.vg60, fun lt => ?_, fun ge => ?_⟩, fun z => absurd (hc.2 _).1 z⟩) (fun h => ⟨rfl, rfl, fun z => absurd rfl z, fun _ => same (-1) (fun Q hq => st_encode_0 ⟨fun _ => hq, fun y => ⟨fun y2 => absurd ⟨by omega, y2⟩ h, fun _ => hq⟩⟩)⟩))⟩
  · rw [t.vng] at lt
    rw [t.vr2, t.vr0, t.vtl]
    refine ⟨hR.rd.vg40, CT.im (by omega) (fun d2 hd2 => ct_cutUp hc rfl hR (by omega) (fun V5 N5 E hW5 nt tk => ?_))⟩
    have R5 : Rel c N5 M := hR.tok nt
    have t5 := R5.top
    obtain ⟨v5, g5, ln5⟩ := Wr hW5
    have a15 : V5 (c 60) 15 = c (128 * M 0 81 + 70) := (v5 _ _ (by decide)).trans t5.r15
    have a2 : V5 (c 60) 2 = c 40 := (v5 _ _ (by decide)).trans t5.r2
    rw [a15, a2]
    have hW6 : Wv c S (up V5 (c 60) 1 0) = up N5 60 1 0 := by rw [Wv_up hc (by decide), hW5]
    have hW7 : Wv c S (up (up V5 (c 60) 1 0) (c (128 * M 0 81 + 70)) 1 0) = up (up N5 60 1 0) (128 * M 0 81 + 70) 1 0 := by rw [Wv_up hc (by decide), hW6]
    have s60 : ∀ L k, ¬ (L = 60 ∧ k = 1) → up N5 60 1 0 L k = N5 L k := fun L k q => up_ne (by omega)
    have R6 := R5.cut (n := 0) (by decide) l0
    have rd6 : Rdr c (up N5 60 1 0) M (M 0 81) := by apply Rdr.fr (R5.dr n0 (Int.le_refl _)) <;> intros <;> first | rfl | exact s60 _ _ (by omega)
    have rr6 : Rrd c (up N5 60 1 0) M := by apply Rrd.fr R5.rd <;> intros <;> first | rfl | exact s60 _ _ (by omega)
    have hB6 : BkR c (up N5 60 1 0) M b := (R5.bk b0 b1).fr b0 (fun L j q => s60 _ _ (by omega)) (fun _ _ => rfl) (fun _ _ _ => rfl) rfl
    have e41 : up N5 60 1 0 41 = N5 41 := funext fun i => s60 _ _ (by omega)
    have e42 : up N5 60 1 0 42 = N5 42 := funext fun i => s60 _ _ (by omega)
    have e43 : up N5 60 1 0 43 = N5 43 := funext fun i => s60 _ _ (by omega)
    have e40 : up N5 60 1 0 40 3 = N5 40 3 := s60 _ _ (by omega)
    have tk6 : TK (M 1) (M 0 2) (up N5 60 1 0 41) (up N5 60 1 0 42) (up N5 60 1 0 43) E (N5 40 3) := by rw [e41, e42, e43]; exact tk
    have u1 : ∀ k i, ¬ (k = 0 ∧ i = 5) → up M 0 5 0 k i = M k i := fun k i q => up_ne (by omega)
    have u11 : up M 0 5 0 1 = M 1 := funext fun i => u1 1 i (by omega)
    have u2 : up M 0 5 0 0 2 = M 0 2 := u1 0 2 (by omega)
    have nt1 := tk.2.1
    obtain ⟨M1, r1, r2, r3⟩ := pm_next (d := 2039) (M := up M 0 5 0) (n := N5 40 3) (j := 0) (by rw [u11, u2]; exact tk6) (by rw [u11, u2]; exact t.tr) (by decide) (by omega) (Or.inl (by rw [up_eq]; rfl))
    have f1 : fEm (M 0 81) M M1 := fun k i a _ => (r2 k i a).trans (u1 k i (by omega))
    have lab : ∀ V', fEn (M 0 81) (up N5 60 1 0) (Wv c S V') → ∀ L, L = 80 ∨ L % 128 = 81 → ∀ j, Wv c S V' L j = Wv c S V L j := fun V' f L q j => by
      rw [f L j (by omega) (by omega), s60 L j (by omega), nt L j (by omega) (by omega)]
    refine ⟨t.vg60, by rw [g5]; exact (R5.dr n0 (Int.le_refl _)).g, CT.im (by omega) (fun d3 hd3 => qX4_readFrom fun _ _ _ => vX4_readFrom_0 ⟨by rw [g5]; exact (R5.dr n0 (Int.le_refl _)).g, ?_⟩)⟩
    refine enc_loop (e := 2037) (X := fun Qr => PM 2047 n_encode_0 [b] M Qr) hc hB6 rd6 rr6 b0 (by omega) n0 lt rfl tk6 e40 t.tr (by omega) (fun j V' M' j0 j1 fn fm run => ?_) (fun C V' M' C1 fn fm dk run => ?_) (N5 40 3 - 1).toNat 0 0 0 _ _ M1 (by omega) (by decide) hW7 (fun L k a q => up_ne (by omega)) f1 r3 ⟨up_eq, by decide, by decide, fun i a q => by omega, fun i a q => by omega⟩ (Or.inl rfl) (fun Qr hq => st_encode_0 ⟨fun y => absurd y (by omega), fun _ => ⟨fun _ => ⟨fun y => ⟨by omega, by omega, r1 _ hq⟩, fun y => absurd (by omega) y⟩, fun y => absurd b1 y⟩⟩)
    · obtain ⟨v', tg, ln⟩ := Wr (c := c) (S := S) (V := V') rfl
      have x2 : V' (c 60) 2 = c 40 := by rw [v' _ _ (by decide), fn _ _ (by omega) (by omega), s60 _ _ (by omega)]; exact t5.r2
      have x1 : V' (c 40) 1 = c 42 := by rw [v' _ _ (by decide), fn _ _ (by omega) (by omega)]; exact rr6.t1
      have xp : V' (c 42) j = N5 42 j := by rw [v' _ _ j0, fn _ _ (by omega) (by omega), e42]
      have pr : 0 ≤ N5 42 j ∧ N5 42 j ≤ 3000 := by
        by_cases y : j = N5 40 3 - 1
        · rw [y, tk.2.2.2.1]; omega
        · have ts := (tk.1.1 j j0 (by omega)).1
          have p1 := ts.1
          have p2 := ts.2.1
          have p3 := ts.2.2.1
          omega
      have l3 : N5 40 3 ≤ 3001 := by
        have a := tk.1.2.2.1
        have b := tk.1.2.2.2.2.2
        omega
      rw [x2, x1, xp]
      rw [e42] at run
      refine ⟨fun y => absurd y (by omega), fun _ => ⟨t.vg60, by rw [tg, fn _ _ (by omega) (by omega)]; exact rr6.g40, by rw [tg, fn _ _ (by omega) (by omega)]; exact rr6.g42, j0, by rw [ln, fn _ _ (by omega) (by omega), rr6.n42]; omega, by omega, by omega, ?_⟩⟩
      refine hk _ c S V' (up M' 0 2 0) run hc rfl (fun L q => ⟨rfl, lab V' fn L q⟩) (R6.enc (n := M 0 81) (up_ne (by omega)) fn (fun k i a q => ?_)) (by rw [up_eq]; omega)
      by_cases y : k = 0 ∧ i = 2
      · obtain ⟨rfl, rfl⟩ := y; rw [up_eq, up_eq]
      · rw [up_ne (by omega), up_ne (by omega)]; exact fm k i a q
    · obtain ⟨v', tg, ln⟩ := Wr (c := c) (S := S) (V := V') rfl
      have old : ∀ L k, ¬ (L = 60 ∧ k = 1) → ¬ (L = 128 * M 0 81 + 70 ∧ k = 1) → ¬ ((L = 128 * M 0 81 + 71 ∨ L = 128 * M 0 81 + 72 ∨ L = 128 * M 0 81 + 73) ∧ 0 ≤ k) → Wv c S V' L k = N5 L k := fun L k a q y => (fn L k q y).trans (s60 L k a)
      have x15 : V' (c 60) 15 = c (128 * M 0 81 + 70) := by rw [v' _ _ (by decide), old _ _ (by omega) (by omega) (by omega)]; exact t5.r15
      have x13 : V' (c 60) 13 = c 65 := by rw [v' _ _ (by decide), old _ _ (by omega) (by omega) (by omega)]; exact t5.r13
      have x14 : V' (c 60) 14 = M 0 81 := by rw [v' _ _ (by decide), old _ _ (by omega) (by omega) (by omega)]; exact t5.ng
      have R7 : Rel c (Wv c S V') (up M' 0 2 0) := R6.enc (n := M 0 81) (up_ne (by omega)) fn (fun k i a q => by
        by_cases y : k = 0 ∧ i = 2
        · obtain ⟨rfl, rfl⟩ := y; rw [up_eq, up_eq]
        · rw [up_ne (by omega), up_ne (by omega)]; exact fm k i a q)
      rw [x15, x13, x14]
      refine ⟨fun _ => ⟨t.vg60, by rw [tg, old _ _ (by omega) (by omega) (by omega)]; exact (R5.dr n0 (Int.le_refl _)).g, by rw [tg, old _ _ (by omega) (by omega) (by omega)]; exact t5.g65, n0, by rw [ln, old _ _ (by omega) (by omega) (by omega), t5.n65]; omega, by omega, by omega, by decide, by decide, ?_⟩, fun z => absurd (by decide) z⟩
      intro S10 V10 r10 mc10 ms10 q1 q2 q3 q4 q5
      subst q1 q2 q3 q4 q5
      have hW9 : Wv c S (up (up (up V' (c (128 * M 0 81 + 70)) 0 b) (c 65) (M 0 81) (c (128 * M 0 81 + 70))) (c 60) 14 (M 0 81 + 1)) = up (up (up (Wv c S V') (128 * M 0 81 + 70) 0 b) 65 (M 0 81) (c (128 * M 0 81 + 70))) 60 14 (M 0 81 + 1) := by rw [Wv_up hc (by decide), Wv_up hc n0, Wv_up hc (by decide)]
      have hc1 := Cn_nw (L := 128 * M 0 81 + 198) (t := 5) (n := 0) hc h0
      have hW10 : Wv (upl c (128 * M 0 81 + 198) (S.2.2 + 1)) (nw S 5 0) (clr (up (up (up V' (c (128 * M 0 81 + 70)) 0 b) (c 65) (M 0 81) (c (128 * M 0 81 + 70))) (c 60) 14 (M 0 81 + 1)) (S.2.2 + 1)) = nwl (up (up (up (Wv c S V') (128 * M 0 81 + 70) 0 b) 65 (M 0 81) (c (128 * M 0 81 + 70))) 60 14 (M 0 81 + 1)) (128 * M 0 81 + 198) 5 0 := by rw [Wv_nw hc, hW9]
      have fc1 : ∀ L, L ≠ 128 * M 0 81 + 198 → upl c (128 * M 0 81 + 198) (S.2.2 + 1) L = c L := fun L q => upl_ne q
      have e198 : upl c (128 * M 0 81 + 198) (S.2.2 + 1) (128 * (M 0 81 + 1) + 70) = S.2.2 + 1 := by rw [show 128 * (M 0 81 + 1) + 70 = 128 * M 0 81 + 198 from by omega, upl_eq]
      have s10 : (nw S 5 0).2.2 = S.2.2 + 1 := rfl
      generalize upl c (128 * M 0 81 + 198) (S.2.2 + 1) = c1 at hc1 hW10 fc1 e198
      have ini := fun (Q1 : Int → Sh → Mem → Prop) => ct_msgInit (l := l) (G := G) (Q := Q1) (d := 2046) (m := M 0 81 + 1) hc1 (by omega) hW10 (by rw [show 128 * (M 0 81 + 1) + 70 = 128 * M 0 81 + 198 from by omega, nwl_tag]) (by decide)
      rw [e198] at ini
      refine ⟨by omega, CT.of 2046 3 180 (ini (fun _ S1 V1 => ∃ c2, Cn c2 S1 ∧ (∀ L, ¬ (128 * (M 0 81 + 1) + 71 ≤ L ∧ L ≤ 128 * (M 0 81 + 1) + 73) → c2 L = c1 L) ∧ (∀ L k, ¬ (128 * (M 0 81 + 1) + 71 ≤ L ∧ L ≤ 128 * (M 0 81 + 1) + 73) → ¬ (L = 128 * (M 0 81 + 1) + 70 ∧ (k = 2 ∨ k = 3 ∨ k = 4)) → Wv c2 S1 V1 L k = nwl (up (up (up (Wv c S V') (128 * M 0 81 + 70) 0 b) 65 (M 0 81) (c (128 * M 0 81 + 70))) 60 14 (M 0 81 + 1)) (128 * M 0 81 + 198) 5 0 L k) ∧ (∀ M', Rdr c2 (Wv c2 S1 V1) M' (M 0 81 + 1))) (fun c' S' V'' y1 y2 y3 y4 => ⟨c', y1, y2, y3, y4⟩)) (by decide) (by decide) (by decide) (fun z S1 V1 hq => ?_)⟩
      obtain ⟨c2, hc2, fc2, fN2, dr2⟩ := hq
      have fcc : ∀ L, ¬ (128 * M 0 81 + 198 ≤ L ∧ L ≤ 128 * M 0 81 + 201) → c2 L = c L := fun L q => (fc2 L (by omega)).trans (fc1 L (by omega))
      have e60 : c 60 = c2 60 := (fcc 60 (by omega)).symm
      have c198 : S.2.2 + 1 = c2 (128 * M 0 81 + 198) := by rw [fc2 _ (by omega), ← e198, show 128 * (M 0 81 + 1) + 70 = 128 * M 0 81 + 198 from by omega]
      have fN : ∀ L k, ¬ (L = 60 ∧ k = 14) → ¬ (L = 65 ∧ k = M 0 81) → ¬ (L = 128 * M 0 81 + 70 ∧ k = 0) → ¬ (128 * M 0 81 + 198 ≤ L ∧ L ≤ 128 * M 0 81 + 201) → Wv c2 S1 V1 L k = Wv c S V' L k := fun L k y1 y2 y3 y4 => by
        rw [fN2 L k (by omega) (by omega), nwl_ne (by omega), up_ne (by omega), up_ne (by omega), up_ne (by omega)]
      have f14 : Wv c2 S1 V1 60 14 = M 0 81 + 1 := by rw [fN2 _ _ (by omega) (by omega), nwl_ne (by omega), up_eq]
      obtain ⟨v2, tg2, ln2⟩ := Wr (c := c2) (S := S1) (V := V1) rfl
      have y14 : V1 (c2 60) 14 = M 0 81 + 1 := (v2 _ _ (by decide)).trans f14
      rw [e60, y14]
      refine ⟨by rw [tg2, fN _ _ (by omega) (by omega) (by omega) (by omega), old _ _ (by omega) (by omega) (by omega)]; exact t5.g60, by omega, by omega, ?_⟩
      rw [show M 0 81 + 1 - 1 = M 0 81 from by omega]
      have hW12 : Wv c2 S1 (up V1 (c2 60) 15 (S.2.2 + 1)) = up (Wv c2 S1 V1) 60 15 (S.2.2 + 1) := Wv_up hc2 (by decide)
      refine hk _ c2 S1 _ _ run hc2 e60.symm (fun L q => ⟨fcc L (by omega), fun j => ?_⟩) ?_ (by rw [up_ne (by omega), up_ne (by omega), up_ne (by omega), up_eq]; omega)
      · rw [hW12, up_ne (by omega), fN L j (by omega) (by omega) (by omega) (by omega)]
        exact lab V' fn L q j
      · rw [hW12]
        refine R7.msg (n := M 0 81) (C := C) (b := b) ?_ lt b0 ?_ ?_ fcc (fun L k y1 y2 y3 y4 => ?_) (fun k i y1 y2 y3 => ?_) ?_ ?_ ?_ ?_ ?_ ?_ up_eq ?_
        · rw [up_ne (by omega)]; exact fm 0 81 (by omega) (by omega)
        · rw [up_ne (by omega), fm 0 8 (by omega) (by omega)]; exact b1
        · obtain ⟨z1, z2, z3, z4, z5⟩ := dk
          refine ⟨z1, z2, z3, fun i a q => ?_, fun i a q => ?_⟩
          · rw [up_ne (by omega), up_ne (by omega), up_ne (by omega)]; exact z4 i a q
          · rw [up_ne (by omega)]; exact z5 i a q
        · rw [up_ne (by omega)]; exact fN L k (by omega) y2 y3 y4
        · rw [up_ne (by omega), up_ne (by omega), up_ne (by omega)]
        · rw [up_ne (by omega)]; exact f14
        · rw [up_eq]; exact c198
        · rw [up_ne (by omega), fN2 _ _ (by omega) (by omega), nwl_ne (by omega), up_ne (by omega), up_eq]
        · rw [up_ne (by omega), fN2 _ _ (by omega) (by omega), nwl_ne (by omega), up_ne (by omega), up_ne (by omega), up_eq]
        · rw [up_ne (by omega), up_ne (by omega), up_eq]
        · rw [up_ne (by omega), up_eq]
        · apply Rdr.fr (dr2 M) <;> intros <;> first | rfl | exact up_ne (by omega)
  · rw [t.vng] at ge
    exact same (-2) (fun Q hq => st_encode_0 ⟨fun y => absurd y (by omega), fun _ => ⟨fun _ => ⟨fun y => absurd (by omega) y, fun _ => hq⟩, fun y => absurd b1 y⟩⟩)⟩

