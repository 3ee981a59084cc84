/-! ===== set, map, join ===== -/
theorem nwl_ne {N : Mem} {L t n L' j : Int} (h : L' ≠ L) : nwl N L t n L' j = N L' j := by unfold nwl; rw [if_neg h]
theorem nwl_tag {N : Mem} {L t n : Int} : nwl N L t n L (-1) = t := by unfold nwl; rw [if_pos rfl, if_pos rfl]
theorem nwl_len {N : Mem} {L t n : Int} : nwl N L t n L (-2) = n := by unfold nwl; rw [if_pos rfl, if_neg (by decide), if_pos rfl]
def nSet (N : Mem) (n r b e v x : Int) : Mem := (up (up (up (up (up (up (nwl N (128 * n + 66) 7 0) (128 * n + 66) (3) (r)) (128 * n + 66) (0) (b)) (128 * n + 66) (1) (e)) (128 * n + 66) (2) (v)) (63) (n) (x)) (60) (10) (n + 1))
theorem nSet_ne {N : Mem} {n r b e v x L j : Int} (h : L ≠ 128 * n + 66 ∧ ¬ (L = 63 ∧ j = n) ∧ ¬ (L = 60 ∧ j = 10)) : nSet N n r b e v x L j = N L j := by
  unfold nSet
  rw [up_ne (by omega), up_ne (by omega), up_ne (by omega), up_ne (by omega), up_ne (by omega), up_ne (by omega), nwl_ne (by omega)]
theorem nSet_tag {N : Mem} {n r b e v x : Int} : nSet N n r b e v x (128 * n + 66) (-1) = 7 := by
  unfold nSet
  rw [up_ne (by omega), up_ne (by omega), up_ne (by omega), up_ne (by omega), up_ne (by omega), up_ne (by omega), nwl_tag]
theorem nSet_0 {N : Mem} {n r b e v x : Int} (n0 : 0 ≤ n) : nSet N n r b e v x (128 * n + 66) 0 = b := by
  unfold nSet
  rw [up_ne (by omega), up_ne (by omega), up_ne (by omega), up_ne (by omega), up_eq]
theorem nSet_1 {N : Mem} {n r b e v x : Int} (n0 : 0 ≤ n) : nSet N n r b e v x (128 * n + 66) 1 = e := by
  unfold nSet
  rw [up_ne (by omega), up_ne (by omega), up_ne (by omega), up_eq]
theorem nSet_2 {N : Mem} {n r b e v x : Int} (n0 : 0 ≤ n) : nSet N n r b e v x (128 * n + 66) 2 = v := by
  unfold nSet
  rw [up_ne (by omega), up_ne (by omega), up_eq]
theorem nSet_63 {N : Mem} {n r b e v x : Int} : nSet N n r b e v x 63 n = x := by
  unfold nSet
  rw [up_ne (by omega), up_eq]
theorem nSet_10 {N : Mem} {n r b e v x : Int} : nSet N n r b e v x 60 10 = n + 1 := by
  unfold nSet
  rw [up_eq]
def mSet (M : Mem) (n g v : Int) : Mem := (up (up (up M (70) (n) (g)) (71) (n) (v)) (0) (72) (n + 1))
theorem mSet_ne {M : Mem} {n g v L j : Int} (h : ¬ (L = 70 ∧ j = n) ∧ ¬ (L = 71 ∧ j = n) ∧ ¬ (L = 0 ∧ j = 72)) : mSet M n g v L j = M L j := (up_ne (by omega)).trans ((up_ne (by omega)).trans (up_ne (by omega)))
theorem mSet_0 {M : Mem} {n g v : Int} : mSet M n g v (70) (n) = g := by unfold mSet; rw [up_ne (by omega), up_ne (by omega), up_eq]
theorem mSet_1 {M : Mem} {n g v : Int} : mSet M n g v (71) (n) = v := by unfold mSet; rw [up_ne (by omega), up_eq]
theorem mSet_2 {M : Mem} {n g v : Int} : mSet M n g v (0) (72) = n + 1 := by unfold mSet; rw [up_eq]
theorem Rel.mset {c : Int → Int} {N M : Mem} {r b e v x : Int} (h : Rel c N M) (s1 : M 0 72 < 40) (b0 : 0 ≤ b) (b1 : b < M 0 8) (e0 : 0 ≤ e) (e1 : e < M 10 b) (v0 : 0 ≤ v) (v1 : v < 16777216) : Rel (upl c (128 * M 0 72 + 66) x) (nSet N (M 0 72) r b e v x) (mSet M (M 0 72) (12 * b + e) v) := by
  have q := h.top
  have n0 := q.ns0
  refine ⟨?_, ?_, ?_, fun t t0 t1 => ?_, fun t t0 t1 => ?_, fun t t0 t1 => ?_, fun t t0 t1 => ?_, fun t t0 t1 => ?_⟩
  ·
    refine ⟨?_, ?_, ?_, ?_, ?_, ?_, ?_, ?_, ?_, ?_, ?_, ?_, ?_, ?_, ?_, ?_, ?_, ?_, ?_, ?_, ?_, ?_, ?_, ?_, ?_, ?_, ?_, ?_, ?_, ?_, ?_, ?_, ?_, ?_, ?_, ?_, ?_, ?_, ?_⟩
    · have w := q.g60
      try simp (disch := omega) only [nSet_ne, mSet_ne]
      exact w
    · have w := q.g61
      try simp (disch := omega) only [nSet_ne, mSet_ne]
      exact w
    · have w := q.n61
      try simp (disch := omega) only [nSet_ne, mSet_ne]
      exact w
    · have w := q.g62
      try simp (disch := omega) only [nSet_ne, mSet_ne]
      exact w
    · have w := q.n62
      try simp (disch := omega) only [nSet_ne, mSet_ne]
      exact w
    · have w := q.g63
      try simp (disch := omega) only [nSet_ne, mSet_ne]
      exact w
    · have w := q.n63
      try simp (disch := omega) only [nSet_ne, mSet_ne]
      exact w
    · have w := q.g64
      try simp (disch := omega) only [nSet_ne, mSet_ne]
      exact w
    · have w := q.n64
      try simp (disch := omega) only [nSet_ne, mSet_ne]
      exact w
    · have w := q.g65
      try simp (disch := omega) only [nSet_ne, mSet_ne]
      exact w
    · have w := q.n65
      try simp (disch := omega) only [nSet_ne, mSet_ne]
      exact w
    · have w := q.r0
      simp (disch := omega) only [nSet_ne, mSet_ne, upl_ne]
      exact w
    · have w := q.r2
      simp (disch := omega) only [nSet_ne, mSet_ne, upl_ne]
      exact w
    · have w := q.r3
      simp (disch := omega) only [nSet_ne, mSet_ne, upl_ne]
      exact w
    · have w := q.r4
      simp (disch := omega) only [nSet_ne, mSet_ne, upl_ne]
      exact w
    · have w := q.r5
      simp (disch := omega) only [nSet_ne, mSet_ne, upl_ne]
      exact w
    · have w := q.r9
      simp (disch := omega) only [nSet_ne, mSet_ne, upl_ne]
      exact w
    · have w := q.r11
      simp (disch := omega) only [nSet_ne, mSet_ne, upl_ne]
      exact w
    · have w := q.r13
      simp (disch := omega) only [nSet_ne, mSet_ne, upl_ne]
      exact w
    · have w := q.r15
      simp (disch := omega) only [nSet_ne, mSet_ne, upl_ne]
      exact w
    · have w := q.tl
      try simp (disch := omega) only [nSet_ne, mSet_ne]
      exact w
    · have w := q.tl0
      try simp (disch := omega) only [nSet_ne, mSet_ne]
      exact w
    · have w := q.tl1
      try simp (disch := omega) only [nSet_ne, mSet_ne]
      exact w
    · intro j j0 j1
      rw [mSet_ne (by omega)] at j1
      rw [nSet_ne (by omega), mSet_ne (by omega)]
      exact q.tb j j0 j1
    · intro j j0 j1
      rw [mSet_ne (by omega)] at j1
      rw [mSet_ne (by omega)]
      exact q.tr j j0 j1
    · have w := q.nb
      try simp (disch := omega) only [nSet_ne, mSet_ne]
      exact w
    · have w := q.nb0
      try simp (disch := omega) only [nSet_ne, mSet_ne]
      exact w
    · have w := q.nb1
      try simp (disch := omega) only [nSet_ne, mSet_ne]
      exact w
    · have w := q.lf
      try simp (disch := omega) only [nSet_ne, mSet_ne]
      exact w
    · have w := q.lo
      try simp (disch := omega) only [nSet_ne, mSet_ne]
      exact w
    · rw [nSet_10, mSet_2]
    · rw [mSet_2]; omega
    · rw [mSet_2]; omega
    · have w := q.nm
      try simp (disch := omega) only [nSet_ne, mSet_ne]
      exact w
    · have w := q.nm0
      try simp (disch := omega) only [nSet_ne, mSet_ne]
      exact w
    · have w := q.nm1
      try simp (disch := omega) only [nSet_ne, mSet_ne]
      exact w
    · have w := q.ng
      try simp (disch := omega) only [nSet_ne, mSet_ne]
      exact w
    · have w := q.ng0
      try simp (disch := omega) only [nSet_ne, mSet_ne]
      exact w
    · refine ⟨?_, q.xe.fr (by simp (disch := omega) only [mSet_ne]) (by simp (disch := omega) only [mSet_ne]) (fun k j hk => by simp (disch := omega) only [mSet_ne])⟩
      have w := q.ng1
      try simp (disch := omega) only [nSet_ne, mSet_ne]
      exact w
  · apply Rwk.fr h.wk <;> intros <;> first | rfl | exact upl_ne (by omega) | exact nSet_ne (by omega) | exact mSet_ne (by omega) | exact funext fun _ => mSet_ne (by omega)
  · apply Rrd.fr h.rd <;> intros <;> first | rfl | exact upl_ne (by omega) | exact nSet_ne (by omega) | exact mSet_ne (by omega) | exact funext fun _ => mSet_ne (by omega)
  · rw [mSet_2] at t1
    by_cases y : t = M 0 72
    · subst y
      refine ⟨t0, ?_, nSet_tag, ?_, ?_, ?_, ?_, ?_, ?_, ?_, ?_⟩
      · rw [nSet_63, upl_eq]
      · rw [nSet_0 n0, nSet_1 n0, mSet_0]
      · rw [nSet_0 n0]; exact b0
      · rw [nSet_0 n0, mSet_ne (by omega)]; exact b1
      · rw [nSet_1 n0]; exact e0
      · rw [nSet_0 n0, nSet_1 n0, mSet_ne (by omega)]; exact e1
      · rw [nSet_2 n0, mSet_1]
      · rw [mSet_1]; exact v0
      · rw [mSet_1]; exact v1
    · have w0 := h.st t0 (by omega : t < M 0 72)
      refine ⟨?_, ?_, ?_, ?_, ?_, ?_, ?_, ?_, ?_, ?_, ?_⟩
      · have w := w0.i0
        try simp (disch := omega) only [nSet_ne, mSet_ne]
        exact w
      · rw [nSet_ne (by omega), upl_ne (by omega)]; exact w0.r
      · have w := w0.g
        try simp (disch := omega) only [nSet_ne, mSet_ne]
        exact w
      · have w := w0.en
        try simp (disch := omega) only [nSet_ne, mSet_ne]
        exact w
      · have w := w0.b0
        try simp (disch := omega) only [nSet_ne, mSet_ne]
        exact w
      · have w := w0.b1
        try simp (disch := omega) only [nSet_ne, mSet_ne]
        exact w
      · have w := w0.e0
        try simp (disch := omega) only [nSet_ne, mSet_ne]
        exact w
      · have w := w0.e1
        try simp (disch := omega) only [nSet_ne, mSet_ne]
        exact w
      · have w := w0.bt
        try simp (disch := omega) only [nSet_ne, mSet_ne]
        exact w
      · have w := w0.bt0
        try simp (disch := omega) only [nSet_ne, mSet_ne]
        exact w
      · have w := w0.bt1
        try simp (disch := omega) only [nSet_ne, mSet_ne]
        exact w
  · rw [mSet_ne (by omega)] at t1
    apply Rmp.fr (h.mp t0 t1) <;> intros <;> first | rfl | exact upl_ne (by omega) | exact nSet_ne (by omega) | exact mSet_ne (by omega) | exact funext fun _ => mSet_ne (by omega)
  · rw [mSet_ne (by omega)] at t1
    apply Rdr.fr (h.dr t0 t1) <;> intros <;> first | rfl | exact upl_ne (by omega) | exact nSet_ne (by omega) | exact mSet_ne (by omega) | exact funext fun _ => mSet_ne (by omega)
  · rw [mSet_ne (by omega)] at t1
    apply Rms.fr (h.ms t0 t1) <;> intros <;> first | rfl | exact upl_ne (by omega) | exact nSet_ne (by omega) | exact mSet_ne (by omega) | exact funext fun _ => mSet_ne (by omega)
  · rw [mSet_ne (by omega)] at t1
    exact (h.bk t0 t1).fr t0 (fun L j hL => nSet_ne (by omega)) (fun L hL => upl_ne (by omega)) (fun k j hk => mSet_ne (by unfold bkk at hk; omega)) (mSet_ne (by omega))
section NEWSET
variable {l : Launch} {G : GT} {Q : Int → Sh → Mem → Prop} {c : Int → Int} {S : Sh} {V M : Mem} {d mc ms : Nat}
theorem ct_selInit {x0 b e v L : Int} (hc : Cn c S) (h0 : 0 ≤ S.2.2) (hx : x0 = S.2.2 + 1) (hd : 1 ≤ d) (hk : ∀ S' V' r, Cn (upl c L (S.2.2 + 1)) S' → S'.2.2 = S.2.2 + 2 → Wv (upl c L (S.2.2 + 1)) S' V' = up (up (up (up (nwl (Wv c S V) L 7 0) L 3 r) L 0 b) L 1 e) L 2 v → Q 0 S' V') : Ct l G bX6_init Q d 1 0 [vr x0, vi b, vi e, vi v] (nw S 7 0) (clr V (S.2.2 + 1)) := by
  have hc1 : Cn (upl c L (S.2.2 + 1)) (nw S 7 0) := Cn_nw hc h0
  have hW1 : Wv (upl c L (S.2.2 + 1)) (nw S 7 0) (clr V (S.2.2 + 1)) = nwl (Wv c S V) L 7 0 := Wv_nw hc
  have ex : x0 = upl c L (S.2.2 + 1) L := by rw [upl_eq]; exact hx
  refine qX6_init fun _ _ _ _ => vX6_init_0 ⟨by omega, hd, by decide, by decide, by decide, by decide, ?_⟩
  intro S1 V1 r1 mc1 ms1 e1 e2 e3 e4 e5
  subst e2 e3 e1
  have hc2 := Cn_nw0 (t := 20) (n := 0) hc1
  have hW2 := (Wv_nw0 (V := clr V (S.2.2 + 1)) (t := 20) (n := 0) hc1).trans hW1
  rw [ex]
  refine ⟨by rw [(Wr hW2).2.1, nwl_tag], hk _ _ ((nw S 7 0).2.2 + 1) hc2 ?_ ?_⟩
  · show S.2.2 + 1 + 1 = S.2.2 + 2
    omega
  · rw [Wv_up hc2 (by decide), Wv_up hc2 (by decide), Wv_up hc2 (by decide), Wv_up hc2 (by decide), hW2]
theorem ct_keepSet {x0 x1 b e v r : Int} (hR : Rel c (Wv c S V) M) {c1 : Int → Int} {S1 : Sh} {V1 : Mem} {x : Int} (ec : c1 = upl c (128 * M 0 72 + 66) x) (hc1 : Cn c1 S1) (hW : Wv c1 S1 V1 = up (up (up (up (nwl (Wv c S V) (128 * M 0 72 + 66) 7 0) (128 * M 0 72 + 66) 3 r) (128 * M 0 72 + 66) 0 b) (128 * M 0 72 + 66) 1 e) (128 * M 0 72 + 66) 2 v) (h0 : x0 = c 60) (h1 : x1 = x) (s1 : M 0 72 < 40) (hk : ∀ V', Wv c1 S1 V' = nSet (Wv c S V) (M 0 72) r b e v x → Q (M 0 72) S1 V') : Ct l G bX11_keepSet Q d mc ms [vr x0, vr x1] S1 V1 := by
  have t := hR.top
  have n0 := t.ns0
  have un : ∀ L j, L ≠ 128 * M 0 72 + 66 → up (up (up (up (nwl (Wv c S V) (128 * M 0 72 + 66) 7 0) (128 * M 0 72 + 66) 3 r) (128 * M 0 72 + 66) 0 b) (128 * M 0 72 + 66) 1 e) (128 * M 0 72 + 66) 2 v L j = Wv c S V L j := fun L j q => by rw [up_ne (by omega), up_ne (by omega), up_ne (by omega), up_ne (by omega), nwl_ne q]
  have e60 : c 60 = c1 60 := by rw [ec, upl_ne (by omega)]
  have e63 : c 63 = c1 63 := by rw [ec, upl_ne (by omega)]
  have ex : x = c1 (128 * M 0 72 + 66) := by rw [ec, upl_eq]
  subst h0 h1
  obtain ⟨v', tg, ln⟩ := Wr hW
  have a9 : V1 (c1 60) 9 = c1 63 := by rw [v' _ _ (by decide), un _ _ (by omega), t.r9, e63]
  have a10 : V1 (c1 60) 10 = M 0 72 := by rw [v' _ _ (by decide), un _ _ (by omega), t.ns]
  have g60 : S1.1 (c1 60) = 12 := by rw [tg, un _ _ (by omega), t.g60]
  have g63 : S1.1 (c1 63) = 36 := by rw [tg, un _ _ (by omega), t.g63]
  have n63 : S1.2.1 (c1 63) = 40 := by rw [ln, un _ _ (by omega), t.n63]
  have g66 : S1.1 (c1 (128 * M 0 72 + 66)) = 7 := by rw [tg, up_ne (by omega), up_ne (by omega), up_ne (by omega), up_ne (by omega), nwl_tag]
  refine qX11_keepSet fun _ _ => vX11_keepSet_0 ?_
  rw [e60, a9, a10, n63]
  refine ⟨g60, g63, by rw [ex]; exact g66, n0, s1, by omega, by omega, by omega, by omega, ?_⟩
  rw [show M 0 72 + 1 - 1 = M 0 72 from by omega]
  refine hk _ ?_
  rw [Wv_up hc1 (by decide), Wv_up hc1 n0, hW]
  rfl
end NEWSET
theorem set_lab {c : Int → Int} {N : Mem} {n r b e v x : Int} : ∀ L, L = 80 ∨ L % 128 = 81 → upl c (128 * n + 66) x L = c L ∧ ∀ j, nSet N n r b e v x L j = N L j := fun L q => ⟨upl_ne (by omega), fun j => nSet_ne (by omega)⟩
theorem pos_S {c : Int → Int} {S : Sh} (hc : Cn c S) (h : 0 ≤ c 60) : 0 ≤ S.2.2 := by
  have := hc.2 60
  omega
theorem call_set (b e : Int) : CallOK CI bX11_set n_set_0 [vi b, vi e] [b, e] := call_gen fun l G c S V M hc hR => ⟨2, 4, by decide, by have := hR.top.tl0; omega, fun Q hk => qX11_set fun p60 _ _ => vX11_set_0 <| by
  have t := hR.top
  have n1 := t.nb1
  have tl := t.tl0
  have ns1 := t.ns1
  have ns0 := t.ns0
  have h0 := pos_S hc p60
  have same : ∀ z, RunM 2047 n_set_0 [b, e] M z M → Q z S V := fun z r => hk z c S V M r hc rfl (fun _ _ => ⟨rfl, fun _ => rfl⟩) hR (by omega)
  refine ⟨t.vg60, CT.pu (by decide) (fun d1 hd1 => ct_enumOf hc hR (by omega) (fun b0 b1 e0 e1 => ⟨rfl, rfl, fun _ => ⟨t.vg60, ?_⟩, fun z => absurd (hc.2 _).1 z⟩) (fun h => ⟨rfl, rfl, fun z => absurd rfl z, fun _ => same (-1) (fun Q hq => st_set_0 (pm_isEnum n1 (fun a1 a2 a3 a4 => absurd ⟨a1, a2, a3, a4⟩ h) (fun _ => ⟨fun z => absurd rfl z, fun _ => hq⟩)))⟩))⟩
  have ne1 := (hR.bk b0 b1).bk.ne1
  rw [t.vns]
  refine ⟨fun lt => CT.im (by decide) (fun d2 hd2 => ct_usedWell (dm := 2046) hc hR b0 b1 (Or.inl ⟨by omega, e0, e1⟩) (by omega) (by decide) (fun V' M' gm U' run E F nu d0 f0 t0 w1 => ⟨fun _ => ⟨by decide, by decide, ?_⟩, fun z => absurd (by decide) z⟩) (fun V' M' gm U' run E F nu f => ⟨fun z => absurd rfl z, fun _ => ?_⟩)), fun ge => same (-2) (fun Q hq => st_set_0 (pm_isEnum n1 (fun _ _ _ _ => ⟨fun _ => ⟨fun z => absurd (by omega) z, fun _ => hq⟩, fun z => absurd (by decide) z⟩) (fun h => absurd ⟨b0, b1, e0, e1⟩ h)))⟩
  · have R' := hR.ev F E nu
    have m72 : M' 0 72 = M 0 72 := F.m0 (by omega)
    have m8 : M' 0 8 = M 0 8 := F.m0 (by omega)
    have m2 : M' 0 2 = M 0 2 := F.m0 (by omega)
    have m10 : M' 10 b = M 10 b := F.st (by omega)
    intro S8 V8 r8 mc8 ms8 q1 q2 q3 q4 q5
    subst q1 q2 q3 q4 q5
    refine ⟨by omega, CT.of 2046 1 0 (ct_selInit (L := 128 * M' 0 72 + 66) hc h0 rfl (by decide) (fun S1 V1 r hc1 _ hW1 => ?_)) (by decide) (by decide) (by decide) (fun z S1 V1 hq => hq)⟩
    refine ⟨?_, CT.im (by decide) (fun d3 hd3 => ct_keepSet R' rfl hc1 hW1 rfl rfl (by omega) (fun V2 hW2 => ?_))⟩
    · rw [show c 60 = upl c (128 * M' 0 72 + 66) (S.2.2 + 1) 60 from by rw [upl_ne (by omega)], (Wr hW1).2.1, up_ne (by omega), up_ne (by omega), up_ne (by omega), up_ne (by omega), nwl_ne (by omega)]
      exact R'.top.g60
    · refine hk _ _ S1 V2 (mSet M' (M' 0 72) (12 * b + e) 0) (fun Q hq => st_set_0 (pm_isEnum n1 (fun _ _ _ _ => ⟨fun _ => ⟨fun _ => run _ ⟨fun _ => ⟨by omega, by omega, by omega, by omega, by omega, by omega, by omega, by omega, by omega, by omega, ?_⟩, fun z => absurd (by decide) z⟩, fun z => absurd (by omega) z⟩, fun z => absurd (by decide) z⟩) (fun h => absurd ⟨b0, b1, e0, e1⟩ h))) hc1 (upl_ne (by omega)) (fun L q => ?_) ?_ ?_
      · rw [show M' 0 72 + 1 - 1 = M' 0 72 from by omega]
        exact hq
      · rw [hW2]
        have s := set_lab (c := c) (N := Wv c S V') (n := M' 0 72) (r := r) (b := b) (e := e) (v := 0) (x := S.2.2 + 1) L q
        exact ⟨s.1, fun j => (s.2 j).trans (F.1 L j (by omega) (by unfold bkL; omega))⟩
      · rw [hW2]
        exact R'.mset (by omega) b0 (by omega) e0 (by omega) (by decide) (by decide)
      · rw [mSet_ne (by omega)]
        omega
  · exact hk (-3) c S V' M' (fun Q hq => st_set_0 (pm_isEnum n1 (fun _ _ _ _ => ⟨fun _ => ⟨fun _ => run _ ⟨fun z => absurd rfl z, fun _ => hq⟩, fun z => absurd (by omega) z⟩, fun z => absurd (by decide) z⟩) (fun h => absurd ⟨b0, b1, e0, e1⟩ h))) hc rfl (fun L q => ⟨rfl, fun j => F.1 L j (by omega) (by unfold bkL; omega)⟩) (hR.ev F E nu) (by rw [F.m0 (by omega)]; omega)⟩

