/-! ===== map ===== -/
def nMp0 (N : Mem) (n r b e : Int) : Mem := (nwl (up (up (up (up (nwl N (128 * n + 67) 7 0) (128 * n + 67) 3 r) (128 * n + 67) 0 b) (128 * n + 67) 1 e) (128 * n + 67) 2 0) (128 * n + 68) 20 24)
def nMap (N : Mem) (n r b e x y : Int) : Mem := up (up (up (nMp0 N n r b e) (128 * n + 67) 3 y) 64 n x) 60 12 (n + 1)
theorem nMp0_ne {N : Mem} {n r b e L j : Int} (h : L ≠ 128 * n + 67 ∧ L ≠ 128 * n + 68) : nMp0 N n r b e L j = N L j := by
  unfold nMp0
  rw [nwl_ne (by omega), up_ne (by omega), up_ne (by omega), up_ne (by omega), up_ne (by omega), nwl_ne (by omega)]
theorem nMap_ne {N : Mem} {n r b e x y L j : Int} (h : L ≠ 128 * n + 67 ∧ L ≠ 128 * n + 68 ∧ ¬ (L = 64 ∧ j = n) ∧ ¬ (L = 60 ∧ j = 12)) : nMap N n r b e x y L j = N L j := by
  unfold nMap
  rw [up_ne (by omega), up_ne (by omega), up_ne (by omega), nMp0_ne (by omega)]
theorem nMap_tag {N : Mem} {n r b e x y : Int} : nMap N n r b e x y (128 * n + 67) (-1) = 7 := by
  unfold nMap nMp0
  rw [up_ne (by omega), up_ne (by omega), up_ne (by omega), nwl_ne (by omega), up_ne (by omega), up_ne (by omega), up_ne (by omega), up_ne (by omega), nwl_tag]
theorem nMap_0 {N : Mem} {n r b e x y : Int} (n0 : 0 ≤ n) : nMap N n r b e x y (128 * n + 67) 0 = b := by
  unfold nMap nMp0
  rw [up_ne (by omega), up_ne (by omega), up_ne (by omega), nwl_ne (by omega), up_ne (by omega), up_ne (by omega), up_eq]
theorem nMap_1 {N : Mem} {n r b e x y : Int} (n0 : 0 ≤ n) : nMap N n r b e x y (128 * n + 67) 1 = e := by
  unfold nMap nMp0
  rw [up_ne (by omega), up_ne (by omega), up_ne (by omega), nwl_ne (by omega), up_ne (by omega), up_eq]
theorem nMap_2 {N : Mem} {n r b e x y : Int} (n0 : 0 ≤ n) : nMap N n r b e x y (128 * n + 67) 2 = 0 := by
  unfold nMap nMp0
  rw [up_ne (by omega), up_ne (by omega), up_ne (by omega), nwl_ne (by omega), up_eq]
theorem nMap_3 {N : Mem} {n r b e x y : Int} (n0 : 0 ≤ n) : nMap N n r b e x y (128 * n + 67) 3 = y := by
  unfold nMap
  rw [up_ne (by omega), up_ne (by omega), up_eq]
theorem nMap_t8 {N : Mem} {n r b e x y : Int} : nMap N n r b e x y (128 * n + 68) (-1) = 20 := by
  unfold nMap nMp0
  rw [up_ne (by omega), up_ne (by omega), up_ne (by omega), nwl_tag]
theorem nMap_l8 {N : Mem} {n r b e x y : Int} : nMap N n r b e x y (128 * n + 68) (-2) = 24 := by
  unfold nMap nMp0
  rw [up_ne (by omega), up_ne (by omega), up_ne (by omega), nwl_len]
theorem nMap_64 {N : Mem} {n r b e x y : Int} : nMap N n r b e x y 64 n = x := by
  unfold nMap
  rw [up_ne (by omega), up_eq]
theorem nMap_12 {N : Mem} {n r b e x y : Int} : nMap N n r b e x y 60 12 = n + 1 := by
  unfold nMap
  rw [up_eq]
def mMap (M : Mem) (n g : Int) : Mem := (up (up (up M (73) (n) (g)) (74) (n) (0)) (0) (76) (n + 1))
theorem mMap_ne {M : Mem} {n g L j : Int} (h : ¬ (L = 73 ∧ j = n) ∧ ¬ (L = 74 ∧ j = n) ∧ ¬ (L = 0 ∧ j = 76)) : mMap M n g L j = M L j := (up_ne (by omega)).trans ((up_ne (by omega)).trans (up_ne (by omega)))
theorem mMap_0 {M : Mem} {n g : Int} : mMap M n g (73) (n) = g := by unfold mMap; rw [up_ne (by omega), up_ne (by omega), up_eq]
theorem mMap_1 {M : Mem} {n g : Int} : mMap M n g (74) (n) = 0 := by unfold mMap; rw [up_ne (by omega), up_eq]
theorem mMap_2 {M : Mem} {n g : Int} : mMap M n g (0) (76) = n + 1 := by unfold mMap; rw [up_eq]
theorem Rel.mmap {c : Int → Int} {N M : Mem} {r b e x y : Int} (h : Rel c N M) (s1 : M 0 76 < 10) (b0 : 0 ≤ b) (b1 : b < M 0 8) (e0 : 0 ≤ e) (e1 : e < M 10 b) : Rel (upl (upl c (128 * M 0 76 + 67) x) (128 * M 0 76 + 68) y) (nMap N (M 0 76) r b e x y) (mMap M (M 0 76) (12 * b + e)) := by
  have q := h.top
  have n0 := q.nm0
  refine ⟨?_, ?_, ?_, fun t t0 t1 => ?_, fun t t0 t1 => ?_, fun t t0 t1 => ?_, fun t t0 t1 => ?_, fun t t0 t1 => ?_⟩
  ·
    refine ⟨?_, ?_, ?_, ?_, ?_, ?_, ?_, ?_, ?_, ?_, ?_, ?_, ?_, ?_, ?_, ?_, ?_, ?_, ?_, ?_, ?_, ?_, ?_, ?_, ?_, ?_, ?_, ?_, ?_, ?_, ?_, ?_, ?_, ?_, ?_, ?_, ?_, ?_, ?_⟩
    · have w := q.g60
      try simp (disch := omega) only [nMap_ne, mMap_ne]
      exact w
    · have w := q.g61
      try simp (disch := omega) only [nMap_ne, mMap_ne]
      exact w
    · have w := q.n61
      try simp (disch := omega) only [nMap_ne, mMap_ne]
      exact w
    · have w := q.g62
      try simp (disch := omega) only [nMap_ne, mMap_ne]
      exact w
    · have w := q.n62
      try simp (disch := omega) only [nMap_ne, mMap_ne]
      exact w
    · have w := q.g63
      try simp (disch := omega) only [nMap_ne, mMap_ne]
      exact w
    · have w := q.n63
      try simp (disch := omega) only [nMap_ne, mMap_ne]
      exact w
    · have w := q.g64
      try simp (disch := omega) only [nMap_ne, mMap_ne]
      exact w
    · have w := q.n64
      try simp (disch := omega) only [nMap_ne, mMap_ne]
      exact w
    · have w := q.g65
      try simp (disch := omega) only [nMap_ne, mMap_ne]
      exact w
    · have w := q.n65
      try simp (disch := omega) only [nMap_ne, mMap_ne]
      exact w
    · have w := q.r0
      simp (disch := omega) only [nMap_ne, mMap_ne, upl_ne]
      exact w
    · have w := q.r2
      simp (disch := omega) only [nMap_ne, mMap_ne, upl_ne]
      exact w
    · have w := q.r3
      simp (disch := omega) only [nMap_ne, mMap_ne, upl_ne]
      exact w
    · have w := q.r4
      simp (disch := omega) only [nMap_ne, mMap_ne, upl_ne]
      exact w
    · have w := q.r5
      simp (disch := omega) only [nMap_ne, mMap_ne, upl_ne]
      exact w
    · have w := q.r9
      simp (disch := omega) only [nMap_ne, mMap_ne, upl_ne]
      exact w
    · have w := q.r11
      simp (disch := omega) only [nMap_ne, mMap_ne, upl_ne]
      exact w
    · have w := q.r13
      simp (disch := omega) only [nMap_ne, mMap_ne, upl_ne]
      exact w
    · have w := q.r15
      simp (disch := omega) only [nMap_ne, mMap_ne, upl_ne]
      exact w
    · have w := q.tl
      try simp (disch := omega) only [nMap_ne, mMap_ne]
      exact w
    · have w := q.tl0
      try simp (disch := omega) only [nMap_ne, mMap_ne]
      exact w
    · have w := q.tl1
      try simp (disch := omega) only [nMap_ne, mMap_ne]
      exact w
    · intro j j0 j1
      rw [mMap_ne (by omega)] at j1
      rw [nMap_ne (by omega), mMap_ne (by omega)]
      exact q.tb j j0 j1
    · intro j j0 j1
      rw [mMap_ne (by omega)] at j1
      rw [mMap_ne (by omega)]
      exact q.tr j j0 j1
    · have w := q.nb
      try simp (disch := omega) only [nMap_ne, mMap_ne]
      exact w
    · have w := q.nb0
      try simp (disch := omega) only [nMap_ne, mMap_ne]
      exact w
    · have w := q.nb1
      try simp (disch := omega) only [nMap_ne, mMap_ne]
      exact w
    · have w := q.lf
      try simp (disch := omega) only [nMap_ne, mMap_ne]
      exact w
    · have w := q.lo
      try simp (disch := omega) only [nMap_ne, mMap_ne]
      exact w
    · have w := q.ns
      try simp (disch := omega) only [nMap_ne, mMap_ne]
      exact w
    · have w := q.ns0
      try simp (disch := omega) only [nMap_ne, mMap_ne]
      exact w
    · have w := q.ns1
      try simp (disch := omega) only [nMap_ne, mMap_ne]
      exact w
    · rw [nMap_12, mMap_2]
    · rw [mMap_2]; omega
    · rw [mMap_2]; omega
    · have w := q.ng
      try simp (disch := omega) only [nMap_ne, mMap_ne]
      exact w
    · have w := q.ng0
      try simp (disch := omega) only [nMap_ne, mMap_ne]
      exact w
    · refine ⟨?_, q.xe.fr (by simp (disch := omega) only [mMap_ne]) (by simp (disch := omega) only [mMap_ne]) (fun k j hk => by simp (disch := omega) only [mMap_ne])⟩
      have w := q.ng1
      try simp (disch := omega) only [nMap_ne, mMap_ne]
      exact w
  · apply Rwk.fr h.wk <;> intros <;> first | rfl | exact (upl_ne (by omega)).trans (upl_ne (by omega)) | exact nMap_ne (by omega) | exact mMap_ne (by omega) | exact funext fun _ => mMap_ne (by omega)
  · apply Rrd.fr h.rd <;> intros <;> first | rfl | exact (upl_ne (by omega)).trans (upl_ne (by omega)) | exact nMap_ne (by omega) | exact mMap_ne (by omega) | exact funext fun _ => mMap_ne (by omega)
  · rw [mMap_ne (by omega)] at t1
    apply Rst.fr (h.st t0 t1) <;> intros <;> first | rfl | exact (upl_ne (by omega)).trans (upl_ne (by omega)) | exact nMap_ne (by omega) | exact mMap_ne (by omega) | exact funext fun _ => mMap_ne (by omega)
  · rw [mMap_2] at t1
    by_cases y : t = M 0 76
    · subst y
      refine ⟨t0, ?_, nMap_tag, ?_, ?_, ?_, ?_, ?_, ?_, ?_, ?_, ?_, nMap_t8, nMap_l8, ?_⟩
      · rw [nMap_64, upl_ne (by omega), upl_eq]
      · rw [nMap_0 n0, nMap_1 n0, mMap_0]
      · rw [nMap_0 n0]; exact b0
      · rw [nMap_0 n0, mMap_ne (by omega)]; exact b1
      · rw [nMap_1 n0]; exact e0
      · rw [nMap_0 n0, nMap_1 n0, mMap_ne (by omega)]; exact e1
      · rw [nMap_2 n0, mMap_1]
      · rw [mMap_1]; decide
      · rw [mMap_1]; decide
      · rw [nMap_3 n0, upl_eq]
      · intro i i0 i1 hb
        rw [mMap_1] at hb
        simp at hb
    · have w0 := h.mp t0 (by omega : t < M 0 76)
      refine ⟨?_, ?_, ?_, ?_, ?_, ?_, ?_, ?_, ?_, ?_, ?_, ?_, ?_, ?_, ?_⟩
      · have w := w0.i0
        try simp (disch := omega) only [nMap_ne, mMap_ne]
        exact w
      · rw [nMap_ne (by omega), upl_ne (by omega), upl_ne (by omega)]; exact w0.r
      · have w := w0.g
        try simp (disch := omega) only [nMap_ne, mMap_ne]
        exact w
      · have w := w0.en
        try simp (disch := omega) only [nMap_ne, mMap_ne]
        exact w
      · have w := w0.b0
        try simp (disch := omega) only [nMap_ne, mMap_ne]
        exact w
      · have w := w0.b1
        try simp (disch := omega) only [nMap_ne, mMap_ne]
        exact w
      · have w := w0.e0
        try simp (disch := omega) only [nMap_ne, mMap_ne]
        exact w
      · have w := w0.e1
        try simp (disch := omega) only [nMap_ne, mMap_ne]
        exact w
      · have w := w0.bt
        try simp (disch := omega) only [nMap_ne, mMap_ne]
        exact w
      · have w := w0.bt0
        try simp (disch := omega) only [nMap_ne, mMap_ne]
        exact w
      · have w := w0.bt1
        try simp (disch := omega) only [nMap_ne, mMap_ne]
        exact w
      · rw [nMap_ne (by omega), upl_ne (by omega), upl_ne (by omega)]; exact w0.rv
      · have w := w0.gv
        try simp (disch := omega) only [nMap_ne, mMap_ne]
        exact w
      · have w := w0.nv
        try simp (disch := omega) only [nMap_ne, mMap_ne]
        exact w
      · intro i i0 i1 hb
        rw [mMap_ne (by omega)] at hb
        rw [nMap_ne (by omega), mMap_ne (by omega)]
        exact w0.v i i0 i1 hb
  · rw [mMap_ne (by omega)] at t1
    apply Rdr.fr (h.dr t0 t1) <;> intros <;> first | rfl | exact (upl_ne (by omega)).trans (upl_ne (by omega)) | exact nMap_ne (by omega) | exact mMap_ne (by omega) | exact funext fun _ => mMap_ne (by omega)
  · rw [mMap_ne (by omega)] at t1
    apply Rms.fr (h.ms t0 t1) <;> intros <;> first | rfl | exact (upl_ne (by omega)).trans (upl_ne (by omega)) | exact nMap_ne (by omega) | exact mMap_ne (by omega) | exact funext fun _ => mMap_ne (by omega)
  · rw [mMap_ne (by omega)] at t1
    exact (h.bk t0 t1).fr t0 (fun L j hL => nMap_ne (by omega)) (fun L hL => (upl_ne (by omega)).trans (upl_ne (by omega))) (fun k j hk => mMap_ne (by unfold bkk at hk; omega)) (mMap_ne (by omega))
theorem map_lab {c : Int → Int} {N : Mem} {n r b e x y : Int} : ∀ L, L = 80 ∨ L % 128 = 81 → upl (upl c (128 * n + 67) x) (128 * n + 68) y L = c L ∧ ∀ j, nMap N n r b e x y L j = N L j := fun L q => ⟨(upl_ne (by omega)).trans (upl_ne (by omega)), fun j => nMap_ne (by omega)⟩
theorem call_map (b e : Int) : CallOK CI bX11_map n_map_0 [vi b, vi e] [b, e] := call_gen fun l G c S V M hc hR => ⟨3, 28, by decide, by have := hR.top.tl0; omega, fun Q hk => qX11_map fun p60 _ _ => vX11_map_0 <| by
  have t := hR.top
  have n1 := t.nb1
  have tl := t.tl0
  have ns1 := t.nm1
  have ns0 := t.nm0
  have h0 := pos_S hc p60
  have same : ∀ z, RunM 2047 n_map_0 [b, e] M z M → Q z S V := fun z r => hk z c S V M r hc rfl (fun _ _ => ⟨rfl, fun _ => rfl⟩) hR (by omega)
  refine ⟨t.vg60, CT.pu (by decide) (fun d1 hd1 => ct_enumOf hc hR (by omega) (fun b0 b1 e0 e1 => ⟨rfl, rfl, fun _ => ⟨t.vg60, ?_⟩, fun z => absurd (hc.2 _).1 z⟩) (fun h => ⟨rfl, rfl, fun z => absurd rfl z, fun _ => same (-1) (fun Q hq => st_map_0 (pm_isEnum n1 (fun a1 a2 a3 a4 => absurd ⟨a1, a2, a3, a4⟩ h) (fun _ => ⟨fun z => absurd rfl z, fun _ => hq⟩)))⟩))⟩
  have ne1 := (hR.bk b0 b1).bk.ne1
  rw [t.vnm]
  refine ⟨fun lt => CT.im (by decide) (fun d2 hd2 => ct_usedWell (dm := 2046) hc hR b0 b1 (Or.inl ⟨by omega, e0, e1⟩) (by omega) (by decide) (fun V' M' gm U' run E F nu d0 f0 t0 w1 => ⟨fun _ => ⟨by decide, by decide, ?_⟩, fun z => absurd (by decide) z⟩) (fun V' M' gm U' run E F nu f => ⟨fun z => absurd rfl z, fun _ => ?_⟩)), fun ge => same (-2) (fun Q hq => st_map_0 (pm_isEnum n1 (fun _ _ _ _ => ⟨fun _ => ⟨fun z => absurd (by omega) z, fun _ => hq⟩, fun z => absurd (by decide) z⟩) (fun h => absurd ⟨b0, b1, e0, e1⟩ h)))⟩
  · have R' := hR.ev F E nu
    have m76 : M' 0 76 = M 0 76 := F.m0 (by omega)
    have m8 : M' 0 8 = M 0 8 := F.m0 (by omega)
    have m2 : M' 0 2 = M 0 2 := F.m0 (by omega)
    have m10 : M' 10 b = M 10 b := F.st (by omega)
    have tR := R'.top
    intro S8 V8 r8 mc8 ms8 q1 q2 q3 q4 q5
    subst q1 q2 q3 q4 q5
    refine ⟨by omega, CT.of (Q1 := fun z S1 V1 => ∃ r, Cn (upl c (128 * M' 0 76 + 67) (S.2.2 + 1)) S1 ∧ S1.2.2 = S.2.2 + 2 ∧ Wv (upl c (128 * M' 0 76 + 67) (S.2.2 + 1)) S1 V1 = up (up (up (up (nwl (Wv c S V') (128 * M' 0 76 + 67) 7 0) (128 * M' 0 76 + 67) 3 r) (128 * M' 0 76 + 67) 0 b) (128 * M' 0 76 + 67) 1 e) (128 * M' 0 76 + 67) 2 0) 2046 1 0 (ct_selInit (L := 128 * M' 0 76 + 67) hc h0 rfl (by decide) (fun S1 V1 r hc1 eS1 hW1 => ⟨r, hc1, eS1, hW1⟩)) (by decide) (by decide) (by decide) (fun z S1 V1 hq => ?_)⟩
    obtain ⟨r, hc1, eS1, hW1⟩ := hq
    refine ⟨by decide, by decide, by decide, by decide, ?_⟩
    intro S2 V2 r2 mc2 ms2 q1 q2 q3 q4 q5
    subst q1 q2 q3 q4 q5
    have hc2 := Cn_nw (L := 128 * M' 0 76 + 68) (t := 20) (n := 24) hc1 (by omega)
    have hW2 : Wv (upl (upl c (128 * M' 0 76 + 67) (S.2.2 + 1)) (128 * M' 0 76 + 68) (S1.2.2 + 1)) (nw S1 20 24) (clr V1 (S1.2.2 + 1)) = nMp0 (Wv c S V') (M' 0 76) r b e := by
      rw [Wv_nw hc1, hW1]
      rfl
    generalize ec : upl (upl c (128 * M' 0 76 + 67) (S.2.2 + 1)) (128 * M' 0 76 + 68) (S1.2.2 + 1) = c2 at hc2 hW2
    have e60 : c 60 = c2 60 := by rw [← ec, upl_ne (by omega), upl_ne (by omega)]
    have e64 : c 64 = c2 64 := by rw [← ec, upl_ne (by omega), upl_ne (by omega)]
    have e67 : S.2.2 + 1 = c2 (128 * M' 0 76 + 67) := by rw [← ec, upl_ne (by omega), upl_eq]
    obtain ⟨v', tg, ln⟩ := Wr hW2
    have a11 : clr V1 (S1.2.2 + 1) (c2 60) 11 = c2 64 := by rw [v' _ _ (by decide), nMp0_ne (by omega), tR.r11, e64]
    have a12 : clr V1 (S1.2.2 + 1) (c2 60) 12 = M' 0 76 := by rw [v' _ _ (by decide), nMp0_ne (by omega), tR.nm]
    have g60 : (nw S1 20 24).1 (c2 60) = 12 := by rw [tg, nMp0_ne (by omega), tR.g60]
    have g64 : (nw S1 20 24).1 (c2 64) = 36 := by rw [tg, nMp0_ne (by omega), tR.g64]
    have n64 : (nw S1 20 24).2.1 (c2 64) = 10 := by rw [ln, nMp0_ne (by omega), tR.n64]
    have g67 : (nw S1 20 24).1 (c2 (128 * M' 0 76 + 67)) = 7 := by
      rw [tg]
      unfold nMp0
      rw [nwl_ne (by omega), up_ne (by omega), up_ne (by omega), up_ne (by omega), up_ne (by omega), nwl_tag]
    rw [e60, a11, a12, n64, e67]
    refine ⟨g67, g60, g64, by omega, by omega, by omega, by omega, by omega, by omega, ?_⟩
    rw [show M' 0 76 + 1 - 1 = M' 0 76 from by omega]
    have hW3 : Wv c2 (nw S1 20 24) (up (up (up (clr V1 (S1.2.2 + 1)) (c2 (128 * M' 0 76 + 67)) 3 (S1.2.2 + 1)) (c2 64) (M' 0 76) (c2 (128 * M' 0 76 + 67))) (c2 60) 12 (M' 0 76 + 1)) = nMap (Wv c S V') (M' 0 76) r b e (S.2.2 + 1) (S1.2.2 + 1) := by
      rw [Wv_up hc2 (by decide), Wv_up hc2 (by omega), Wv_up hc2 (by decide), hW2, ← e67]
      rfl
    refine hk _ c2 _ _ (mMap M' (M' 0 76) (12 * b + e)) (fun Q hq => st_map_0 (pm_isEnum n1 (fun _ _ _ _ => ⟨fun _ => ⟨fun _ => run _ ⟨fun _ => ⟨by omega, by omega, by omega, by omega, by omega, by omega, by omega, by omega, by omega, by omega, ?_⟩, fun z => absurd (by decide) z⟩, fun z => absurd (by omega) z⟩, fun z => absurd (by decide) z⟩) (fun h => absurd ⟨b0, b1, e0, e1⟩ h))) hc2 e60.symm (fun L q => ?_) ?_ ?_
    · rw [show M' 0 76 + 1 - 1 = M' 0 76 from by omega]
      exact hq
    · rw [hW3, ← ec]
      have s := map_lab (c := c) (N := Wv c S V') (n := M' 0 76) (r := r) (b := b) (e := e) (x := S.2.2 + 1) (y := S1.2.2 + 1) L q
      exact ⟨s.1, fun j => (s.2 j).trans (F.1 L j (by omega) (by unfold bkL; omega))⟩
    · rw [hW3, ← ec]
      exact R'.mmap (by omega) b0 (by omega) e0 (by omega)
    · rw [mMap_ne (by omega)]
      omega
  · exact hk (-3) c S V' M' (fun Q hq => st_map_0 (pm_isEnum n1 (fun _ _ _ _ => ⟨fun _ => ⟨fun _ => run _ ⟨fun z => absurd rfl z, fun _ => hq⟩, fun z => absurd (by omega) z⟩, fun z => absurd (by decide) z⟩) (fun h => absurd ⟨b0, b1, e0, e1⟩ h))) hc rfl (fun L q => ⟨rfl, fun j => F.1 L j (by omega) (by unfold bkL; omega)⟩) (hR.ev F E nu) (by rw [F.m0 (by omega)]; omega)⟩

