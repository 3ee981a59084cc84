/-! ===== sets and maps ===== -/
section SETS
variable {l : Launch} {G : GT} {Q : Int → Sh → Mem → Prop} {c : Int → Int} {S : Sh} {V M : Mem} {d mc ms : Nat}
theorem ct_isConstant {L i bb ee : Int} (hc : Cn c S) (hR : Rel c (Wv c S V) M) (hd : 2 ≤ d) (g : S.1 (c L) = 7) (v0 : V (c L) 0 = bb) (v1 : V (c L) 1 = ee) (b0 : 0 ≤ bb) (b1 : bb < M 0 8) (e0 : 0 ≤ ee) (e1 : ee < M 10 bb) (h1 : 0 ≤ i → i < M 14 (12 * bb + ee) → Q 1 S V) (h2 : ¬ (0 ≤ i ∧ i < M 14 (12 * bb + ee)) → Q 0 S V) : Ct l G bX11_isConstant Q d mc ms [vr (c 60), vr (c L), vi i] S V := by
  refine qX11_isConstant fun _ _ _ => vX11_isConstant_0 ⟨g, hR.top.vg60, ?_⟩
  rw [v0, v1]
  refine CT.pu (by omega) (fun d1 hd1 => ct_enumOf hc hR (by omega) (fun _ _ _ _ => ⟨rfl, rfl, fun h => absurd h (hc.2 _).1, fun _ => ⟨((hR.bk b0 b1).be e0 e1).en.vg3, ?_⟩⟩) (fun h => absurd ⟨b0, b1, e0, e1⟩ h))
  exact CT.pu (by omega) (fun d2 hd2 => ct_constantAt ((hR.bk b0 b1).be e0 e1) (fun i0 i1 => ⟨rfl, rfl, fun h => absurd h (hc.2 _).1, fun _ => h1 i0 i1⟩) (fun h => ⟨rfl, rfl, fun _ => h2 h, fun h' => absurd rfl h'⟩))
theorem ct_contains {L i x : Int} (g : S.1 (c L) = 7) (v : V (c L) 2 = x) (x0 : 0 ≤ x) (x1 : x < 16777216) (i0 : 0 ≤ i) (i1 : i < 32) (h1 : x.toNat.testBit i.toNat = true → Q 1 S V) (h2 : x.toNat.testBit i.toNat = false → Q 0 S V) : Ct l G bX6_contains Q d mc ms [vr (c L), vi i] S V := qX6_contains fun _ _ => vX6_contains_0 <| by
  rw [v, bitU x0 (by omega) i0 i1]
  refine ⟨g, ?_⟩
  cases hb : x.toNat.testBit i.toNat with
  | true => exact ⟨fun h => absurd h (by decide), fun _ => h1 hb⟩
  | false => exact ⟨fun _ => h2 hb, fun h => absurd rfl h⟩
theorem ct_include {L i x : Int} (hd : 1 ≤ d) (g : S.1 (c L) = 7) (v : V (c L) 2 = x) (x0 : 0 ≤ x) (x1 : x < 16777216) (i0 : 0 ≤ i) (i1 : i < 32) (h : Q (1 - (if x.toNat.testBit i.toNat then 1 else 0)) S (up V (c L) 2 (bOr x (bShl 1 i)))) : Ct l G bX6_include Q d mc ms [vr (c L), vi i] S V := qX6_include fun _ _ => vX6_include_0 ⟨g, CT.pu hd (fun d1 hd1 => ct_contains g v x0 x1 i0 i1 (fun hb => ⟨rfl, rfl, by
    rw [v]
    rw [hb] at h
    exact ⟨fun _ => ⟨g, h⟩, fun h' => absurd (by decide) h'⟩⟩) (fun hb => ⟨rfl, rfl, by
    rw [v]
    rw [hb] at h
    exact ⟨fun h' => absurd rfl h', fun _ => ⟨g, h⟩⟩⟩))⟩
theorem ct_exclude {L i x : Int} (hd : 1 ≤ d) (g : S.1 (c L) = 7) (v : V (c L) 2 = x) (x0 : 0 ≤ x) (x1 : x < 16777216) (i0 : 0 ≤ i) (i1 : i < 32) (h : Q (if x.toNat.testBit i.toNat then 1 else 0) S (up V (c L) 2 (bAnd x (bXor (bShl 1 i) (-1))))) : Ct l G bX6_exclude Q d mc ms [vr (c L), vi i] S V := qX6_exclude fun _ _ => vX6_exclude_0 ⟨g, CT.pu hd (fun d1 hd1 => ct_contains g v x0 x1 i0 i1 (fun hb => ⟨rfl, rfl, by
    rw [v]
    rw [hb] at h
    exact ⟨g, Or.inr rfl, h⟩⟩) (fun hb => ⟨rfl, rfl, by
    rw [v]
    rw [hb] at h
    exact ⟨g, Or.inl rfl, h⟩⟩))⟩
end SETS
theorem bOr1_bd {x i : Int} (x0 : 0 ≤ x) (x1 : x < 16777216) (i0 : 0 ≤ i) (i1 : i < 24) : 0 ≤ bOr x (bShl 1 i) ∧ bOr x (bShl 1 i) < 16777216 := by
  have hp : 2 ^ i.toNat < 2 ^ 24 := Nat.pow_lt_pow_right (by decide) (by omega)
  rw [bShl1 i0 (by omega)]
  generalize 2 ^ i.toNat = p at hp
  rw [bOr_nat x0 (by omega) (by omega) (by omega)]
  have : x.toNat ||| ((p : Nat) : Int).toNat < 2 ^ 24 := Nat.or_lt_two_pow (by omega) (by omega)
  omega
section MODEL3
variable {d : Nat} {M : Mem} {Q : Int → Mem → Prop}
theorem pm_isIn {s i : Int} (hs : M 0 72 ≤ 40) (he : 0 ≤ s → s < M 0 72 → 0 ≤ M 70 s ∧ M 70 s < 120) (h1 : 0 ≤ s → s < M 0 72 → 0 ≤ i → i < M 14 (M 70 s) → Q 1 M) (h2 : ¬ (0 ≤ s ∧ s < M 0 72 ∧ 0 ≤ i ∧ i < M 14 (M 70 s)) → Q 0 M) : PM (d + 1) n_isIn_0 [s, i] M Q := by
  refine st_isIn_0 ?_
  unfold B_isIn_0
  refine ⟨fun _ => h2 (by omega), fun a => ⟨fun _ => h2 (by omega), fun b => ⟨fun _ => h2 (by omega), fun _ => ?_⟩⟩⟩
  have := he (by omega) (by omega)
  exact ⟨by omega, by omega, by omega, by omega, fun _ => h2 (by omega), fun _ => h1 (by omega) (by omega) (by omega) (by omega)⟩
end MODEL3
theorem Rel.se {c : Int → Int} {N M : Mem} {s : Int} (h : Rel c N M) (s0 : 0 ≤ s) (s1 : s < M 0 72) : 0 ≤ M 70 s ∧ M 70 s < 120 := by
  have k := h.st s0 s1
  have e := k.en
  have := k.b0
  have := k.b1
  have := k.e0
  have := k.e1
  have := (h.bk k.b0 k.b1).bk.ne1
  have := h.top.nb1
  omega

theorem Rel.sbits {c : Int → Int} {N M : Mem} {s v : Int} (h : Rel c N M) (s0 : 0 ≤ s) (s1 : s < M 0 72) (v0 : 0 ≤ v) (v1 : v < 16777216) : Rel c (up N (128 * s + 66) 2 v) (up M 71 s v) := by
  refine ⟨?_, ?_, ?_, fun t t0 t1 => ?_, fun t t0 t1 => ?_, fun t t0 t1 => ?_, fun t t0 t1 => ?_, fun t t0 t1 => ?_⟩
  · apply Rtop.fr h.top <;> intros <;> first | rfl | exact up_ne (by omega) | exact funext fun _ => up_ne (by omega)
  · apply Rwk.fr h.wk <;> intros <;> first | rfl | exact up_ne (by omega) | exact funext fun _ => up_ne (by omega)
  · apply Rrd.fr h.rd <;> intros <;> first | rfl | exact up_ne (by omega) | exact funext fun _ => up_ne (by omega)
  · rw [up_ne (by omega)] at t1
    have q := h.st t0 t1
    by_cases e : t = s
    · subst e
      refine ⟨?_, ?_, ?_, ?_, ?_, ?_, ?_, ?_, ?_, ?_, ?_⟩
      · have w := q.i0
        try simp (disch := omega) only [up_eq, up_ne]
        exact w
      · have w := q.r
        try simp (disch := omega) only [up_eq, up_ne]
        exact w
      · have w := q.g
        try simp (disch := omega) only [up_eq, up_ne]
        exact w
      · have w := q.en
        try simp (disch := omega) only [up_eq, up_ne]
        exact w
      · have w := q.b0
        try simp (disch := omega) only [up_eq, up_ne]
        exact w
      · have w := q.b1
        try simp (disch := omega) only [up_eq, up_ne]
        exact w
      · have w := q.e0
        try simp (disch := omega) only [up_eq, up_ne]
        exact w
      · have w := q.e1
        try simp (disch := omega) only [up_eq, up_ne]
        exact w
      · rw [up_eq, up_eq]
      · rw [up_eq]; exact v0
      · rw [up_eq]; exact v1
    · apply Rst.fr q <;> intros <;> first | rfl | exact up_ne (by omega) | exact funext fun _ => up_ne (by omega)
  · rw [up_ne (by omega)] at t1
    apply Rmp.fr (h.mp t0 t1) <;> intros <;> first | rfl | exact up_ne (by omega) | exact funext fun _ => up_ne (by omega)
  · rw [up_ne (by omega)] at t1
    apply Rdr.fr (h.dr t0 t1) <;> intros <;> first | rfl | exact up_ne (by omega) | exact funext fun _ => up_ne (by omega)
  · rw [up_ne (by omega)] at t1
    apply Rms.fr (h.ms t0 t1) <;> intros <;> first | rfl | exact up_ne (by omega) | exact funext fun _ => up_ne (by omega)
  · rw [up_ne (by omega)] at t1
    exact (h.bk t0 t1).fr t0 (fun L j hL => up_ne (by omega)) (fun _ _ => rfl) (fun k j hk => up_ne (by unfold bkk at hk; omega))

theorem call_add (s i : Int) : CallOK CI bX11_add n_add_0 [vi s, vi i] [s, i] := call_upd fun l G c S V M Q hc hR hk => qX11_add fun _ _ _ => vX11_add_0 <| by
  have t := hR.top
  have t0 := t.ns1
  have no : ¬ (0 ≤ s ∧ s < M 0 72 ∧ 0 ≤ i ∧ i < M 14 (M 70 s)) → Q (-1) S V := fun hn => hk _ V M (fun Q hq => st_add_0 (by
    unfold B_add_0
    exact pm_isIn t.ns1 (fun a b => hR.se a b) (fun a b e f => absurd ⟨a, b, e, f⟩ hn) (fun _ => ⟨fun h => absurd rfl h, fun _ => hq⟩))) (fun _ _ _ => rfl) hR (by omega)
  refine ⟨t.vg60, CT.pu (by decide) (fun d1 hd1 => ct_setAt hR (fun s0 s1 => ⟨rfl, rfl, fun h => absurd h (hc.2 _).1, fun _ => ⟨t.vg60, ?_⟩⟩) (fun h => ⟨rfl, rfl, fun _ => no (by omega), fun h' => absurd rfl h'⟩))⟩
  have k := hR.st s0 s1
  have ke := k.ven
  have kb0 := k.vb0
  have kb1 := k.vb1
  have ke0 := k.ve0
  have ke1 := k.ve1
  have kt := k.vbt
  have x0 := k.bt0
  have x1 := k.bt1
  have nc := ((hR.bk kb0 kb1).be ke0 ke1).en.nc1
  refine CT.pu (by decide) (fun d2 hd2 => ct_isConstant hc hR (by omega) k.vg rfl rfl kb0 kb1 ke0 ke1 (fun i0 i1 => ⟨rfl, rfl, fun _ => ⟨k.vg, ?_⟩, fun h => absurd (by decide) h⟩) (fun h => ⟨rfl, rfl, fun h' => absurd rfl h', fun _ => no (by rw [← ke]; omega)⟩))
  have bd : 0 ≤ bOr (M 71 s) (bShl 1 i) ∧ bOr (M 71 s) (bShl 1 i) < 16777216 := bOr1_bd x0 x1 i0 (by omega)
  refine CT.of 2046 0 0 (Q1 := fun z S' V' => S' = S ∧ V' = up V (c (128 * s + 66)) 2 (bOr (M 71 s) (bShl 1 i)) ∧ z = 1 - (if (M 71 s).toNat.testBit i.toNat then 1 else 0)) (ct_include (by decide) k.vg kt x0 x1 i0 (by omega) ⟨rfl, rfl, rfl⟩) (by decide) (by decide) (by decide) (fun z S' V' hq => ?_)
  obtain ⟨rfl, rfl, hz⟩ := hq
  have fin : Q z S' (up V (c (128 * s + 66)) 2 (bOr (M 71 s) (bShl 1 i))) := by
    refine hk _ _ (up M 71 s (bOr (M 71 s) (bShl 1 i))) (fun Q hq => st_add_0 ?_) (fun L j hL => upc_ne hc (by omega)) ?_ (by rw [up_ne (by omega)]; omega)
    · unfold B_add_0
      refine pm_isIn t.ns1 (fun a b => hR.se a b) (fun a b e f => ⟨fun _ => ?_, fun h => absurd (by decide) h⟩) (fun h => absurd ⟨s0, s1, i0, by rw [← ke]; exact i1⟩ h)
      rw [bitS x0 (by omega) i0 (by omega), ← hz]
      exact ⟨by omega, by omega, by rw [hz]; split <;> omega, by rw [hz]; split <;> omega, hq⟩
    · rw [Wv_up hc (by decide)]
      exact hR.sbits s0 s1 bd.1 bd.2
  have hz2 : z = 0 ∨ z = 1 := by rw [hz]; split <;> omega
  rcases hz2 with e | e
  · exact ⟨fun _ => e ▸ fin, fun h => absurd e h⟩
  · exact ⟨fun h => absurd (e.symm.trans h) (by decide), fun _ => e ▸ fin⟩

theorem call_take (s i : Int) : CallOK CI bX11_take n_take_0 [vi s, vi i] [s, i] := call_upd fun l G c S V M Q hc hR hk => qX11_take fun _ _ _ => vX11_take_0 <| by
  have t := hR.top
  have t0 := t.ns1
  have no : ¬ (0 ≤ s ∧ s < M 0 72 ∧ 0 ≤ i ∧ i < M 14 (M 70 s)) → Q (-1) S V := fun hn => hk _ V M (fun Q hq => st_take_0 (by
    unfold B_take_0
    exact pm_isIn t.ns1 (fun a b => hR.se a b) (fun a b e f => absurd ⟨a, b, e, f⟩ hn) (fun _ => ⟨fun h => absurd rfl h, fun _ => hq⟩))) (fun _ _ _ => rfl) hR (by omega)
  refine ⟨t.vg60, CT.pu (by decide) (fun d1 hd1 => ct_setAt hR (fun s0 s1 => ⟨rfl, rfl, fun h => absurd h (hc.2 _).1, fun _ => ⟨t.vg60, ?_⟩⟩) (fun h => ⟨rfl, rfl, fun _ => no (by omega), fun h' => absurd rfl h'⟩))⟩
  have k := hR.st s0 s1
  have ke := k.ven
  have kb0 := k.vb0
  have kb1 := k.vb1
  have ke0 := k.ve0
  have ke1 := k.ve1
  have kt := k.vbt
  have x0 := k.bt0
  have x1 := k.bt1
  have nc := ((hR.bk kb0 kb1).be ke0 ke1).en.nc1
  refine CT.pu (by decide) (fun d2 hd2 => ct_isConstant hc hR (by omega) k.vg rfl rfl kb0 kb1 ke0 ke1 (fun i0 i1 => ⟨rfl, rfl, fun _ => ⟨k.vg, ?_⟩, fun h => absurd (by decide) h⟩) (fun h => ⟨rfl, rfl, fun h' => absurd rfl h', fun _ => no (by rw [← ke]; omega)⟩))
  have bd : 0 ≤ bAnd (M 71 s) (bXor (bShl 1 i) (-1)) ∧ bAnd (M 71 s) (bXor (bShl 1 i) (-1)) < 16777216 := ⟨(bAnd_bd x0 (by omega)).1, by have := (bAnd_bd (y := bXor (bShl 1 i) (-1)) x0 (by omega)).2; omega⟩
  refine CT.of 2046 0 0 (Q1 := fun z S' V' => S' = S ∧ V' = up V (c (128 * s + 66)) 2 (bAnd (M 71 s) (bXor (bShl 1 i) (-1))) ∧ z = if (M 71 s).toNat.testBit i.toNat then 1 else 0) (ct_exclude (by decide) k.vg kt x0 x1 i0 (by omega) ⟨rfl, rfl, rfl⟩) (by decide) (by decide) (by decide) (fun z S' V' hq => ?_)
  obtain ⟨rfl, rfl, hz⟩ := hq
  have fin : Q z S' (up V (c (128 * s + 66)) 2 (bAnd (M 71 s) (bXor (bShl 1 i) (-1)))) := by
    refine hk _ _ (up M 71 s (bAnd (M 71 s) (bXor (bShl 1 i) (-1)))) (fun Q hq => st_take_0 ?_) (fun L j hL => upc_ne hc (by omega)) ?_ (by rw [up_ne (by omega)]; omega)
    · unfold B_take_0
      refine pm_isIn t.ns1 (fun a b => hR.se a b) (fun a b e f => ⟨fun _ => ?_, fun h => absurd (by decide) h⟩) (fun h => absurd ⟨s0, s1, i0, by rw [← ke]; exact i1⟩ h)
      rw [bitS x0 (by omega) i0 (by omega), ← hz]
      exact ⟨by omega, by omega, hq⟩
    · rw [Wv_up hc (by decide)]
      exact hR.sbits s0 s1 bd.1 bd.2
  have hz2 : z = 0 ∨ z = 1 := by rw [hz]; split <;> omega
  rcases hz2 with e | e
  · exact ⟨fun _ => e ▸ fin, fun h => absurd e h⟩
  · exact ⟨fun h => absurd (e.symm.trans h) (by decide), fun _ => e ▸ fin⟩

theorem bOr1_tb {x i j : Int} (x0 : 0 ≤ x) (x1 : x < 16777216) (i0 : 0 ≤ i) (i1 : i < 24) (j0 : 0 ≤ j) (e : j ≠ i) (h : (bOr x (bShl 1 i)).toNat.testBit j.toNat = true) : x.toNat.testBit j.toNat = true := by
  have hp : 2 ^ i.toNat < 2 ^ 24 := Nat.pow_lt_pow_right (by decide) (by omega)
  rw [bShl1 i0 (by omega)] at h
  have ht : (2 ^ i.toNat).testBit j.toNat = false := by
    rw [Nat.testBit_two_pow]
    simp only [decide_eq_false_iff_not]
    omega
  generalize 2 ^ i.toNat = p at hp ht h
  rw [bOr_nat x0 (by omega) (by omega) (by omega), Int.toNat_natCast, Nat.testBit_or, Int.toNat_natCast, ht, Bool.or_false] at h
  exact h
theorem pm_isMapped {d : Nat} {M : Mem} {Q : Int → Mem → Prop} {s i : Int} (hs : M 0 76 ≤ 10) (he : 0 ≤ s → s < M 0 76 → 0 ≤ M 73 s ∧ M 73 s < 120) (h1 : 0 ≤ s → s < M 0 76 → 0 ≤ i → i < M 14 (M 73 s) → Q 1 M) (h2 : ¬ (0 ≤ s ∧ s < M 0 76 ∧ 0 ≤ i ∧ i < M 14 (M 73 s)) → Q 0 M) : PM (d + 1) n_isMapped_0 [s, i] M Q := by
  refine st_isMapped_0 ?_
  unfold B_isMapped_0
  refine ⟨fun _ => h2 (by omega), fun a => ⟨fun _ => h2 (by omega), fun b => ⟨fun _ => h2 (by omega), fun _ => ?_⟩⟩⟩
  have := he (by omega) (by omega)
  exact ⟨by omega, by omega, by omega, by omega, fun _ => h2 (by omega), fun _ => h1 (by omega) (by omega) (by omega) (by omega)⟩
theorem Rel.me {c : Int → Int} {N M : Mem} {s : Int} (h : Rel c N M) (s0 : 0 ≤ s) (s1 : s < M 0 76) : 0 ≤ M 73 s ∧ M 73 s < 120 := by
  have k := h.mp s0 s1
  have e := k.en
  have := k.b0
  have := k.b1
  have := k.e0
  have := k.e1
  have := (h.bk k.b0 k.b1).bk.ne1
  have := h.top.nb1
  omega
theorem Rel.mput {c : Int → Int} {N M : Mem} {s i v : Int} (h : Rel c N M) (s0 : 0 ≤ s) (s1 : s < M 0 76) (i0 : 0 ≤ i) (i1 : i < 24) : Rel c (up (up N (128 * s + 68) i v) (128 * s + 67) 2 (bOr (M 74 s) (bShl 1 i))) (up (up M 74 s (bOr (M 74 s) (bShl 1 i))) 75 (24 * s + i) v) := by
  have k := h.mp s0 s1
  have bd := bOr1_bd k.bt0 k.bt1 i0 i1
  refine ⟨?_, ?_, ?_, fun t t0 t1 => ?_, fun t t0 t1 => ?_, fun t t0 t1 => ?_, fun t t0 t1 => ?_, fun t t0 t1 => ?_⟩
  · apply Rtop.fr h.top <;> intros <;> first | rfl | exact (up_ne (by omega)).trans (up_ne (by omega)) | exact funext fun _ => (up_ne (by omega)).trans (up_ne (by omega))
  · apply Rwk.fr h.wk <;> intros <;> first | rfl | exact (up_ne (by omega)).trans (up_ne (by omega)) | exact funext fun _ => (up_ne (by omega)).trans (up_ne (by omega))
  · apply Rrd.fr h.rd <;> intros <;> first | rfl | exact (up_ne (by omega)).trans (up_ne (by omega)) | exact funext fun _ => (up_ne (by omega)).trans (up_ne (by omega))
  · rw [up_ne (by omega), up_ne (by omega)] at t1
    apply Rst.fr (h.st t0 t1) <;> intros <;> first | rfl | exact (up_ne (by omega)).trans (up_ne (by omega)) | exact funext fun _ => (up_ne (by omega)).trans (up_ne (by omega))
  · rw [up_ne (by omega), up_ne (by omega)] at t1
    have q := h.mp t0 t1
    by_cases e : t = s
    · subst e
      refine ⟨?_, ?_, ?_, ?_, ?_, ?_, ?_, ?_, ?_, ?_, ?_, ?_, ?_, ?_, ?_⟩
      · have w := q.i0
        try simp (disch := omega) only [up_eq, up_ne]
        exact w
      · have w := q.r
        try simp (disch := omega) only [up_eq, up_ne]
        exact w
      · have w := q.g
        try simp (disch := omega) only [up_eq, up_ne]
        exact w
      · have w := q.en
        try simp (disch := omega) only [up_eq, up_ne]
        exact w
      · have w := q.b0
        try simp (disch := omega) only [up_eq, up_ne]
        exact w
      · have w := q.b1
        try simp (disch := omega) only [up_eq, up_ne]
        exact w
      · have w := q.e0
        try simp (disch := omega) only [up_eq, up_ne]
        exact w
      · have w := q.e1
        try simp (disch := omega) only [up_eq, up_ne]
        exact w
      · rw [up_eq, up_ne (by omega), up_eq]
      · rw [up_ne (by omega), up_eq]; exact bd.1
      · rw [up_ne (by omega), up_eq]; exact bd.2
      · have w := q.rv
        try simp (disch := omega) only [up_eq, up_ne]
        exact w
      · have w := q.gv
        try simp (disch := omega) only [up_eq, up_ne]
        exact w
      · have w := q.nv
        try simp (disch := omega) only [up_eq, up_ne]
        exact w
      · intro j j0 j1 j2
        rw [up_ne (by omega), up_eq] at j2
        by_cases e : j = i
        · subst e
          rw [up_ne (by omega), up_eq, up_eq]
        · rw [up_ne (by omega), up_ne (by omega), up_ne (by omega), up_ne (by omega)]
          exact q.v j j0 j1 (bOr1_tb q.bt0 q.bt1 i0 i1 j0 e j2)
    · apply Rmp.fr q <;> intros <;> first | rfl | exact (up_ne (by omega)).trans (up_ne (by omega)) | exact funext fun _ => (up_ne (by omega)).trans (up_ne (by omega))
  · rw [up_ne (by omega), up_ne (by omega)] at t1
    apply Rdr.fr (h.dr t0 t1) <;> intros <;> first | rfl | exact (up_ne (by omega)).trans (up_ne (by omega)) | exact funext fun _ => (up_ne (by omega)).trans (up_ne (by omega))
  · rw [up_ne (by omega), up_ne (by omega)] at t1
    apply Rms.fr (h.ms t0 t1) <;> intros <;> first | rfl | exact (up_ne (by omega)).trans (up_ne (by omega)) | exact funext fun _ => (up_ne (by omega)).trans (up_ne (by omega))
  · rw [up_ne (by omega), up_ne (by omega)] at t1
    exact (h.bk t0 t1).fr t0 (fun L j hL => (up_ne (by omega)).trans (up_ne (by omega))) (fun _ _ => rfl) (fun k j hk => (up_ne (by unfold bkk at hk; omega)).trans (up_ne (by unfold bkk at hk; omega)))

theorem Rel.out {c : Int → Int} {N M : Mem} {v : Int} (h : Rel c N M) : Rel c (up N 60 8 v) (up M 0 69 v) := by
  have q := h.top
  refine ⟨?_, ?_, ?_, fun s s0 s1 => ?_, fun s s0 s1 => ?_, fun s s0 s1 => ?_, fun s s0 s1 => ?_, fun s s0 s1 => ?_⟩
  ·
    refine ⟨?_, ?_, ?_, ?_, ?_, ?_, ?_, ?_, ?_, ?_, ?_, ?_, ?_, ?_, ?_, ?_, ?_, ?_, ?_, ?_, ?_, ?_, ?_, ?_, ?_, ?_, ?_, ?_, ?_, ?_, ?_, ?_, ?_, ?_, ?_, ?_, ?_, ?_, ?_⟩
    · have w := q.g60
      try simp (disch := omega) only [up_eq, up_ne]
      exact w
    · have w := q.g61
      try simp (disch := omega) only [up_eq, up_ne]
      exact w
    · have w := q.n61
      try simp (disch := omega) only [up_eq, up_ne]
      exact w
    · have w := q.g62
      try simp (disch := omega) only [up_eq, up_ne]
      exact w
    · have w := q.n62
      try simp (disch := omega) only [up_eq, up_ne]
      exact w
    · have w := q.g63
      try simp (disch := omega) only [up_eq, up_ne]
      exact w
    · have w := q.n63
      try simp (disch := omega) only [up_eq, up_ne]
      exact w
    · have w := q.g64
      try simp (disch := omega) only [up_eq, up_ne]
      exact w
    · have w := q.n64
      try simp (disch := omega) only [up_eq, up_ne]
      exact w
    · have w := q.g65
      try simp (disch := omega) only [up_eq, up_ne]
      exact w
    · have w := q.n65
      try simp (disch := omega) only [up_eq, up_ne]
      exact w
    · have w := q.r0
      try simp (disch := omega) only [up_eq, up_ne]
      exact w
    · have w := q.r2
      try simp (disch := omega) only [up_eq, up_ne]
      exact w
    · have w := q.r3
      try simp (disch := omega) only [up_eq, up_ne]
      exact w
    · have w := q.r4
      try simp (disch := omega) only [up_eq, up_ne]
      exact w
    · have w := q.r5
      try simp (disch := omega) only [up_eq, up_ne]
      exact w
    · have w := q.r9
      try simp (disch := omega) only [up_eq, up_ne]
      exact w
    · have w := q.r11
      try simp (disch := omega) only [up_eq, up_ne]
      exact w
    · have w := q.r13
      try simp (disch := omega) only [up_eq, up_ne]
      exact w
    · have w := q.r15
      try simp (disch := omega) only [up_eq, up_ne]
      exact w
    · have w := q.tl
      try simp (disch := omega) only [up_eq, up_ne]
      exact w
    · have w := q.tl0
      try simp (disch := omega) only [up_eq, up_ne]
      exact w
    · have w := q.tl1
      try simp (disch := omega) only [up_eq, up_ne]
      exact w
    · intro j j0 j1
      rw [up_ne (by omega)] at j1
      rw [up_ne (by omega), up_ne (by omega)]
      exact q.tb j j0 j1
    · intro j j0 j1
      rw [up_ne (by omega)] at j1
      rw [up_ne (by omega)]
      exact q.tr j j0 j1
    · have w := q.nb
      try simp (disch := omega) only [up_eq, up_ne]
      exact w
    · have w := q.nb0
      try simp (disch := omega) only [up_eq, up_ne]
      exact w
    · have w := q.nb1
      try simp (disch := omega) only [up_eq, up_ne]
      exact w
    · have w := q.lf
      try simp (disch := omega) only [up_eq, up_ne]
      exact w
    · rw [up_eq, up_eq]
    · have w := q.ns
      try simp (disch := omega) only [up_eq, up_ne]
      exact w
    · have w := q.ns0
      try simp (disch := omega) only [up_eq, up_ne]
      exact w
    · have w := q.ns1
      try simp (disch := omega) only [up_eq, up_ne]
      exact w
    · have w := q.nm
      try simp (disch := omega) only [up_eq, up_ne]
      exact w
    · have w := q.nm0
      try simp (disch := omega) only [up_eq, up_ne]
      exact w
    · have w := q.nm1
      try simp (disch := omega) only [up_eq, up_ne]
      exact w
    · have w := q.ng
      try simp (disch := omega) only [up_eq, up_ne]
      exact w
    · have w := q.ng0
      try simp (disch := omega) only [up_eq, up_ne]
      exact w
    · refine ⟨?_, q.xe.fr (by simp (disch := omega) only [up_ne]) (by simp (disch := omega) only [up_ne]) (fun k j hk => by simp (disch := omega) only [up_ne])⟩
      have w := q.ng1
      try simp (disch := omega) only [up_eq, up_ne]
      exact w
  · apply Rwk.fr h.wk <;> intros <;> first | rfl | exact up_ne (by omega) | exact funext fun _ => up_ne (by omega)
  · apply Rrd.fr h.rd <;> intros <;> first | rfl | exact up_ne (by omega) | exact funext fun _ => up_ne (by omega)
  · rw [up_ne (by omega)] at s1
    apply Rst.fr (h.st s0 s1) <;> intros <;> first | rfl | exact up_ne (by omega) | exact funext fun _ => up_ne (by omega)
  · rw [up_ne (by omega)] at s1
    apply Rmp.fr (h.mp s0 s1) <;> intros <;> first | rfl | exact up_ne (by omega) | exact funext fun _ => up_ne (by omega)
  · rw [up_ne (by omega)] at s1
    apply Rdr.fr (h.dr s0 s1) <;> intros <;> first | rfl | exact up_ne (by omega) | exact funext fun _ => up_ne (by omega)
  · rw [up_ne (by omega)] at s1
    apply Rms.fr (h.ms s0 s1) <;> intros <;> first | rfl | exact up_ne (by omega) | exact funext fun _ => up_ne (by omega)
  · rw [up_ne (by omega)] at s1
    exact (h.bk s0 s1).fr s0 (fun L j hL => up_ne (by omega)) (fun _ _ => rfl) (fun k j hk => up_ne (by unfold bkk at hk; omega))

theorem call_put (s i v : Int) : CallOK CI bX11_put n_put_0 [vi s, vi i, vi v] [s, i, v] := call_upd fun l G c S V M Q hc hR hk => qX11_put fun _ _ _ _ => vX11_put_0 <| by
  have t := hR.top
  have t0 := t.nm1
  have no : ¬ (0 ≤ s ∧ s < M 0 76 ∧ 0 ≤ i ∧ i < M 14 (M 73 s)) → Q (-1) S V := fun hn => hk _ V M (fun Q hq => st_put_0 (by
    unfold B_put_0
    exact pm_isMapped t.nm1 (fun a b => hR.me a b) (fun a b e f => absurd ⟨a, b, e, f⟩ hn) (fun _ => ⟨fun h => absurd rfl h, fun _ => hq⟩))) (fun _ _ _ => rfl) hR (by omega)
  refine ⟨t.vg60, CT.pu (by decide) (fun d1 hd1 => ct_mapAt hR (fun s0 s1 => ⟨rfl, rfl, fun h => absurd h (hc.2 _).1, fun _ => ⟨t.vg60, ?_⟩⟩) (fun h => ⟨rfl, rfl, fun _ => no (by omega), fun h' => absurd rfl h'⟩))⟩
  have k := hR.mp s0 s1
  have ke := k.ven
  have kb0 := k.vb0
  have kb1 := k.vb1
  have ke0 := k.ve0
  have ke1 := k.ve1
  have kt := k.vbt
  have x0 := k.bt0
  have x1 := k.bt1
  have nc := ((hR.bk kb0 kb1).be ke0 ke1).en.nc1
  refine CT.pu (by decide) (fun d2 hd2 => ct_isConstant hc hR (by omega) k.vg rfl rfl kb0 kb1 ke0 ke1 (fun i0 i1 => ⟨rfl, rfl, fun _ => ?_, fun h => absurd (by decide) h⟩) (fun h => ⟨rfl, rfl, fun h' => absurd rfl h', fun _ => no (by rw [← ke]; omega)⟩))
  simp only [k.vrv, k.vgv, k.vnv]
  refine ⟨k.vg, trivial, i0, by omega, ?_⟩
  have kt2 : up V (c (128 * s + 68)) i v (c (128 * s + 67)) 2 = M 74 s := by rw [upc_ne hc (by omega)]; exact kt
  refine CT.of 2046 0 0 (Q1 := fun z S' V' => S' = S ∧ V' = up (up V (c (128 * s + 68)) i v) (c (128 * s + 67)) 2 (bOr (M 74 s) (bShl 1 i)) ∧ z = 1 - (if (M 74 s).toNat.testBit i.toNat then 1 else 0)) (ct_include (by decide) k.vg kt2 x0 x1 i0 (by omega) ⟨rfl, rfl, rfl⟩) (by decide) (by decide) (by decide) (fun z S' V' hq => ?_)
  obtain ⟨rfl, rfl, hz⟩ := hq
  have fin : Q z S' (up (up V (c (128 * s + 68)) i v) (c (128 * s + 67)) 2 (bOr (M 74 s) (bShl 1 i))) := by
    refine hk _ _ (up (up M 74 s (bOr (M 74 s) (bShl 1 i))) 75 (24 * s + i) v) (fun Q hq => st_put_0 ?_) (fun L j hL => by rw [upc_ne hc (by omega), upc_ne hc (by omega)]) ?_ (by rw [up_ne (by omega), up_ne (by omega)]; omega)
    · unfold B_put_0
      refine pm_isMapped t.nm1 (fun a b => hR.me a b) (fun a b e f => ⟨fun _ => ?_, fun h => absurd (by decide) h⟩) (fun h => absurd ⟨s0, s1, i0, by rw [← ke]; exact i1⟩ h)
      rw [bitS x0 (by omega) i0 (by omega), ← hz]
      exact ⟨by omega, by omega, by omega, by omega, by omega, by omega, by omega, by omega, by rw [hz]; split <;> omega, by rw [hz]; split <;> omega, hq⟩
    · rw [Wv_up hc (by decide), Wv_up hc i0]
      exact hR.mput s0 s1 i0 (by omega)
  have hz2 : z = 0 ∨ z = 1 := by rw [hz]; split <;> omega
  rcases hz2 with e | e
  · exact ⟨fun _ => e ▸ fin, fun h => absurd e h⟩
  · exact ⟨fun h => absurd (e.symm.trans h) (by decide), fun _ => e ▸ fin⟩
theorem call_get (s i : Int) : CallOK CI bX11_get n_get_0 [vi s, vi i] [s, i] := call_upd fun l G c S V M Q hc hR hk => qX11_get fun _ _ _ => vX11_get_0 <| by
  have t := hR.top
  have t0 := t.nm1
  have no : ¬ (0 ≤ s ∧ s < M 0 76 ∧ 0 ≤ i ∧ i < M 14 (M 73 s)) → Q (-1) S V := fun hn => hk _ V M (fun Q hq => st_get_0 (by
    unfold B_get_0
    exact pm_isMapped t.nm1 (fun a b => hR.me a b) (fun a b e f => absurd ⟨a, b, e, f⟩ hn) (fun _ => ⟨fun h => absurd rfl h, fun _ => hq⟩))) (fun _ _ _ => rfl) hR (by omega)
  refine ⟨t.vg60, CT.pu (by decide) (fun d1 hd1 => ct_mapAt hR (fun s0 s1 => ⟨rfl, rfl, fun h => absurd h (hc.2 _).1, fun _ => ⟨t.vg60, ?_⟩⟩) (fun h => ⟨rfl, rfl, fun _ => no (by omega), fun h' => absurd rfl h'⟩))⟩
  have k := hR.mp s0 s1
  have ke := k.ven
  have kb0 := k.vb0
  have kb1 := k.vb1
  have ke0 := k.ve0
  have ke1 := k.ve1
  have kt := k.vbt
  have x0 := k.bt0
  have x1 := k.bt1
  have nc := ((hR.bk kb0 kb1).be ke0 ke1).en.nc1
  refine CT.pu (by decide) (fun d2 hd2 => ct_isConstant hc hR (by omega) k.vg rfl rfl kb0 kb1 ke0 ke1 (fun i0 i1 => ⟨rfl, rfl, fun _ => ?_, fun h => absurd (by decide) h⟩) (fun h => ⟨rfl, rfl, fun h' => absurd rfl h', fun _ => no (by rw [← ke]; omega)⟩))
  refine ⟨k.vg, CT.pu (by decide) (fun d3 hd3 => ct_contains k.vg kt x0 x1 i0 (by omega) (fun hb => ⟨rfl, rfl, fun _ => ?_, fun h => absurd (by decide) h⟩) (fun hb => ⟨rfl, rfl, fun h => absurd rfl h, fun _ => ?_⟩))⟩
  · simp only [k.vrv, k.vgv, k.vnv, k.vg, t.vg60]
    refine ⟨trivial, trivial, i0, by omega, trivial, ?_⟩
    rw [k.vv i i0 (by omega) hb]
    refine hk _ _ (up M 0 69 (M 75 (24 * s + i))) (fun Q hq => st_get_0 ?_) (fun L j hL => upc_ne hc (by omega)) ?_ (by rw [up_ne (by omega)]; omega)
    · unfold B_get_0
      refine pm_isMapped t.nm1 (fun a b => hR.me a b) (fun a b e f => ⟨fun _ => ?_, fun h => absurd (by decide) h⟩) (fun h => absurd ⟨s0, s1, i0, by rw [← ke]; exact i1⟩ h)
      rw [bitS x0 (by omega) i0 (by omega), hb]
      exact ⟨by omega, by omega, fun _ => ⟨by omega, by omega, by omega, by omega, by omega, by omega, hq⟩, fun h => absurd (by decide) h⟩
    · rw [Wv_up hc (by decide)]
      exact hR.out
  · refine hk _ V M (fun Q hq => st_get_0 ?_) (fun _ _ _ => rfl) hR (by omega)
    unfold B_get_0
    refine pm_isMapped t.nm1 (fun a b => hR.me a b) (fun a b e f => ⟨fun _ => ?_, fun h => absurd (by decide) h⟩) (fun h => absurd ⟨s0, s1, i0, by rw [← ke]; exact i1⟩ h)
    rw [bitS x0 (by omega) i0 (by omega), hb]
    exact ⟨by omega, by omega, fun h => absurd rfl h, fun _ => hq⟩

