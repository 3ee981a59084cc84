/-! ===== join, map ===== -/
theorem bOr_bd {x y : Int} (x0 : 0 ≤ x) (x1 : x < 16777216) (y0 : 0 ≤ y) (y1 : y < 16777216) : 0 ≤ bOr x y ∧ bOr x y < 16777216 := by
  rw [bOr_nat x0 (by omega) y0 (by omega)]
  have : x.toNat ||| y.toNat < 2 ^ 24 := Nat.or_lt_two_pow (by omega) (by omega)
  omega
theorem bXor_bd {x y : Int} (x0 : 0 ≤ x) (x1 : x < 16777216) (y0 : 0 ≤ y) (y1 : y < 16777216) : 0 ≤ bXor x y ∧ bXor x y < 16777216 := by
  rw [bXor_nat x0 (by omega) y0 (by omega)]
  have : x.toNat ^^^ y.toNat < 2 ^ 24 := Nat.xor_lt_two_pow (by omega) (by omega)
  omega
def jbits (h x y : Int) : Int := if h = 0 then bOr x y else if h = 1 then bAnd x y else if h = 2 then bAnd x (bXor y (-1)) else bXor x y
theorem jbits_bd {h x y : Int} (x0 : 0 ≤ x) (x1 : x < 16777216) (y0 : 0 ≤ y) (y1 : y < 16777216) : 0 ≤ jbits h x y ∧ jbits h x y < 16777216 := by
  unfold jbits
  split
  · exact bOr_bd x0 x1 y0 y1
  · split
    · have := bAnd_bd (y := y) x0 (by omega); omega
    · split
      · have := bAnd_bd (y := bXor y (-1)) x0 (by omega); omega
      · exact bXor_bd x0 x1 y0 y1
theorem ct_joined {l : Launch} {G : GT} {Q : Int → Sh → Mem → Prop} {S : Sh} {V : Mem} {d mc ms : Nat} {x y h : Int} (h0 : 0 ≤ h) (h3 : h ≤ 3) (hq : Q (jbits h x y) S V) : Ct l G bX11_joined Q d mc ms [vi x, vi y, vi h] S V := qX11_joined fun _ _ _ => vX11_joined_0 <| by
  have : h = 0 ∨ h = 1 ∨ h = 2 ∨ h = 3 := by omega
  rcases this with rfl | rfl | rfl | rfl
  · exact ⟨fun _ => hq, fun z => absurd rfl z⟩
  · exact ⟨fun z => absurd z (by decide), fun _ => ⟨fun _ => hq, fun z => absurd rfl z⟩⟩
  · exact ⟨fun z => absurd z (by decide), fun _ => ⟨fun z => absurd z (by decide), fun _ => ⟨fun _ => hq, fun z => absurd rfl z⟩⟩⟩
  · exact ⟨fun z => absurd z (by decide), fun _ => ⟨fun z => absurd z (by decide), fun _ => ⟨fun z => absurd z (by decide), fun _ => hq⟩⟩⟩
theorem call_join (a b h : Int) : CallOK CI bX11_join n_join_0 [vi a, vi b, vi h] [a, b, h] := call_gen fun l G c S V M hc hR => ⟨2, 4, by decide, by have := hR.top.tl0; omega, fun Q hk => qX11_join fun p60 _ _ _ => vX11_join_0 <| by
  have t := hR.top
  have tl := t.tl0
  have ns1 := t.ns1
  have ns0 := t.ns0
  have h0 := pos_S hc p60
  have same : ∀ z, RunM 2047 n_join_0 [a, b, h] M z M → Q z S V := fun z r => hk z c S V M r hc rfl (fun _ _ => ⟨rfl, fun _ => rfl⟩) hR (by omega)
  have no : ¬ (0 ≤ a ∧ a < M 0 72 ∧ 0 ≤ b ∧ b < M 0 72) → Q (-1) S V := fun hn => same (-1) (fun Q hq => st_join_0 ⟨fun _ => hq, fun y1 => ⟨fun _ => hq, fun y2 => ⟨fun _ => hq, fun y3 => ⟨fun y4 => absurd ⟨by omega, by omega, by omega, by omega⟩ hn, fun _ => hq⟩⟩⟩⟩)
  refine ⟨t.vg60, CT.pu (by decide) (fun d1 hd1 => ct_setAt hR (fun a0 a1 => ⟨rfl, rfl, t.vg60, CT.pu (by decide) (fun d2 hd2 => ct_setAt hR (fun b0 b1 => ⟨rfl, rfl, fun z => absurd z (hc.2 _).1, fun _ => ⟨fun _ => ?_, fun z => absurd (hc.2 _).1 z⟩⟩) (fun hn => ⟨rfl, rfl, fun z => absurd z (hc.2 _).1, fun _ => ⟨fun z => absurd rfl z, fun _ => no (by omega)⟩⟩))⟩) (fun hn => ⟨rfl, rfl, t.vg60, CT.pu (by decide) (fun d2 hd2 => ct_setAt hR (fun b0 b1 => ⟨rfl, rfl, fun _ => no (by omega), fun z => absurd rfl z⟩) (fun hn2 => ⟨rfl, rfl, fun _ => no (by omega), fun z => absurd rfl z⟩))⟩))⟩
  have ka := hR.st a0 a1
  have kb := hR.st b0 b1
  have ea := ka.ven
  have eb := kb.ven
  have a2 := ka.ve0
  have a3 := ka.ve1
  have b2 := kb.ve0
  have b3 := kb.ve1
  have a4 := (hR.bk ka.vb0 ka.vb1).bk.ne1
  have b4 := (hR.bk kb.vb0 kb.vb1).bk.ne1
  have bad : (M 70 a ≠ M 70 b ∨ h < 0 ∨ 3 < h) → Q (-4) S V := fun hb => same (-4) (fun Q hq => st_join_0 ⟨fun z => absurd z (by omega), fun _ => ⟨fun z => absurd z (by omega), fun _ => ⟨fun z => absurd z (by omega), fun _ => ⟨fun _ => ⟨by omega, by omega, by omega, by omega, fun _ => hq, fun y => ⟨fun _ => hq, fun y2 => ⟨fun y3 => by omega, fun _ => hq⟩⟩⟩, fun z => absurd b1 z⟩⟩⟩⟩)
  refine ⟨ka.vg, kb.vg, fun y => bad (by omega), fun y => ⟨fun y2 => bad (by omega), fun y2 => ⟨fun y3 => bad (by omega), fun y3 => ⟨fun y4 => ⟨t.vg60, ?_⟩, fun y4 => bad (by omega)⟩⟩⟩⟩
  have e70 : M 70 a = M 70 b := by omega
  rw [t.vns]
  refine ⟨fun lt => ⟨by decide, by decide, ?_⟩, fun ge => same (-2) (fun Q hq => st_join_0 ⟨fun z => absurd z (by omega), fun _ => ⟨fun z => absurd z (by omega), fun _ => ⟨fun z => absurd z (by omega), fun _ => ⟨fun _ => ⟨by omega, by omega, by omega, by omega, fun z => absurd e70 z, fun _ => ⟨fun z => absurd z y3, fun _ => ⟨fun _ => ⟨fun z => absurd (by omega) z, fun _ => hq⟩, fun z => absurd y4 z⟩⟩⟩, fun z => absurd b1 z⟩⟩⟩⟩)⟩
  intro S8 V8 r8 mc8 ms8 q1 q2 q3 q4 q5
  subst q1 q2 q3 q4 q5
  have ux : ∀ L, c L ≠ S.2.2 + 1 := fun L => by have := (hc.2 L).2; omega
  have tg8 : ∀ L, (nw S 7 0).1 (c L) = S.1 (c L) := fun L => by show (if c L = S.2.2 + 1 then 7 else S.1 (c L)) = _; rw [if_neg (ux L)]
  have cl8 : ∀ L j, clr V (S.2.2 + 1) (c L) j = V (c L) j := fun L j => by unfold clr; rw [if_neg (ux L)]
  have va := ka.vbt
  have vb := kb.vbt
  simp only [tg8, cl8, ka.vg, kb.vg, va, vb]
  have bd := jbits_bd (h := h) ka.bt0 ka.bt1 kb.bt0 kb.bt1
  refine ⟨trivial, trivial, CT.pu (by decide) (fun d3 hd3 => ct_joined (by omega) y4 ⟨rfl, rfl, by omega, ?_⟩)⟩
  have g70 : M 70 a = 12 * V (c (128 * a + 66)) 0 + V (c (128 * a + 66)) 1 := ea.symm
  have w0 := ka.vb0
  have w1 := ka.vb1
  generalize V (c (128 * a + 66)) 0 = ba at *
  generalize V (c (128 * a + 66)) 1 = e_a at *
  refine CT.of 2046 1 0 (ct_selInit (L := 128 * M 0 72 + 66) hc h0 rfl (by decide) (fun S1 V1 r hc1 _ hW1 => ?_)) (by decide) (by decide) (by decide) (fun z S1 V1 hq => hq)
  refine ⟨?_, CT.im (by decide) (fun d3 hd3 => ct_keepSet hR rfl hc1 hW1 rfl rfl (by omega) (fun V2 hW2 => ?_))⟩
  · rw [show c 60 = upl c (128 * M 0 72 + 66) (S.2.2 + 1) 60 from by rw [upl_ne (by omega)], (Wr hW1).2.1, up_ne (by omega), up_ne (by omega), up_ne (by omega), up_ne (by omega), nwl_ne (by omega)]
    exact t.g60
  · refine hk _ _ S1 V2 (mSet M (M 0 72) (12 * ba + e_a) (jbits h (M 71 a) (M 71 b))) (fun Q hq => st_join_0 ⟨fun z => absurd z (by omega), fun _ => ⟨fun z => absurd z (by omega), fun _ => ⟨fun z => absurd z (by omega), fun _ => ⟨fun _ => ⟨by omega, by omega, by omega, by omega, fun z => absurd e70 z, fun _ => ⟨fun z => absurd z y3, fun _ => ⟨fun _ => ⟨fun _ => ⟨by omega, by omega, ?_⟩, fun z => absurd (by omega) z⟩, fun z => absurd y4 z⟩⟩⟩, fun z => absurd b1 z⟩⟩⟩⟩) hc1 (upl_ne (by omega)) (fun L q => ?_) ?_ ?_
    · rw [g70, show M 0 72 + 1 - 1 = M 0 72 from by omega]
      have h4 : h = 0 ∨ h = 1 ∨ h = 2 ∨ h = 3 := by omega
      rcases h4 with rfl | rfl | rfl | rfl
      · exact ⟨fun z => absurd rfl z, fun _ => ⟨by omega, by omega, by omega, by omega, hq⟩⟩
      · exact ⟨fun _ => ⟨fun z => absurd rfl z, fun _ => ⟨by omega, by omega, by omega, by omega, hq⟩⟩, fun z => absurd (by decide) z⟩
      · exact ⟨fun _ => ⟨fun _ => ⟨fun z => absurd rfl z, fun _ => ⟨by omega, by omega, by omega, by omega, hq⟩⟩, fun z => absurd (by decide) z⟩, fun z => absurd (by decide) z⟩
      · exact ⟨fun _ => ⟨fun _ => ⟨fun _ => ⟨by omega, by omega, by omega, by omega, hq⟩, fun z => absurd (by decide) z⟩, fun z => absurd (by decide) z⟩, fun z => absurd (by decide) z⟩
    · rw [hW2]
      exact set_lab (c := c) (N := Wv c S V) L q
    · rw [hW2]
      exact hR.mset (by omega) w0 w1 a2 a3 bd.1 bd.2
    · rw [mSet_ne (by omega)]
      omega⟩

