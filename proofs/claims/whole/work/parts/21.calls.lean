/-! ===== calls that change nothing ===== -/
section PURE
variable {l : Launch} {G : GT} {B : BT} {Q : Int → Sh → Mem → Prop} {c : Int → Int} {S : Sh} {V M : Mem} {d mc ms : Nat}
theorem CT.pu {as : List AV} {K : Int → Sh → Mem → Nat → Nat → Prop} (hd : 1 ≤ d) (h : ∀ d1, d1 + 1 = d → Ct l G B (fun z S' V' => S' = S ∧ V' = V ∧ K z S V mc ms) d1 0 0 as S V) : CT l G B d mc ms as S V K :=
  CT.of (d - 1) 0 0 (h _ (by omega)) (by omega) (Nat.zero_le _) (Nat.zero_le _) (fun z S' V' hq => by obtain ⟨rfl, rfl, k⟩ := hq; exact k)
theorem call_pure {id : Nat} {cas : List AV} {as : List Int} (h : ∀ (l : Launch) (G : GT) (c : Int → Int) (S : Sh) (V M : Mem) (Q : Int → Sh → Mem → Prop), Cn c S → Rel c (Wv c S V) M → (∀ z, RunM 2047 id as M z M → Q z S V) → Ct l G B Q 2047 0 0 (vr (c 60) :: cas) S V) : CallOK CI B id cas as := by
  intro l G x m a S V M mr ci
  obtain ⟨c, hc, hx, hm, ha, hR⟩ := ci
  subst hx
  have e1 : V (c 60) 1 = M 0 2 := hR.top.vtl
  have e2 := hR.top.tl0
  exact ⟨0, 0, by decide, by omega, h l G c S V M _ hc hR (fun z hq => ⟨M, hq, mr, ⟨c, hc, rfl, hm, ha, hR⟩, by omega⟩)⟩
theorem ct_bookAt {b : Int} (hR : Rel c (Wv c S V) M) (h1 : 0 ≤ b → b < M 0 8 → Q (c (128 * b + 1)) S V) (h2 : ¬ (0 ≤ b ∧ b < M 0 8) → Q 0 S V) : Ct l G bX11_bookAt Q d mc ms [vr (c 60), vi b] S V :=
  qX11_bookAt fun _ _ => vX11_bookAt_0 <| by
    have t := hR.top
    have e := t.nb1
    simp only [t.vnb, t.vr5, t.vg62, t.vn62, t.vg60]
    refine ⟨fun _ => h2 (by omega), fun _ => ⟨trivial, fun _ => ⟨trivial, by omega, by omega, ?_⟩, fun _ => h2 (by omega)⟩⟩
    rw [(hR.bk (by omega) (by omega)).bk.vr]
    exact h1 (by omega) (by omega)
theorem ct_enumAt {b e : Int} (hB : BkR c (Wv c S V) M b) (h1 : 0 ≤ e → e < M 10 b → Q (c (128 * (12 * b + e) + 3)) S V) (h2 : ¬ (0 ≤ e ∧ e < M 10 b) → Q 0 S V) : Ct l G bX0_enumAt Q d mc ms [vr (c (128 * b + 1)), vi e] S V :=
  qX0_enumAt fun _ _ => vX0_enumAt_0 <| by
    have t := hB.bk
    have e1 := t.ne1
    simp only [t.vne, t.vr0, t.vg1, t.vg2, t.vn2]
    refine ⟨fun _ => h2 (by omega), fun _ => ⟨trivial, fun _ => ⟨trivial, by omega, by omega, ?_⟩, fun _ => h2 (by omega)⟩⟩
    rw [t.vre e (by omega) (by omega)]
    exact h1 (by omega) (by omega)
theorem ct_enumOf {b e : Int} (hc : Cn c S) (hR : Rel c (Wv c S V) M) (hd : 1 ≤ d) (h1 : 0 ≤ b → b < M 0 8 → 0 ≤ e → e < M 10 b → Q (c (128 * (12 * b + e) + 3)) S V) (h2 : ¬ (0 ≤ b ∧ b < M 0 8 ∧ 0 ≤ e ∧ e < M 10 b) → Q 0 S V) : Ct l G bX11_enumOf Q d mc ms [vr (c 60), vi b, vi e] S V :=
  qX11_enumOf fun _ _ _ => vX11_enumOf_0 ⟨hR.top.vg60, CT.pu hd (fun d1 hd1 => ct_bookAt hR (fun b0 b1 => ⟨rfl, rfl, fun _ => ⟨(hR.bk b0 b1).bk.vg1, CT.pu hd (fun d2 hd2 => ct_enumAt (hR.bk b0 b1) (fun e0 e1 => ⟨rfl, rfl, h1 b0 b1 e0 e1⟩) (fun h => ⟨rfl, rfl, h2 (by omega)⟩))⟩, fun h => absurd (hc.2 _).1 h⟩) (fun h => ⟨rfl, rfl, fun h' => absurd rfl h', fun _ => h2 (by omega)⟩))⟩
end PURE
section MODEL
variable {d : Nat} {M : Mem} {Q : Int → Mem → Prop}
theorem pm_isEnum {b e : Int} (hb : M 0 8 ≤ 10) (h1 : 0 ≤ b → b < M 0 8 → 0 ≤ e → e < M 10 b → Q 1 M) (h2 : ¬ (0 ≤ b ∧ b < M 0 8 ∧ 0 ≤ e ∧ e < M 10 b) → Q 0 M) : PM (d + 1) n_isEnum_0 [b, e] M Q := by
  refine st_isEnum_0 ?_
  unfold B_isEnum_0
  repeat' (first | exact h1 (by omega) (by omega) (by omega) (by omega) | exact h2 (by omega) | refine ⟨?_, ?_⟩ | intro _ | omega)
theorem pm_isConstant {b e i : Int} (hb : M 0 8 ≤ 10) (he : ∀ b, 0 ≤ b → b < M 0 8 → M 10 b ≤ 12) (h1 : 0 ≤ b → b < M 0 8 → 0 ≤ e → e < M 10 b → 0 ≤ i → i < M 14 (12 * b + e) → Q 1 M) (h2 : ¬ (0 ≤ b ∧ b < M 0 8 ∧ 0 ≤ e ∧ e < M 10 b ∧ 0 ≤ i ∧ i < M 14 (12 * b + e)) → Q 0 M) : PM (d + 2) n_isConstant_0 [b, e, i] M Q := by
  refine st_isConstant_0 ?_
  unfold B_isConstant_0
  refine pm_isEnum hb (fun b0 b1 e0 e1 => ?_) (fun h => ?_)
  · have := he b b0 b1
    repeat' (first | exact h1 (by omega) (by omega) (by omega) (by omega) (by omega) (by omega) | exact h2 (by omega) | refine ⟨?_, ?_⟩ | intro _ | omega)
  · repeat' (first | exact h2 (by omega) | refine ⟨?_, ?_⟩ | intro _ | omega)
end MODEL

theorem call_wrong : CallOK CI bX11_wrong n_wrong_0 [] [] := call_pure fun l G c S V M Q hc hR hk => qX11_wrong fun _ => vX11_wrong_0 <| by
  have t := hR.top
  simp only [t.vg60, t.vlf]
  refine ⟨trivial, hk _ ?_⟩
  intro Q hq
  exact st_wrong_0 hq
theorem call_out : CallOK CI bX11_out n_out_0 [] [] := call_pure fun l G c S V M Q hc hR hk => qX11_out fun _ => vX11_out_0 <| by
  have t := hR.top
  simp only [t.vg60, t.vlo]
  refine ⟨trivial, hk _ ?_⟩
  intro Q hq
  exact st_out_0 hq
theorem call_told (b w : Int) : CallOK CI bX11_told n_told_0 [vi b, vi w] [b, w] := call_pure fun l G c S V M Q hc hR hk => qX11_told fun _ _ _ => vX11_told_0 <| by
  have t := hR.top
  have n1 := t.nb1
  refine ⟨t.vg60, CT.pu (by decide) (fun d1 hd1 => ct_bookAt hR (fun b0 b1 => ⟨rfl, rfl, ?_⟩) (fun h => ⟨rfl, rfl, ?_⟩))⟩
  · have k := (hR.bk b0 b1).bk
    simp only [k.vg1, k.vne, k.vna, k.vnt, k.vnz]
    refine ⟨fun _ => ⟨fun _ => ⟨trivial, hk _ ?_⟩, fun _ => ⟨fun _ => ⟨trivial, hk _ ?_⟩, fun _ => ⟨fun _ => ⟨trivial, hk _ ?_⟩, fun _ => ⟨fun _ => ⟨trivial, hk _ ?_⟩, fun _ => hk _ ?_⟩⟩⟩⟩, fun h => absurd (hc.2 _).1 h⟩
    all_goals
      intro Q hq
      refine st_told_0 ?_
      unfold B_told_0
      repeat' (first | exact hq | assumption | refine ⟨?_, ?_⟩ | intro _ | omega)
  · refine ⟨fun h => absurd rfl h, fun _ => hk _ ?_⟩
    intro Q hq
    refine st_told_0 ?_
    unfold B_told_0
    repeat' (first | exact hq | assumption | refine ⟨?_, ?_⟩ | intro _ | omega)

theorem call_about (b e w : Int) : CallOK CI bX11_about n_about_0 [vi b, vi e, vi w] [b, e, w] := call_pure fun l G c S V M Q hc hR hk => qX11_about fun _ _ _ _ => vX11_about_0 <| by
  have t := hR.top
  have n1 := t.nb1
  refine ⟨t.vg60, CT.pu (by decide) (fun d1 hd1 => ct_enumOf hc hR (by omega) (fun b0 b1 e0 e1 => ⟨rfl, rfl, ?_⟩) (fun h => ⟨rfl, rfl, ?_⟩))⟩
  · have kb := hR.bk b0 b1
    have u := kb.bk.ne1
    have k := (kb.be e0 e1).en
    simp only [k.vg3, k.vnc, k.vnt, k.vnk, k.vnh, k.vnw]
    refine ⟨fun _ => ⟨fun _ => ⟨trivial, hk _ ?_⟩, fun _ => ⟨fun _ => ⟨trivial, hk _ ?_⟩, fun _ => ⟨fun _ => ⟨trivial, hk _ ?_⟩, fun _ => ⟨fun _ => ⟨trivial, hk _ ?_⟩, fun _ => ⟨fun _ => ⟨trivial, hk _ ?_⟩, fun _ => hk _ ?_⟩⟩⟩⟩⟩, fun h => absurd (hc.2 _).1 h⟩
    all_goals
      intro Q hq
      refine st_about_0 ?_
      unfold B_about_0
      
      refine pm_isEnum n1 (fun _ _ _ _ => ?_) (fun h => ?_)
      · repeat' (first | exact hq | assumption | refine ⟨?_, ?_⟩ | intro _ | omega)
      · omega
  · refine ⟨fun h => absurd rfl h, fun _ => hk _ ?_⟩
    intro Q hq
    refine st_about_0 ?_
    unfold B_about_0
    
    refine pm_isEnum n1 (fun _ _ _ _ => ?_) (fun h => ?_)
    · omega
    · repeat' (first | exact hq | assumption | refine ⟨?_, ?_⟩ | intro _ | omega)
theorem call_start (b i : Int) : CallOK CI bX11_start n_start_0 [vi b, vi i] [b, i] := call_pure fun l G c S V M Q hc hR hk => qX11_start fun _ _ _ => vX11_start_0 <| by
  have t := hR.top
  have n1 := t.nb1
  refine ⟨t.vg60, CT.pu (by decide) (fun d1 hd1 => ct_bookAt hR (fun b0 b1 => ⟨rfl, rfl, ?_⟩) (fun h => ⟨rfl, rfl, ?_⟩))⟩
  · have k := (hR.bk b0 b1).bk
    have k1 := k.nt1
    simp only [k.vg1, k.vnt, k.vr5, k.vg24, k.vn24]
    refine ⟨fun h => absurd h (hc.2 _).1, fun _ => ⟨fun _ => hk _ ?_, fun _ => ⟨trivial, fun _ => ⟨trivial, by omega, by omega, hk _ ?_⟩, fun _ => hk _ ?_⟩⟩⟩
    rotate_left
    rw [k.vts i (by omega) (by omega)]
    all_goals
      intro Q hq
      refine st_start_0 ?_
      unfold B_start_0
      
      repeat' (first | exact hq | assumption | refine ⟨?_, ?_⟩ | intro _ | omega)
  · refine ⟨fun _ => hk _ ?_, fun h => absurd rfl h⟩
    intro Q hq
    refine st_start_0 ?_
    unfold B_start_0
    
    repeat' (first | exact hq | assumption | refine ⟨?_, ?_⟩ | intro _ | omega)
theorem call_seen (b i w : Int) : CallOK CI bX11_seen n_seen_0 [vi b, vi i, vi w] [b, i, w] := call_pure fun l G c S V M Q hc hR hk => qX11_seen fun _ _ _ _ => vX11_seen_0 <| by
  have t := hR.top
  have n1 := t.nb1
  refine ⟨t.vg60, CT.pu (by decide) (fun d1 hd1 => ct_bookAt hR (fun b0 b1 => ⟨rfl, rfl, ?_⟩) (fun h => ⟨rfl, rfl, ?_⟩))⟩
  · have k := (hR.bk b0 b1).bk
    have k1 := k.nz1
    have k2 := k.cl1
    have k3 := k.vnz1
    simp only [k.vg1, k.vnz, k.vr7, k.vr8, k.vg25, k.vn25, k.vg26, k.vn26]
    refine ⟨fun h => absurd h (hc.2 _).1, fun _ => ⟨fun _ => hk _ ?_, fun _ => ⟨trivial, fun _ => ⟨fun _ => ⟨fun _ => hk _ ?_, fun _ => ⟨trivial, by omega, by omega, hk _ ?_⟩⟩, fun _ => ⟨trivial, by omega, by omega, hk _ ?_⟩⟩, fun _ => hk _ ?_⟩⟩⟩
    rotate_left 2
    rw [k.vzo i (by omega) (by omega)]
    rotate_left
    rw [k.vzb i (by omega) (by omega)]
    have k4 : M 62 b ≤ 3000 := Int.le_trans k1 k2
    rotate_left
    all_goals
      have k4 : M 62 b ≤ 3000 := Int.le_trans k1 k2
      intro Q hq
      refine st_seen_0 ?_
      unfold B_seen_0
      
      repeat' (first | exact hq | assumption | refine ⟨?_, ?_⟩ | intro _ | omega)
  · refine ⟨fun _ => hk _ ?_, fun h => absurd rfl h⟩
    intro Q hq
    refine st_seen_0 ?_
    unfold B_seen_0
    
    repeat' (first | exact hq | assumption | refine ⟨?_, ?_⟩ | intro _ | omega)
theorem call_cause (i w : Int) : CallOK CI bX11_cause n_cause_0 [vi i, vi w] [i, w] := call_pure fun l G c S V M Q hc hR hk => qX11_cause fun _ _ _ => vX11_cause_0 <| by
  have t := hR.top
  have k := hR.wk
  have k0 := k.cc0
  have k1 := k.cc1
  simp only [t.vg60, t.vr4, k.vg30]
  refine ⟨fun _ => ⟨fun _ => hk _ ?_, fun _ => ⟨trivial, trivial, CT.pu (by decide) (fun d1 hd1 => qX10_causeItem fun _ _ => vX10_causeItem_0 ?_)⟩⟩, fun _ => ⟨trivial, trivial, CT.pu (by decide) (fun d1 hd1 => qX10_causeKind fun _ _ => vX10_causeKind_0 ?_)⟩⟩
  rotate_left
  all_goals
    try simp only [k.vg30, k.vcc, k.vr6, k.vr7, k.vg33, k.vn33, k.vg34, k.vn34]
  · refine ⟨fun _ => ⟨trivial, trivial, hk _ ?_⟩, fun _ => ⟨trivial, fun _ => ⟨by omega, by omega, by omega, by omega, trivial, by omega, by omega, trivial, trivial, hk _ ?_⟩, fun _ => ⟨trivial, trivial, hk _ ?_⟩⟩⟩
    rotate_left
    rw [k.vci _ (by omega) (by omega)]
    all_goals
      intro Q hq
      refine st_cause_0 ?_
      unfold B_cause_0
      
      repeat' (first | exact hq | assumption | refine ⟨?_, ?_⟩ | intro _ | omega)
  · refine ⟨fun _ => ⟨trivial, trivial, hk _ ?_⟩, fun _ => ⟨trivial, fun _ => ⟨by omega, by omega, by omega, by omega, trivial, by omega, by omega, trivial, trivial, hk _ ?_⟩, fun _ => ⟨trivial, trivial, hk _ ?_⟩⟩⟩
    rotate_left
    rw [k.vck _ (by omega) (by omega)]
    all_goals
      intro Q hq
      refine st_cause_0 ?_
      unfold B_cause_0
      
      repeat' (first | exact hq | assumption | refine ⟨?_, ?_⟩ | intro _ | omega)
  ·
    intro Q hq
    refine st_cause_0 ?_
    unfold B_cause_0
    
    repeat' (first | exact hq | assumption | refine ⟨?_, ?_⟩ | intro _ | omega)

