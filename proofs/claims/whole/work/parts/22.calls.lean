/-! ===== more calls that change nothing ===== -/
section PURE2
variable {l : Launch} {G : GT} {B : BT} {Q : Int → Sh → Mem → Prop} {c : Int → Int} {S : Sh} {V M : Mem} {d mc ms : Nat}
theorem ct_constantAt {g i : Int} (hE : BkE c (Wv c S V) M g) (h1 : 0 ≤ i → i < M 14 g → Q (c (128 * (24 * g + i) + 5)) S V) (h2 : ¬ (0 ≤ i ∧ i < M 14 g) → Q 0 S V) : Ct l G bX3_constantAt Q d mc ms [vr (c (128 * g + 3)), vi i] S V :=
  qX3_constantAt fun _ _ => vX3_constantAt_0 <| by
    have t := hE.en
    have e1 := t.nc1
    simp only [t.vnc, t.vr3, t.vg3, t.vg4, t.vn4]
    refine ⟨fun _ => h2 (by omega), fun _ => ⟨trivial, fun _ => ⟨trivial, by omega, by omega, ?_⟩, fun _ => h2 (by omega)⟩⟩
    rw [t.vrc i (by omega) (by omega)]
    exact h1 (by omega) (by omega)
theorem ct_hasAct {b k : Int} (hc : Cn c S) (hR : Rel c (Wv c S V) M) (hd : 1 ≤ d) (h1 : 0 ≤ b → b < M 0 8 → 0 ≤ k → k < M 11 b → Q 1 S V) (h2 : ¬ (0 ≤ b ∧ b < M 0 8 ∧ 0 ≤ k ∧ k < M 11 b) → Q 0 S V) : Ct l G bX11_hasAct Q d mc ms [vr (c 60), vi b, vi k] S V :=
  qX11_hasAct fun _ _ _ => vX11_hasAct_0 ⟨hR.top.vg60, CT.pu hd (fun d1 hd1 => ct_bookAt hR (fun b0 b1 => ⟨rfl, rfl, by
    have k1 := (hR.bk b0 b1).bk
    simp only [k1.vg1, k1.vna]
    exact ⟨fun h => absurd h (hc.2 _).1, fun _ => ⟨fun _ => h2 (by omega), fun _ => ⟨trivial, fun _ => h2 (by omega), fun _ => h1 b0 b1 (by omega) (by omega)⟩⟩⟩⟩) (fun h => ⟨rfl, rfl, fun _ => h2 (by omega), fun h' => absurd rfl h'⟩))⟩
theorem ct_setAt {s : Int} (hR : Rel c (Wv c S V) M) (h1 : 0 ≤ s → s < M 0 72 → Q (c (128 * s + 66)) S V) (h2 : ¬ (0 ≤ s ∧ s < M 0 72) → Q 0 S V) : Ct l G bX11_setAt Q d mc ms [vr (c 60), vi s] S V :=
  qX11_setAt fun _ _ => vX11_setAt_0 <| by
    have t := hR.top
    have e := t.ns1
    simp only [t.vns, t.vr9, t.vg63, t.vn63, t.vg60]
    refine ⟨fun _ => h2 (by omega), fun _ => ⟨trivial, fun _ => ⟨trivial, by omega, by omega, ?_⟩, fun _ => h2 (by omega)⟩⟩
    rw [(hR.st (by omega) (by omega)).vr]
    exact h1 (by omega) (by omega)
theorem ct_mapAt {s : Int} (hR : Rel c (Wv c S V) M) (h1 : 0 ≤ s → s < M 0 76 → Q (c (128 * s + 67)) S V) (h2 : ¬ (0 ≤ s ∧ s < M 0 76) → Q 0 S V) : Ct l G bX11_mapAt Q d mc ms [vr (c 60), vi s] S V :=
  qX11_mapAt fun _ _ => vX11_mapAt_0 <| by
    have t := hR.top
    have e := t.nm1
    simp only [t.vnm, t.vr11, t.vg64, t.vn64, t.vg60]
    refine ⟨fun _ => h2 (by omega), fun _ => ⟨trivial, fun _ => ⟨trivial, by omega, by omega, ?_⟩, fun _ => h2 (by omega)⟩⟩
    rw [(hR.mp (by omega) (by omega)).vr]
    exact h1 (by omega) (by omega)
theorem ct_messageAt {n : Int} (hR : Rel c (Wv c S V) M) (h1 : 0 ≤ n → n < M 0 81 → Q (c (128 * n + 70)) S V) (h2 : ¬ (0 ≤ n ∧ n < M 0 81) → Q 0 S V) : Ct l G bX11_messageAt Q d mc ms [vr (c 60), vi n] S V :=
  qX11_messageAt fun _ _ => vX11_messageAt_0 <| by
    have t := hR.top
    have e := t.ng1
    simp only [t.vng, t.vr13, t.vg65, t.vn65, t.vg60]
    refine ⟨fun _ => h2 (by omega), fun _ => ⟨trivial, fun _ => ⟨trivial, by omega, by omega, ?_⟩, fun _ => h2 (by omega)⟩⟩
    rw [(hR.ms (by omega) (by omega)).vr]
    exact h1 (by omega) (by omega)
def itOK (M : Mem) (b it : Int) : Prop := (it < 100 ∧ 0 ≤ it ∧ it < M 10 b) ∨ (100 ≤ it ∧ (it - 100) / 4 < M 10 b ∧ (it - 100) % 4 < M 17 (12 * b + (it - 100) / 4))
theorem ct_isHolder {i : Int} (h1 : i < 100 → Q 0 S V) (h2 : 100 ≤ i → Q 1 S V) : Ct l G bX0_isHolder Q d mc ms [vi i] S V := qX0_isHolder fun _ => vX0_isHolder_0 ⟨h1, fun h => h2 (by omega)⟩
theorem ct_enumOfItem {i : Int} (hd : 1 ≤ d) (h1 : i < 100 → Q i S V) (h2 : 100 ≤ i → Q ((i - 100) / 4) S V) : Ct l G bX0_enumOfItem Q d mc ms [vi i] S V := qX0_enumOfItem fun hi => vX0_enumOfItem_0 <| CT.pu hd fun d1 hd1 => ct_isHolder (fun h => ⟨rfl, rfl, fun _ => h1 h, fun h' => absurd rfl h'⟩) (fun h => ⟨rfl, rfl, fun h' => absurd h' (by decide), fun _ => by
  unfold inI at hi
  rw [Int.tdiv_eq_ediv_of_nonneg (by omega)]
  exact ⟨by omega, by omega, h2 h⟩⟩)
theorem ct_holderOfItem {i : Int} (hd : 1 ≤ d) (h1 : i < 100 → Q (-1) S V) (h2 : 100 ≤ i → Q ((i - 100) % 4) S V) : Ct l G bX0_holderOfItem Q d mc ms [vi i] S V := qX0_holderOfItem fun hi => vX0_holderOfItem_0 <| CT.pu hd fun d1 hd1 => ct_isHolder (fun h => ⟨rfl, rfl, fun _ => h1 h, fun h' => absurd rfl h'⟩) (fun h => ⟨rfl, rfl, fun h' => absurd h' (by decide), fun _ => by
  unfold inI at hi
  rw [Int.tmod_eq_emod_of_nonneg (by omega)]
  exact ⟨by omega, by omega, h2 h⟩⟩)
theorem ct_hasItem {b i : Int} (hc : Cn c S) (hB : BkR c (Wv c S V) M b) (hd : 2 ≤ d) (h1 : itOK M b i → Q 1 S V) (h2 : ¬ itOK M b i → Q 0 S V) : Ct l G bX0_hasItem Q d mc ms [vr (c (128 * b + 1)), vi i] S V := by
  have u := hB.bk.ne1
  refine qX0_hasItem fun _ _ => vX0_hasItem_0 <| CT.pu (by omega) fun d1 hd1 => ct_enumOfItem (by omega) (fun hi => ⟨rfl, rfl, hB.bk.vg1, ?_⟩) (fun hi => ⟨rfl, rfl, hB.bk.vg1, ?_⟩)
  · refine CT.pu (by omega) fun d2 hd2 => ct_enumAt hB (fun e0 e1 => ⟨rfl, rfl, fun h => absurd h (hc.2 _).1, fun _ => ?_⟩) (fun h => ⟨rfl, rfl, fun _ => h2 (fun q => by rcases q with q | q <;> omega), fun h' => absurd rfl h'⟩)
    have k := (hB.be e0 e1).en
    have k0 := k.nh0
    refine CT.pu (by omega) fun d3 hd3 => ct_holderOfItem (by omega) (fun _ => ⟨rfl, rfl, k.vg3, ?_⟩) (fun h => absurd hi (by omega))
    rw [k.vnh]
    exact ⟨fun h => by omega, fun _ => h1 (Or.inl (by omega))⟩
  · refine CT.pu (by omega) fun d2 hd2 => ct_enumAt hB (fun e0 e1 => ⟨rfl, rfl, fun h => absurd h (hc.2 _).1, fun _ => ?_⟩) (fun h => ⟨rfl, rfl, fun _ => h2 (fun q => by rcases q with q | q <;> omega), fun h' => absurd rfl h'⟩)
    have k := (hB.be e0 e1).en
    refine CT.pu (by omega) fun d3 hd3 => ct_holderOfItem (by omega) (fun h => absurd hi (by omega)) (fun _ => ⟨rfl, rfl, k.vg3, ?_⟩)
    rw [k.vnh]
    exact ⟨fun h => h2 (fun q => by rcases q with q | q <;> omega), fun h => h1 (Or.inr (by omega))⟩
theorem ct_stateOf {b i : Int} (hB : BkR c (Wv c S V) M b) (i0 : 0 ≤ i) (i1 : i < 148) (h1 : Q (M 52 (160 * b + i)) S V) : Ct l G bX0_stateOf Q d mc ms [vr (c (128 * b + 1)), vi i] S V := qX0_stateOf fun _ _ => vX0_stateOf_0 <| by
  have k := hB.bk
  simp only [k.vg1, k.vr4, k.vg23, k.vn23]
  refine ⟨fun _ => by omega, fun _ => ⟨fun _ => ⟨trivial, trivial, i0, i1, ?_⟩, fun h => absurd i1 h⟩⟩
  rw [k.vst i i0 i1]
  exact h1
theorem it_rng {b i : Int} (hB : BkR c (Wv c S V) M b) (h : itOK M b i) : 0 ≤ i ∧ i < 148 := by
  have u := hB.bk.ne1
  rcases h with h | h <;> omega
end PURE2
section MODEL2
variable {d : Nat} {M : Mem} {Q : Int → Mem → Prop}
theorem pm_isItem {b i : Int} (hb : M 0 8 ≤ 10) (he : ∀ b, 0 ≤ b → b < M 0 8 → M 10 b ≤ 12) (hi : inI i) (h1 : 0 ≤ b → b < M 0 8 → itOK M b i → Q 1 M) (h2 : ¬ (0 ≤ b ∧ b < M 0 8 ∧ itOK M b i) → Q 0 M) : PM (d + 2) n_isItem_0 [b, i] M Q := by
  unfold inI at hi
  refine st_isItem_0 ?_
  unfold B_isItem_0
  refine ⟨fun hi0 => ?_, fun hi0 => ?_⟩
  · rw [Int.tdiv_eq_ediv_of_nonneg (by omega), Int.tmod_eq_emod_of_nonneg (by omega)]
    refine ⟨by omega, by omega, pm_isEnum hb (fun b0 b1 e0 e1 => ?_) (fun h => ?_)⟩
    · have := he b b0 b1
      refine ⟨fun h => absurd h (by decide), fun _ => ⟨by omega, by omega, by omega, by omega, by omega, by omega, fun h => h2 (fun q => ?_), fun h => h1 b0 b1 (Or.inr (by omega))⟩⟩
      rcases q.2.2 with q | q <;> omega
    · refine ⟨fun _ => h2 (fun q => ?_), fun h => absurd rfl h⟩
      rcases q.2.2 with q | q <;> omega
  · refine pm_isEnum hb (fun b0 b1 e0 e1 => ⟨Or.inr rfl, h1 b0 b1 (Or.inl (by omega))⟩) (fun h => ⟨Or.inl rfl, h2 (fun q => ?_)⟩)
    rcases q.2.2 with q | q <;> omega
end MODEL2
theorem call_state (b i : Int) : CallOK CI bX11_state n_state_0 [vi b, vi i] [b, i] := call_pure fun l G c S V M Q hc hR hk => qX11_state fun _ _ hi => vX11_state_0 <| by
  have t := hR.top
  have n1 := t.nb1
  have he : ∀ b, 0 ≤ b → b < M 0 8 → M 10 b ≤ 12 := fun b b0 b1 => (hR.bk b0 b1).bk.ne1
  have no : ¬ (0 ≤ b ∧ b < M 0 8 ∧ itOK M b i) → RunM 2047 n_state_0 [b, i] M (-1) M := fun h Q hq => by
    refine st_state_0 ?_
    unfold B_state_0
    exact pm_isItem n1 he hi (fun b0 b1 q => absurd ⟨b0, b1, q⟩ h) (fun _ => ⟨fun _ => hq, fun h => absurd rfl h⟩)
  refine ⟨t.vg60, CT.pu (by decide) (fun d1 hd1 => ct_bookAt hR (fun b0 b1 => ⟨rfl, rfl, fun h => absurd h (hc.2 _).1, fun _ => ⟨(hR.bk b0 b1).bk.vg1, ?_⟩⟩) (fun h => ⟨rfl, rfl, fun _ => hk _ (no (fun q => h ⟨q.1, q.2.1⟩)), fun h' => absurd rfl h'⟩))⟩
  refine CT.pu (by decide) (fun d2 hd2 => ct_hasItem hc (hR.bk b0 b1) (by omega) (fun hit => ⟨rfl, rfl, fun _ => ⟨(hR.bk b0 b1).bk.vg1, ?_⟩, fun h => absurd (by decide) h⟩) (fun h => ⟨rfl, rfl, fun h' => absurd rfl h', fun _ => hk _ (no (fun q => h q.2.2))⟩))
  obtain ⟨i0, i1⟩ := it_rng (hR.bk b0 b1) hit
  refine CT.pu (by decide) (fun d3 hd3 => ct_stateOf (hR.bk b0 b1) i0 i1 ⟨rfl, rfl, hk _ (fun Q hq => ?_)⟩)
  refine st_state_0 ?_
  unfold B_state_0
  exact pm_isItem n1 he hi (fun _ _ _ => ⟨fun h => absurd h (by decide), fun _ => ⟨by omega, by omega, by omega, by omega, by omega, by omega, hq⟩⟩) (fun h => absurd ⟨b0, b1, hit⟩ h)

theorem call_body (b e i k : Int) : CallOK CI bX11_body n_body_0 [vi b, vi e, vi i, vi k] [b, e, i, k] := call_pure fun l G c S V M Q hc hR hk => qX11_body fun _ _ _ _ _ => vX11_body_0 <| by
  have t := hR.top
  have n1 := t.nb1
  have he : ∀ b, 0 ≤ b → b < M 0 8 → M 10 b ≤ 12 := fun b b0 b1 => (hR.bk b0 b1).bk.ne1
  have no : ¬ (0 ≤ b ∧ b < M 0 8 ∧ 0 ≤ e ∧ e < M 10 b ∧ (i = -1 ∨ (0 ≤ i ∧ i < M 14 (12 * b + e))) ∧ 0 ≤ k ∧ k < M 11 b) → RunM 2047 n_body_0 [b, e, i, k] M (-1) M := fun h Q hq => by
    refine st_body_0 ?_
    unfold B_body_0
    refine ⟨fun hi => pm_isConstant n1 he (fun b0 b1 e0 e1 i0 i1 => ?_) (fun h => ?_), fun hi => pm_isEnum n1 (fun b0 b1 e0 e1 => ?_) (fun h => ?_)⟩
    · have u := he b b0 b1
      have u1 := ((hR.bk b0 b1).be e0 e1).en.nc1
      have u2 := (hR.bk b0 b1).bk.na1
      repeat' (first | exact hq | assumption | refine ⟨?_, ?_⟩ | intro _ | omega)
    · exact ⟨fun _ => hq, fun h => absurd rfl h⟩
    · have u := he b b0 b1
      have u2 := (hR.bk b0 b1).bk.na1
      repeat' (first | exact hq | assumption | refine ⟨?_, ?_⟩ | intro _ | omega)
    · exact ⟨fun _ => hq, fun h => absurd rfl h⟩
  refine ⟨t.vg60, CT.pu (by decide) (fun d1 hd1 => ct_enumOf hc hR (by omega) (fun b0 b1 e0 e1 => ⟨rfl, rfl, fun _ => ⟨((hR.bk b0 b1).be e0 e1).en.vg3, ?_⟩, fun h => absurd (hc.2 _).1 h⟩) (fun h => ⟨rfl, rfl, fun h' => absurd rfl h', fun _ => hk _ (no (by omega))⟩))⟩
  have kb := (hR.bk b0 b1).bk
  have ke := (hR.bk b0 b1).be e0 e1
  have u := kb.ne1
  have u1 := ke.en.nc1
  have u2 := kb.na1
  refine CT.pu (by decide) (fun d2 hd2 => ct_constantAt ke (fun i0 i1 => ⟨rfl, rfl, fun _ => ⟨t.vg60, ?_⟩, fun h => absurd (hc.2 _).1 h⟩) (fun hi => ⟨rfl, rfl, fun h' => absurd rfl h', fun _ => ⟨fun hm => ⟨t.vg60, ?_⟩, fun hm => hk _ (no (by omega))⟩⟩))
  · refine CT.pu (by decide) (fun d3 hd3 => ct_hasAct hc hR (by omega) (fun _ _ k0 k1 => ⟨rfl, rfl, fun _ => ⟨fun _ => ?_, fun h => absurd (hc.2 _).1 h⟩, fun h => absurd (by decide) h⟩) (fun h => ⟨rfl, rfl, fun h' => absurd rfl h', fun _ => hk _ (no (by omega))⟩))
    have kc := ke.cn i0 i1
    have kk := kc.vbd k k0 (by omega)
    simp only [kc.vg5, kc.vr3, kc.vg6, kc.vn6]
    refine ⟨trivial, trivial, k0, by omega, fun h => hk _ (fun Q hq => ?_), fun h => hk _ (fun Q hq => ?_)⟩
    all_goals
      refine st_body_0 ?_
      unfold B_body_0
      refine ⟨fun hi => pm_isConstant n1 he (fun b0 b1 e0 e1 i0 i1 => ?_) (fun h => ?_), fun hi => absurd (show i ≠ -1 by omega) hi⟩
      · repeat' (first | exact hq | assumption | refine ⟨?_, ?_⟩ | intro _ | omega)
      · omega
  · refine CT.pu (by decide) (fun d3 hd3 => ct_hasAct hc hR (by omega) (fun _ _ k0 k1 => ⟨rfl, rfl, fun _ => ⟨fun h => absurd rfl h, fun _ => ?_⟩, fun h => absurd (by decide) h⟩) (fun h => ⟨rfl, rfl, fun h' => absurd rfl h', fun _ => hk _ (no (by omega))⟩))
    have kc := ke.en
    have kk := kc.vbd k k0 (by omega)
    simp only [kc.vg3, kc.vr6, kc.vg7, kc.vn7]
    refine ⟨trivial, trivial, k0, by omega, fun h => hk _ (fun Q hq => ?_), fun h => hk _ (fun Q hq => ?_)⟩
    all_goals
      refine st_body_0 ?_
      unfold B_body_0
      refine ⟨fun hi => absurd hm hi, fun hi => pm_isEnum n1 (fun b0 b1 e0 e1 => ?_) (fun h => ?_)⟩
      · repeat' (first | exact hq | assumption | refine ⟨?_, ?_⟩ | intro _ | omega)
      · omega
theorem sig_div {b e i q : Int} (h : 24 * (12 * b + e) + i = q) (b0 : 0 ≤ b) (e0 : 0 ≤ e) (e1 : e < 12) (i0 : 0 ≤ i) (i1 : i < 24) : (q.tdiv 24).tmod 12 = e ∧ q.tmod 24 = i := by
  rw [Int.tdiv_eq_ediv_of_nonneg (by omega), Int.tmod_eq_emod_of_nonneg (by omega), Int.tmod_eq_emod_of_nonneg (by omega)]
  omega
theorem call_signal (n i w : Int) : CallOK CI bX11_signal n_signal_0 [vi n, vi i, vi w] [n, i, w] := call_pure fun l G c S V M Q hc hR hk => qX11_signal fun _ _ _ _ => vX11_signal_0 <| by
  have t := hR.top
  have n1 := t.ng1
  refine ⟨t.vg60, CT.pu (by decide) (fun d1 hd1 => ct_messageAt hR (fun b0 b1 => ⟨rfl, rfl, fun h => absurd h (hc.2 _).1, fun _ => ?_⟩) (fun h => ⟨rfl, rfl, fun _ => hk _ ?_, fun h' => absurd rfl h'⟩))⟩
  · have k := hR.ms b0 b1
    have kd := hR.dr b0 (by omega)
    have z1 := k.z1
    have z0 := k.z0
    have ub := k.b0
    simp only [kd.vg, k.vz, k.vb, kd.vr2, kd.vr3, kd.vr4, kd.vg71, kd.vn71, kd.vg72, kd.vn72, kd.vg73, kd.vn73]
    refine ⟨fun _ => hk _ ?_, fun _ => ⟨trivial, fun _ => ⟨fun _ => ⟨trivial, by omega, by omega, hk _ ?_⟩, fun _ => ⟨fun _ => ⟨trivial, by omega, by omega, hk _ ?_⟩, fun _ => ⟨fun _ => ⟨trivial, by omega, by omega, hk _ ?_⟩, fun _ => ⟨fun _ => hk _ ?_, fun _ => hk _ ?_⟩⟩⟩⟩, fun _ => hk _ ?_⟩⟩
    · intro Q hq
      refine st_signal_0 ?_
      unfold B_signal_0
      repeat' (first | exact hq | assumption | refine ⟨?_, ?_⟩ | intro _ | omega)
    · have q := k.vq i (by omega) (by omega)
      have e1 := (hR.bk k.b0 k.b1).bk.ne1
      have i1 := ((hR.bk k.b0 k.b1).be q.2.1 q.2.2.1).en.nc1
      have s := sig_div q.1 k.b0 q.2.1 (by omega) q.2.2.2.1 (by omega)
      rw [← s.1]
      intro Q hq
      refine st_signal_0 ?_
      unfold B_signal_0
      repeat' (first | exact hq | assumption | refine ⟨?_, ?_⟩ | intro _ | omega)
    · have q := k.vq i (by omega) (by omega)
      have e1 := (hR.bk k.b0 k.b1).bk.ne1
      have i1 := ((hR.bk k.b0 k.b1).be q.2.1 q.2.2.1).en.nc1
      have s := sig_div q.1 k.b0 q.2.1 (by omega) q.2.2.2.1 (by omega)
      rw [← s.2]
      intro Q hq
      refine st_signal_0 ?_
      unfold B_signal_0
      repeat' (first | exact hq | assumption | refine ⟨?_, ?_⟩ | intro _ | omega)
    · have q := k.va i (by omega) (by omega)
      rw [q.1]
      intro Q hq
      refine st_signal_0 ?_
      unfold B_signal_0
      repeat' (first | exact hq | assumption | refine ⟨?_, ?_⟩ | intro _ | omega)
    all_goals
      intro Q hq
      refine st_signal_0 ?_
      unfold B_signal_0
      repeat' (first | exact hq | assumption | refine ⟨?_, ?_⟩ | intro _ | omega)
  · intro Q hq
    refine st_signal_0 ?_
    unfold B_signal_0
    repeat' (first | exact hq | assumption | refine ⟨?_, ?_⟩ | intro _ | omega)

