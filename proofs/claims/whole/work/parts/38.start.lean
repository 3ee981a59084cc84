/-! ===== evaluation: items start ===== -/
section EV7
variable {l : Launch} {G : GT} {Q : Int → Sh → Mem → Prop} {c : Int → Int} {S : Sh} {V N M gm : Mem} {U : Int → Int} {b D x p lv lv' sl g i cst ca ra : Int} {d dm : Nat}
theorem ct_wo (hV : ∀ n, Vst c S gm b D lv n) (hc : Cn c S) (hW : Wv c S V = N) (E : EvI c N M gm U b) (hD : M 0 64 = D) (hf : M 0 65 = 0) (hN : D = 0 → NU b M) (rt : Rt N gm b x p lv' sl) (hl : lv' ≤ lv) (ak : 3 ≤ lv' → AKc c gm b cst ra N M ∧ ca = ra ∧ 0 ≤ ra ∧ ra < 4 ∧ 1383 ≤ (dm : Int) ∧ 140 ≤ (d : Int) ∧ N 30 3 + 540 ≤ 873) (cx : CXt b M lv' g i cst) (ow : OW b gm M U (gm 1 x) (gm 2 x) D) (t : N 30 3 + 45 * (12 - D) ≤ 912) (hd : 10 * (12 - D) + 9 ≤ (d : Int)) (hdm : 83 + 100 * (12 - D) ≤ (dm : Int)) (hk : ∀ V' N' M' U' z, Wv c S V' = N' → VP c b gm x cst ra dm D N M U N' M' U' z → (M' 0 65 = 0 → N' 30 3 = N 30 3) → (M' 0 65 = 1 → z = 0) → Q z S V') : Ct l G bX10_workOut Q d 0 0 [vr (c 30), vi p, vr (c (128 * g + 3)), vi i, vi ca] S V := qX10_workOut fun _ _ _ _ _ => vX10_workOut_0 <| by
  obtain ⟨v, tg, ln⟩ := Wr hW
  obtain ⟨hx, q1, q2, q3, q4⟩ := rt
  have L := E.bn.2 x hx
  obtain ⟨x0, x40, p0, plt, pln, h3, h3', _⟩ := L
  have dp0 := E.dp0
  have dp1 := E.dp1
  have tp0 := E.tp0
  have im : imax p 0 = p := by unfold imax; rw [if_neg (by omega)]
  simp (disch := omega) only [v, tg, E.wk.g30, E.wb, E.bh.bk.g1, E.bh.bk.r3, im]
  refine ⟨trivial, trivial, by omega, ?_⟩
  rw [← q1]
  refine hV (gm 2 x - gm 1 x).toNat l G Q d dm 0 0 x (gm 1 x) g i cst ca ra V N M U hx (by omega) (by omega) hW E hD hf hN (fun q => by have h := ak (by omega); exact ⟨h.1, h.2.1, h.2.2.1, h.2.2.2.1, by omega, by omega, by omega⟩) (cx.le q2) ow (by omega) hd (by omega) (fun V1 N1 M1 U1 z hW1 vp f1 t1 v1 => ?_) (fun V1 N1 M1 U1 hW1 vp f1 => hk V1 N1 M1 U1 0 hW1 vp (fun q => by omega) (fun _ => rfl))
  obtain ⟨run, s1, fa, pv⟩ := vp
  have E1 := s1.1
  have o1 := s1.2.1.2.2 (gm 2 x)
  refine wo_end E1 hc hW1 f1 (by omega) (E1.ln hx) (by rw [o1]; exact q3) (by omega) (by omega) (fun V2 hW2 => ?_)
  rw [t1, show N 30 3 + 1 - 1 = N 30 3 from by omega] at hW2 ⊢
  rw [v1]
  refine hk V2 _ M1 U1 z hW2 ⟨run, s1.tr (EvS.top (lo := gm 1 x) (hi := gm 2 x) (t := N 30 3) E1 tp0 (by omega)) f1 (by omega) (by omega) (by omega) (by omega) (by omega), fa.tr (lv2 := 0) (FA.of (up_ne (by omega)) (up_ne (by omega)) StM.rf Lx.rf) f1 (by omega) (by have := (E1.bn.2 x hx).2.2.2.2.2.2.2.1; omega), pv⟩ (fun _ => up_eq) (fun q => by omega)
end EV7
def MS (c : Int → Int) (b : Int) (gm : Mem) (it T : Int) (N0 M0 : Mem) (U0 : Int → Int) (N M : Mem) (U : Int → Int) : Prop := EvI c N M gm U b ∧ EvF b N0 M0 N M ∧ M 0 64 = M0 0 64 ∧ Lx it b M0 M ∧ (∀ p, U p ≠ U0 p → 0 ≤ gm 5 p ∧ (gm 5 p / 1000 = it ∨ M0 52 (160 * b + gm 5 p / 1000) = 0)) ∧ M 52 (160 * b + it) = 3 ∧ N 30 9 = N0 30 9 ∧ N 30 10 = N0 30 10 ∧ (M 0 65 = 0 → N 30 3 = T ∧ ∀ j, 0 ≤ j → j < T → N 31 j = N0 31 j)
theorem MS.rf {c : Int → Int} {b it T : Int} {N M gm : Mem} {U : Int → Int} (E : EvI c N M gm U b) (h : M 52 (160 * b + it) = 3) (t : N 30 3 = T) : MS c b gm it T N M U N M U := ⟨E, EvF.rf, rfl, Lx.rf, fun p q => absurd rfl q, h, rfl, rfl, fun _ => ⟨t, fun _ _ _ => rfl⟩⟩
theorem MS.stm {c : Int → Int} {b it T : Int} {N0 M0 N M gm : Mem} {U0 U : Int → Int} (h : MS c b gm it T N0 M0 U0 N M U) : StM M0 M := fun k j a e => h.2.1.st ⟨a, e⟩
theorem MS.step {c : Int → Int} {b it T lo hi : Int} {N0 M0 N M N' M' gm : Mem} {U0 U U' : Int → Int} (h : MS c b gm it T N0 M0 U0 N M U) (it0 : 0 ≤ it) (it1 : it < 148) (z : M 0 65 = 0) (s : EvS c b gm lo hi N M U N' M' U') (ho : ∀ p, lo ≤ p → p < hi → 0 ≤ gm 5 p ∧ gm 5 p / 1000 = it) (n9 : N' 30 9 = N 30 9) (n10 : N' 30 10 = N 30 10) (t : M' 0 65 = 0 → N' 30 3 = N 30 3) : MS c b gm it T N0 M0 U0 N' M' U' := by
  obtain ⟨h1, h2, h3, h4, h5, h6, h7, h8, h9⟩ := h
  obtain ⟨k1, k2, k3, k4, k5, k6⟩ := s
  refine ⟨k1, h2.tr k2, k3.trans h3, h4.tr k4.wd, fun p hp => ?_, ?_, n9.trans h7, n10.trans h8, fun f => ⟨(t f).trans (h9 z).1, fun j j0 j1 => (k6 f j j0 (by have := (h9 z).1; omega)).trans ((h9 z).2 j j0 j1)⟩⟩
  · by_cases e : U p = U0 p
    · rcases k5 p (by rw [e]; exact hp) with y | ⟨y0, y⟩
      · exact ⟨(ho p y.1 y.2.1).1, Or.inl (ho p y.1 y.2.1).2⟩
      · refine ⟨y0, ?_⟩
        by_cases e2 : gm 5 p / 1000 = it
        · exact Or.inl e2
        · refine Or.inr (Decidable.byContradiction fun n => ?_)
          have r := h1.bd.ur p y0
          have := ((h4 (gm 5 p / 1000) (by omega) (by omega) e2).2 n).1
          omega
    · exact h5 p e
  · rw [((k4 it it0 it1 (by omega)).2 (by omega)).1]
    exact h6
theorem MS.upd {c : Int → Int} {b it T : Int} {N0 M0 N M N' M' gm : Mem} {U0 U : Int → Int} (h : MS c b gm it T N0 M0 U0 N M U) (E : EvI c N' M' gm U b) (hF : EvF b N M N' M') (m0 : ∀ j, M' 0 j = M 0 j) (m52 : ∀ j, M' 52 j = M 52 j) (hL : Lx it b M M') (hw : ∀ L j, 30 ≤ L ∧ L ≤ 34 → N' L j = N L j) : MS c b gm it T N0 M0 U0 N' M' U := by
  obtain ⟨h1, h2, h3, h4, h5, h6, h7, h8, h9⟩ := h
  refine ⟨E, h2.tr hF, (m0 64).trans h3, h4.tr hL, h5, (m52 _).trans h6, (hw _ _ (by omega)).trans h7, (hw _ _ (by omega)).trans h8, fun f => ?_⟩
  rw [m0] at f
  exact ⟨(hw _ _ (by omega)).trans (h9 f).1, fun j j0 j1 => (hw _ _ (by omega)).trans ((h9 f).2 j j0 j1)⟩
def RU (gm : Mem) (it cur : Int) (U : Int → Int) : Prop := ∀ p, cur ≤ gm 5 p → gm 5 p / 1000 = it → U p = 0
theorem RU.st {c : Int → Int} {b it cur sl lo hi : Int} {N M N' M' gm : Mem} {U U' : Int → Int} (h : RU gm it cur U) (s : EvS c b gm lo hi N M U N' M' U') (ho : ∀ p, lo ≤ p → p < hi → gm 5 p = sl) (hs : sl < cur) (z : M 52 (160 * b + it) ≠ 0) : RU gm it cur U' := by
  intro p p0 p1
  have u := h p p0 p1
  refine Decidable.byContradiction fun n => ?_
  rcases s.2.2.2.2.1 p (by rw [u]; exact n) with y | ⟨y0, y⟩
  · have := ho p y.1 y.2.1
    omega
  · rw [p1] at y
    exact z y
theorem RU.le {it cur cur' : Int} {gm : Mem} {U : Int → Int} (h : RU gm it cur U) (q : cur ≤ cur') : RU gm it cur' U := fun p p0 p1 => h p (by omega) p1
theorem Rt.ow {b it x p lv sl D : Int} {N M gm : Mem} {U : Int → Int} (rt : Rt N gm b x p lv sl) (h : RU gm it sl U) (e : sl / 1000 = it) (s0 : 0 ≤ sl) (z : M 52 (160 * b + it) ≠ 0) : OW b gm M U (gm 1 x) (gm 2 x) D := fun _ q q0 q1 => by
  have k := rt.2.2.2.2 q q0 q1
  exact ⟨h q (by omega) (by omega), by omega, by rw [k, e]; exact z⟩
