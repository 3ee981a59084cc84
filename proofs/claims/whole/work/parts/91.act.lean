/-! ===== book: acts ===== -/
section ACT
variable {e : Nat} {M : Mem} {f : Int → Int} {v nm b g xr kb bs : Int} {Qr : Int → Mem → Prop}
theorem act36 (h9 : M 0 9 = b) (b0 : 0 ≤ b) (b1 : b < 10) (na0 : 0 ≤ M 11 b) (na1 : M 11 b ≤ 4) (nms : ∀ i, 0 ≤ i → i < M 11 b → NR M (f i) (M 12 (4 * b + i))) (hv : NR M v nm) (nh : RunM e n_nameHere_0 [] M nm M) (h41 : M 0 41 = g) (g0 : 0 ≤ g) (g1 : g < 120) (hcs : (xr = -1 ∧ kb = 19 ∧ bs = 4 * g) ∨ (0 ≤ xr ∧ xr < 2880 ∧ kb = 22 ∧ bs = 4 * xr)) (he : 1 ≤ e) : ∀ (r : Nat) (i : Int), (M 11 b - i).toNat = r → 0 ≤ i → i ≤ M 11 b → PM (e + 1) n_readAct_132 [xr, if 0 ≤ fdx f v r i then fdx f v r i else M 11 b, if 0 ≤ fdx f v r i ∧ M kb (bs + fdx f v r i) ≠ -1 then 1 else 0] M Qr → PM (e + 1) n_readAct_36 [xr, i] M Qr := by
  intro r
  induction r with
  | zero =>
    intro i hr i0 i1 hq
    have ei : i = M 11 b := by omega
    have z : fdx f v 0 i = -1 := rfl
    rw [z, if_neg (by decide), if_neg (by omega)] at hq
    refine st_readAct_36 ?_
    unfold B_readAct_36
    rw [h9, ei]
    exact ⟨b0, b1, fun _ => ⟨fun _ => hq, fun y => absurd (Int.le_refl _) y⟩, fun y => absurd (Int.le_refl _) y⟩
  | succ r ih =>
    intro i hr i0 i1 hq
    rw [fdx_s] at hq
    refine st_readAct_36 ?_
    unfold B_readAct_36
    rw [h9]
    refine ⟨b0, b1, fun y => absurd y (by omega), fun _ => ⟨by omega, by omega, by omega, by omega, by omega, by omega, nh _ (rn_same (nms i i0 (by omega)) hv he _ ?_)⟩⟩
    by_cases y : f i = v
    · rw [if_pos y, if_pos i0] at hq
      rw [if_pos y]
      refine ⟨fun _ => ?_, fun z => absurd (by decide) z⟩
      rw [h9, h41]
      refine ⟨b0, b1, fun z => absurd z (by omega), fun _ => ⟨fun z => ?_, fun z => ?_⟩⟩
      · have q : 0 ≤ xr ∧ xr < 2880 ∧ kb = 22 ∧ bs = 4 * xr := by omega
        rw [q.2.2.1, q.2.2.2] at hq
        refine ⟨by omega, by omega, by omega, by omega, by omega, by omega, fun w => ?_, fun w => ?_⟩
        · rw [if_neg (fun u => u.2 w)] at hq; exact hq
        · rw [if_pos ⟨i0, w⟩] at hq; exact hq
      · have q : xr = -1 ∧ kb = 19 ∧ bs = 4 * g := by omega
        rw [q.2.1, q.2.2] at hq
        refine ⟨by omega, by omega, by omega, by omega, by omega, by omega, fun w => ?_, fun w => ?_⟩
        · rw [if_neg (fun u => u.2 w)] at hq; exact hq
        · rw [if_pos ⟨i0, w⟩] at hq; exact hq
    · rw [if_neg y] at hq
      rw [if_neg y]
      exact ⟨fun z => absurd rfl z, fun _ => ⟨by omega, by omega, ih (i + 1) (by omega) (by omega) (by omega) hq⟩⟩
end ACT
section ACF
variable {c c' : Int → Int} {N N' M M' gm gm' : Mem} {ow ow' K P W E : Int → Int} {nt b B X X' ln ln' R e nc nu nk nh ns : Int}
/-- the items but for the enum's own bodies -/
theorem EI.frb (h : EI c N M gm ow K P W E nt b B X ln e nc nu nk nh ns) (G : GRW X ln R N M gm ow N' M' gm' ow') (hr : rcn (N 121) ln.toNat = R) (a1 : X ≤ X') (a2 : ln ≤ ln') (hN : ∀ L k, itN (12 * b + e) nc nu nk nh ns L k → L ≠ 128 * (12 * b + e) + 7 → c' L = c L ∧ N' L k = N L k) (hM : ∀ k i, itM (12 * b + e) nc nu nk nh ns k i → k ≠ 19 → M' k i = M k i) (hB : ∀ a, 0 ≤ a → a < 4 → BOD N' M' gm' ow' B X' ln' (128 * (12 * b + e) + 7) 19 (4 * (12 * b + e)) a 2) : EI c' N' M' gm' ow' K P W E nt b B X' ln' e nc nu nk nh ns := by
  have m7 : ∀ i, M' 7 i = M 7 i := fun i => hM 7 i itm7 (by decide)
  obtain ⟨h1, h2, h3, h4, h5, h6⟩ := h
  refine ⟨fun i i0 i1 => (h1 i i0 i1).fr G a1 a2 (hN _ 0 (itn6 i0 i1) (by omega)).1 (fun k => (hN _ k (itn5 i0 i1) (by omega)).2) (fun k => (hN _ k (itn6 i0 i1) (by omega)).2) (hM _ _ (itm20 i0 i1) (by decide)) (hM _ _ (itm21 i0 i1) (by decide)) (fun a a0 a1 => hM _ _ (itm22 i0 i1 a0 a1) (by decide)) m7, fun i i0 i1 => (h2 i i0 i1).fr G a1 a2 (hN _ 0 (itn10 i0 i1) (by omega)).1 (hN _ 0 (itn11 i0 i1) (by omega)).1 (fun k => (hN _ k (itn9 i0 i1) (by omega)).2) (fun k => (hN _ k (itn10 i0 i1) (by omega)).2) (fun k => (hN _ k (itn11 i0 i1) (by omega)).2) (hM _ _ (itm23 i0 i1) (by decide)) (hM _ _ (itm24 i0 i1) (by decide)) (fun a a0 a1 => hM _ _ (itm25 i0 i1 a0 a1) (by decide)) m7, fun i i0 i1 => ?_, fun i i0 i1 => ?_, fun i i0 i1 => (h5 i i0 i1).fr G hr a1 a2 (hN _ 0 (itn18 i0 i1) (by omega)).1 (hN _ 0 (itn19 i0 i1) (by omega)).1 (fun k => (hN _ k (itn17 i0 i1) (by omega)).2) (fun k => (hN _ k (itn18 i0 i1) (by omega)).2) (fun k => (hN _ k (itn19 i0 i1) (by omega)).2) (hM _ _ (itm29 i0 i1 (Or.inl rfl)) (by decide)) (hM _ _ (itm29 i0 i1 (Or.inr (Or.inl rfl))) (by decide)) (hM _ _ (itm29 i0 i1 (Or.inr (Or.inr rfl))) (by decide)) (fun a a0 a1 => hM _ _ (itm31 i0 i1 a0 a1 (Or.inl rfl)) (by decide)) (fun a a0 a1 => hM _ _ (itm31 i0 i1 a0 a1 (Or.inr rfl)) (by decide)) m7, hB⟩
  · unfold IK
    rw [(hN (128 * (12 * b + e) + 12) i (itn12 i0 i1) (by omega)).2, hM 26 _ (itm26 i0 i1) (by decide)]
    exact (h3 i i0 i1).fr G a1 a2
  · unfold IH
    rw [(hN (128 * (12 * b + e) + 13) i (itn13 i0 i1) (by omega)).2, (hN (128 * (12 * b + e) + 14) i (itn14 i0 i1) (by omega)).2, hM 27 _ (itm27 i0 i1) (by decide), hM 28 _ (itm28 i0 i1) (by decide)]
    exact ⟨(h4 i i0 i1).1.m7 m7, (h4 i i0 i1).2.fr G a1 a2⟩
end ACF
