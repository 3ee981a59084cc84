/-! ===== book: an enum's head ===== -/
/-- between enums: e of them told -/
def BKI (c : Int → Int) (N M gm : Mem) (ow eo cs K P W E : Int → Int) (nt b B j ln e : Int) : Prop := TS c N M K P W E nt j ∧ (N 120 2 = ln ∧ rcn (N 121) ln.toNat = M 0 51) ∧ (0 ≤ ln ∧ ln ≤ j ∧ 0 ≤ M 0 40 ∧ M 0 40 ≤ B + j) ∧ (M 0 46 = 0 ∧ N 50 10 = 0 ∧ M 0 9 = b) ∧ (∀ i, 0 ≤ i → i < M 0 2 → M 7 (3000 * b + i) = M 1 i) ∧ (HB c N M b ∧ M 10 b = e) ∧ (∀ e', 0 ≤ e' → e' < e → PE c N M gm ow eo K P W E nt b B (M 0 40) ln e') ∧ WLD N M gm ow eo cs K P E nt b B (M 0 40) ln e ln (36 * (12 * b + e)) ∧ ((e = 0 → ln = 0) ∧ (0 < e → ln = N (128 * (12 * b + (e - 1)) + 3) 2)) ∧ (0 ≤ e ∧ e ≤ 12 ∧ 0 ≤ b ∧ b < 10 ∧ 0 ≤ B ∧ B ≤ 27000)
def gbN (b L k : Int) : Prop := bkL b L ∨ (L = 50 ∧ 3 ≤ k ∧ k ≤ 11) ∨ (L = 51 ∧ 0 ≤ k) ∨ (L = 120 ∧ k = 2) ∨ ((L = 121 ∨ L = 122) ∧ 0 ≤ k)
def GFB (b B : Int) (c0 : Int → Int) (N0 M0 : Mem) (c : Int → Int) (N M : Mem) : Prop := (∀ L, ¬ bkL b L → c L = c0 L) ∧ (∀ L k, ¬ gbN b L k → N L k = N0 L k) ∧ (∀ k i, ¬ gfM b B k i → M k i = M0 k i)
section GFBS
variable {c0 c1 c c' : Int → Int} {N0 M0 N1 M1 N M N' M' gm : Mem} {ow eo cs K P W E : Int → Int} {nt b B st j ln e nc nu nk nh ns cb : Int}
theorem GFB.gf (h : GFB b B c0 N0 M0 c1 N1 M1) (g : GF b B c1 N1 M1 c N M) : GFB b B c0 N0 M0 c N M :=
  ⟨fun L q => (g.1 L (fun y => q y.1)).trans (h.1 L q), fun L k q => (g.2.1 L k (fun y => q (by
    rcases y with y | y | y
    · exact Or.inl y.1
    · exact Or.inr (Or.inl ⟨y.1, by omega, by omega⟩)
    · exact Or.inr (Or.inr y)))).trans (h.2.1 L k q), fun k i q => (g.2.2 k i q).trans (h.2.2 k i q)⟩
theorem GFB.tr (h : GFB b B c0 N0 M0 c N M) (fc : ∀ L, ¬ bkL b L → c' L = c L) (fn : ∀ L k, ¬ gbN b L k → N' L k = N L k) (fm : ∀ k i, ¬ gfM b B k i → M' k i = M k i) : GFB b B c0 N0 M0 c' N' M' := ⟨fun L q => (fc L q).trans (h.1 L q), fun L k q => (fn L k q).trans (h.2.1 L k q), fun k i q => (fm k i q).trans (h.2.2 k i q)⟩
theorem GF.rf : GF b B c N M c N M := ⟨fun _ _ => rfl, fun _ _ _ => rfl, fun _ _ _ => rfl⟩
theorem gb_nps {L k j u v : Int} (q : ¬ gbN b L k) : nPs N j u v L k = N L k := nPs_ne (fun y => q (Or.inr (Or.inl ⟨y.1, by omega, by omega⟩)))
theorem gb_nft {L k u v : Int} (q : ¬ gbN b L k) : nFt N u v L k = N L k := nFt_ne (fun y => q (Or.inr (Or.inl ⟨y.1, by omega, by omega⟩)))
/-- an enum told: one more -/
theorem RDI.bk (h : RDI c N M gm ow eo cs K P W E nt b B st j ln e nc nu nk nh ns cb 0) (n1 : 1 ≤ nc) (n2 : N (128 * (12 * b + e) + 3) 2 = ln) (hcb : cb ≤ 36 * (12 * b + e) + 36) : BKI c N M gm ow eo cs K P W E nt b B j ln (e + 1) := by
  obtain ⟨e0, e1, b0, b1, B0, B1⟩ := h.bd
  have ls := h.ls
  have w := h.wd
  obtain ⟨q14, q15, q16, q17, q18⟩ := h.ct
  refine ⟨ls.ts, ⟨ls.lv, ls.r⟩, ⟨ls.l0, ls.lj, ls.x0, ls.x1⟩, ⟨ls.w, ls.f, ls.b9⟩, h.tx, ⟨h.hb, h.m10⟩, fun e' a0 a1 => ?_, ⟨w.1, w.2.1, w.2.2.1, fun p p0 p1 o => by have := w.2.2.2.1 p p0 p1 o; omega, w.2.2.2.2.1, ⟨ls.l0, Int.le_refl _, fun p p0 p1 => by omega⟩, w.2.2.2.2.2.2⟩, ⟨fun q => by omega, fun _ => ?_⟩, by omega, by omega, b0, b1, B0, B1⟩
  · by_cases y : e' = e
    · subst y
      refine ⟨h.he, by omega, h.sg.1, ?_, ⟨w.2.2.2.2.2.1.1, ?_, ?_⟩, fun p p0 p1 => w.2.2.2.2.2.1.2.2 p p0 ?_, h.sg.2.1, h.sg.2.2⟩
      · rw [q14, q15, q16, q17, q18, Int.add_zero]; exact h.ei
      · rw [n2]; exact w.2.2.2.2.2.1.2.1
      · rw [n2]; exact Int.le_refl _
      · rw [n2] at p1; exact p1
    · exact h.pe e' a0 (by omega)
  · rw [show e + 1 - 1 = e from by omega]; exact n2.symm
end GFBS
section HDM
variable {c c' : Int → Int} {N N' M M' gm : Mem} {ow eo cs K P W E : Int → Int} {nt b B j j' ln e w nm : Int}
set_option maxHeartbeats 1000000 in
theorem hd_mid (h : BKI c N M gm ow eo cs K P W E nt b B j ln e) (e12 : e < 12) (fc : ∀ L, ¬ hdL (12 * b + e) L → c' L = c L) (n : ∀ L k, ¬ (L = 50 ∧ (k = 4 ∨ (6 ≤ k ∧ k ≤ 9))) → ¬ hdL (12 * b + e) L → ¬ (L = 128 * b + 2 ∧ k = e) → ¬ (L = 128 * b + 1 ∧ k = 1) → N' L k = N L k) (n4 : N' 50 4 = c' (128 * (12 * b + e) + 3)) (nb : N' (128 * b + 2) e = c' (128 * (12 * b + e) + 3)) (nb1 : N' (128 * b + 1) 1 = e + 1) (n31 : N' (128 * (12 * b + e) + 3) 1 = ln) (he : HE c' N' M' (12 * b + e)) (n7 : ∀ a, 0 ≤ a → a < 4 → N' (128 * (12 * b + e) + 7) a = -1)
    (m : ∀ k i, ¬ (k = 0 ∧ ((3 ≤ i ∧ i ≤ 6) ∨ i = 41)) → ¬ (k = 10 ∧ i = b) → ¬ (13 ≤ k ∧ k ≤ 18 ∧ i = 12 * b + e) → ¬ (k = 19 ∧ 4 * (12 * b + e) ≤ i ∧ i < 4 * (12 * b + e) + 4) → M' k i = M k i) (m10 : M' 10 b = e + 1) (m41 : M' 0 41 = 12 * b + e) (mz : ∀ k, 14 ≤ k → k ≤ 18 → M' k (12 * b + e) = 0) (m13 : M' 13 (12 * b + e) = nm) (nmb : nm / 16 + nm % 16 ≤ 3000 * (b + 1)) (m19 : ∀ a, 0 ≤ a → a < 4 → M' 19 (4 * (12 * b + e) + a) = -1) (ts : TS c' N' M' K P W E nt j') (jj : j ≤ j') : RDI c' N' M' gm ow eo cs K P W E nt b B (N 50 5) j' ln e 0 0 0 0 0 (36 * (12 * b + e)) 0 := by
  obtain ⟨h1, ⟨h2, h3⟩, ⟨l0, lj, x0, x1⟩, ⟨w0, f0, b9⟩, tx, ⟨hb, h10⟩, pe, wd, ⟨s1, s2⟩, ⟨e0, e1, b0, b1, B0, B1⟩⟩ := h
  have nq : ∀ L k, L ≠ 50 → ¬ hdL (12 * b + e) L → L ≠ 128 * b + 2 → L ≠ 128 * b + 1 → N' L k = N L k := fun L k q0 q1 q2 q3 => n L k (by omega) q1 (by omega) (by omega)
  have nl : ∀ L k, L = 120 ∨ L = 121 ∨ L = 122 → N' L k = N L k := fun L k q => nq L k (by omega) (by unfold hdL; omega) (by omega) (by omega)
  have n50 : ∀ k, k ≠ 4 → ¬ (6 ≤ k ∧ k ≤ 9) → N' 50 k = N 50 k := fun k q1 q2 => n _ _ (by omega) (by unfold hdL; omega) (by omega) (by omega)
  have mq : ∀ k i, k ≠ 0 → k ≠ 10 → ¬ (13 ≤ k ∧ k ≤ 18 ∧ i = 12 * b + e) → ¬ (k = 19 ∧ 4 * (12 * b + e) ≤ i ∧ i < 4 * (12 * b + e) + 4) → M' k i = M k i := fun k i q0 q1 q2 q3 => m k i (by omega) (by omega) q2 q3
  have m0 : ∀ i, ¬ ((3 ≤ i ∧ i ≤ 6) ∨ i = 41) → M' 0 i = M 0 i := fun i q => m 0 i (by omega) (by omega) (by omega) (by omega)
  have x40 := m0 40 (by omega)
  have GA : GRW (M 0 40) ln (M 0 51) N M gm ow N' M' gm ow := ⟨fun i _ _ => ⟨nl _ _ (by omega), nl _ _ (by omega)⟩, fun _ _ _ => rfl, fun _ _ => rfl, fun k i _ _ _ => mq _ _ (by omega) (by omega) (by omega) (by omega), fun k i _ _ _ => mq _ _ (by omega) (by omega) (by omega) (by omega)⟩
  obtain ⟨a1, a2, a3, a4, a5, a6, a7, a8, a9, a10, a11, a12, a13, a14, a15⟩ := hb
  have nbk : ∀ k, k ≠ 1 → N' (128 * b + 1) k = N (128 * b + 1) k := fun k q => n _ _ (by omega) (by unfold hdL; omega) (by omega) (by omega)
  have nbe : ∀ k, k ≠ e → N' (128 * b + 2) k = N (128 * b + 2) k := fun k q => n _ _ (by omega) (by unfold hdL; omega) (by omega) (by omega)
  have c12 : ∀ L, L = 128 * b + 1 ∨ L = 128 * b + 2 → c' L = c L := fun L q => fc L (by unfold hdL; omega)
  have m11 : M' 11 b = M 11 b := mq _ _ (by omega) (by omega) (by omega) (by omega)
  have m7 : ∀ i, M' 7 i = M 7 i := fun i => mq _ _ (by omega) (by omega) (by omega) (by omega)
  have ng : ∀ i k, 0 ≤ i → i < e → c' (128 * (12 * b + i) + 3) = c (128 * (12 * b + i) + 3) ∧ N' (128 * (12 * b + i) + 3) k = N (128 * (12 * b + i) + 3) k := fun i k i0 i1 => ⟨fc _ (by unfold hdL; omega), nq _ _ (by omega) (by unfold hdL; omega) (by omega) (by omega)⟩
  refine ⟨⟨ts, ⟨n50 _ (by omega) (by omega), (nl _ _ (by omega)).trans h2, ?_⟩, ⟨l0, by omega, by omega, by omega⟩, (m0 _ (by omega)).trans w0, (n50 _ (by omega) (by omega)).trans f0, (m0 _ (by omega)).trans b9, m41⟩, ?_, ⟨⟨?_, (nbk _ (by omega)).trans a2, ?_, (nbe _ (by omega)).trans a4, (nbe _ (by omega)).trans a5, by rw [nb1, m10], by omega, by omega, by rw [nbk _ (by omega), m11]; exact a9, by omega, by omega, (nbk _ (by omega)).trans a12, (nbk _ (by omega)).trans a13, fun i i0 i1 => ?_, fun i i0 i1 => ?_⟩, m10, n4⟩, he, ⟨mz 14 (by decide) (by decide), mz 15 (by decide) (by decide), mz 16 (by decide) (by decide), mz 17 (by decide) (by decide), mz 18 (by decide) (by decide)⟩, ⟨fun i i0 i1 => by omega, fun i i0 i1 => by omega, fun i i0 i1 => by omega, fun i i0 i1 => by omega, fun i i0 i1 => by omega, fun a a0 a1 => Or.inl ⟨n7 a a0 a1, m19 a a0 a1⟩⟩, fun e' e0' e1' => ?_, ?_, ⟨by rw [m13]; exact nmb, fun q => by rw [n31]; exact s1 q, fun q => ?_⟩, e0, e12, b0, b1, B0, B1⟩
  · rw [m0 _ (by omega), ← h3]
    exact rcn_cg _ (fun i _ _ => nl _ _ (by omega))
  · intro i i0 i1
    rw [m0 _ (by omega)] at i1
    rw [m7, mq _ _ (by omega) (by omega) (by omega) (by omega)]
    exact tx i i0 i1
  · rw [n50 _ (by omega) (by omega), c12 _ (by omega)]; exact a1
  · rw [nbk _ (by omega), c12 _ (by omega)]; exact a3
  · by_cases y : i = e
    · rw [y]; exact ⟨nb, he.tg⟩
    · rw [nbe _ y, (ng i (-1) i0 (by omega)).1, (ng i (-1) i0 (by omega)).2]; exact a14 i i0 (by omega)
  · rw [n _ _ (by omega) (by unfold hdL; omega) (by omega) (by omega), mq _ _ (by omega) (by omega) (by omega) (by omega)]
    exact (a15 i i0 (by omega)).m7 m7
  · rw [x40]
    exact (pe e' e0' e1').fr (e := e) e0' e1' GA h3 (Int.le_refl _) (Int.le_refl _) (fun _ _ => rfl) (fun L k q => ⟨fc L (by unfold prN at q; unfold hdL; omega), nq L k (by unfold prN at q; omega) (by unfold prN at q; unfold hdL; omega) (by unfold prN at q; omega) (by unfold prN at q; omega)⟩) (fun k i q => mq k i (by unfold prM at q; omega) (by unfold prM at q; omega) (by unfold prM at q; omega) (by unfold prM at q; omega))
  · rw [x40, n31]
    exact wd.fr GA h3
  · rw [n31, s2 q, (ng (e - 1) 2 (by omega) (by omega)).2]
end HDM
/-- the reference clears an enum's bodies -/
theorem enu172 {e : Nat} {g : Int} (g0 : 0 ≤ g) (g1 : g < 120) : ∀ (r : Nat) (i : Int) (M : Mem), 4 - i = r → 0 ≤ i → M 0 41 = g → ∃ M', (∀ Qr : Int → Mem → Prop, PM (e + 1) n_readEnum_172 [4] M' Qr → PM (e + 1) n_readEnum_172 [i] M Qr) ∧ (∀ k j, ¬ (k = 19 ∧ 4 * g + i ≤ j ∧ j < 4 * g + 4) → M' k j = M k j) ∧ (∀ j, 4 * g + i ≤ j → j < 4 * g + 4 → M' 19 j = -1) := by
  intro r
  induction r with
  | zero =>
    intro i M hr i0 h41
    have : i = 4 := by omega
    subst this
    exact ⟨M, fun Qr h => h, fun _ _ _ => rfl, fun j a c => by omega⟩
  | succ r ih =>
    intro i M hr i0 h41
    obtain ⟨M', h1, h2, h3⟩ := ih (i + 1) (up M 19 (4 * g + i) (-1)) (by omega) (by omega) ((up_ne' (by omega)).trans h41)
    refine ⟨M', fun Qr h => st_readEnum_172 ?_, fun k j z => (h2 k j (by omega)).trans (up_ne' (by omega)), fun j a c => ?_⟩
    · unfold B_readEnum_172
      rw [h41]
      exact ⟨fun y => absurd y (by omega), fun _ => ⟨by omega, by omega, by omega, by omega, by omega, by omega, by omega, by omega, h1 Qr h⟩⟩
    · by_cases y : j = 4 * g + i
      · rw [h2 19 j (by omega), y, up_eq]
      · exact h3 j (by omega) c
/-- the reference behind an enum's word -/
def KN (ee : Nat) (g : Int) (Qr : Int → Mem → Prop) (z10 : Int) (M10 : Mem) : Prop := 0 ≤ g ∧ g < 120 ∧ ((M10 0 46) ≤ 0 → 0 ≤ (M10 0 9) ∧ (M10 0 9) < 10 ∧ -2147483648 ≤ (M10 10 (M10 0 9)) + 1 ∧ (M10 10 (M10 0 9)) + 1 ≤ 2147483647 ∧ 0 ≤ (M10 0 41) ∧ (M10 0 41) < 120 ∧ PM (ee + 1) n_readEnum_172 [0] (up (up (up (up (up (up (up M10 13 g z10) 10 (M10 0 9) ((M10 10 (M10 0 9)) + 1)) 14 (M10 0 41) 0) 15 (M10 0 41) 0) 16 (M10 0 41) 0) 17 (M10 0 41) 0) 18 (M10 0 41) 0) Qr) ∧ (¬ ((M10 0 46) ≤ 0) → Qr 0 (up M10 13 g z10))
def KE (ee : Nat) (g : Int) (Qr : Int → Mem → Prop) (M : Mem) : Prop := PM ee n_isName_0 [] M (fun z7 M7 => (z7 = 0 → PM ee n_newName_0 [0] M7 (fun z10 M10 => KN ee g Qr z10 M10)) ∧ (¬ (z7 = 0) → PM ee n_nameHere_0 [] M7 (fun z13 M13 => PM ee n_enumOf_0 [z13] M13 (fun z15 M15 => (z15 = (-1) → PM ee n_newName_0 [0] M15 (fun z18 M18 => KN ee g Qr z18 M18)) ∧ (¬ (z15 = (-1)) → PM ee n_newName_0 [1] M15 (fun z21 M21 => KN ee g Qr z21 M21))))))
section HDR
variable {l : Launch} {G : GT} {c c0 : Int → Int} {S : Sh} {V N M gm N0 M0 : Mem} {Q : Int → Sh → Mem → Prop} {d ee : Nat} {ow eo cs K P W E : Int → Int} {nt b B j ln e : Int}
set_option maxHeartbeats 1000000 in
theorem hd_he {c5 : Int → Int} {N5 N7 M2' : Mem} {g nm : Int} (n75 : ∀ L k, L % 128 ≠ 1 → L % 128 ≠ 2 → L ≠ 50 → ¬ (L = 128 * g + 3 ∧ k = 1) → N7 L k = N5 L k) (ntg : N5 (128 * g + 3) (-1) = 4) (nz : ∀ k, k = 4 ∨ k = 5 ∨ k = 8 ∨ k = 10 ∨ k = 14 ∨ k = 16 → N5 (128 * g + 3) k = 0) (a1 : N5 (128 * g + 3) 0 = W (j + 1)) (a2 : N5 (128 * g + 3) 3 = c5 (128 * g + 4)) (a3 : N5 (128 * g + 4) (-1) = 32) (a4 : N5 (128 * g + 4) (-2) = 24) (a5 : N5 (128 * g + 3) 6 = c5 (128 * g + 7)) (a6 : N5 (128 * g + 7) (-1) = 20) (a7 : N5 (128 * g + 7) (-2) = 4) (a8 : N5 (128 * g + 3) 7 = c5 (128 * g + 8)) (a9 : N5 (128 * g + 8) (-1) = 38) (a10 : N5 (128 * g + 8) (-2) = 4) (a11 : N5 (128 * g + 3) 9 = c5 (128 * g + 12)) (a12 : N5 (128 * g + 12) (-1) = 20) (a13 : N5 (128 * g + 12) (-2) = 3) (a14 : N5 (128 * g + 3) 11 = c5 (128 * g + 13)) (a15 : N5 (128 * g + 13) (-1) = 22) (a16 : N5 (128 * g + 13) (-2) = 4) (a17 : N5 (128 * g + 3) 12 = c5 (128 * g + 14)) (a18 : N5 (128 * g + 14) (-1) = 20) (a19 : N5 (128 * g + 14) (-2) = 4) (a20 : N5 (128 * g + 3) 13 = c5 (128 * g + 15)) (a21 : N5 (128 * g + 15) (-1) = 20) (a22 : N5 (128 * g + 15) (-2) = 4) (a23 : N5 (128 * g + 3) 15 = c5 (128 * g + 16)) (a24 : N5 (128 * g + 16) (-1) = 37) (a25 : N5 (128 * g + 16) (-2) = 3) (a26 : ∀ a, 0 ≤ a → a < 4 → N5 (128 * g + 7) a = -1) (m213 : M2' 13 g = nm) (m2z : ∀ k, 14 ≤ k → k ≤ 18 → M2' k g = 0) (nrM : NR M2' (W (j + 1)) nm) : HE c5 N7 M2' g := by
  have p3 : ∀ k, k ≠ 1 → N7 (128 * g + 3) k = N5 (128 * g + 3) k := fun k q => n75 _ _ (by omega) (by omega) (by omega) (by omega)
  have pk : ∀ i k, (i = 4 ∨ i = 7 ∨ i = 8 ∨ (12 ≤ i ∧ i ≤ 16)) → N7 (128 * g + i) k = N5 (128 * g + i) k := fun i k q => n75 _ _ (by omega) (by omega) (by omega) (by omega)
  refine ⟨(p3 _ (by decide)).trans ntg, (p3 _ (by decide)).trans a2, (pk _ _ (by decide)).trans a3, (pk _ _ (by decide)).trans a4, (p3 _ (by decide)).trans a5, (pk _ _ (by decide)).trans a6, (pk _ _ (by decide)).trans a7, (p3 _ (by decide)).trans a8, (pk _ _ (by decide)).trans a9, (pk _ _ (by decide)).trans a10, (p3 _ (by decide)).trans a11, (pk _ _ (by decide)).trans a12, (pk _ _ (by decide)).trans a13, (p3 _ (by decide)).trans a14, (pk _ _ (by decide)).trans a15, (pk _ _ (by decide)).trans a16, (p3 _ (by decide)).trans a17, (pk _ _ (by decide)).trans a18, (pk _ _ (by decide)).trans a19, (p3 _ (by decide)).trans a20, (pk _ _ (by decide)).trans a21, (pk _ _ (by decide)).trans a22, (p3 _ (by decide)).trans a23, (pk _ _ (by decide)).trans a24, (pk _ _ (by decide)).trans a25, ?_, ?_, ?_, ?_, ?_, ?_, ?_, ?_, ?_, ?_, ?_, ?_, ?_, ?_, ?_, ?_, (p3 _ (by decide)).trans (nz _ (by omega)), ?_, ?_, ?_⟩
  · rw [p3 _ (by decide), a1, m213]; exact nrM
  · rw [p3 _ (by decide), nz _ (by omega), m2z 14 (by decide) (by decide)]
  · rw [m2z 14 (by decide) (by decide)]; decide
  · rw [m2z 14 (by decide) (by decide)]; decide
  · rw [p3 _ (by decide), nz _ (by omega), m2z 15 (by decide) (by decide)]
  · rw [m2z 15 (by decide) (by decide)]; decide
  · rw [m2z 15 (by decide) (by decide)]; decide
  · rw [p3 _ (by decide), nz _ (by omega), m2z 16 (by decide) (by decide)]
  · rw [m2z 16 (by decide) (by decide)]; decide
  · rw [m2z 16 (by decide) (by decide)]; decide
  · rw [p3 _ (by decide), nz _ (by omega), m2z 17 (by decide) (by decide)]
  · rw [m2z 17 (by decide) (by decide)]; decide
  · rw [m2z 17 (by decide) (by decide)]; decide
  · rw [p3 _ (by decide), nz _ (by omega), m2z 18 (by decide) (by decide)]
  · rw [m2z 18 (by decide) (by decide)]; decide
  · rw [m2z 18 (by decide) (by decide)]; decide
  · rw [m2z 14 (by decide) (by decide)]; exact fun i i0 i1 => by omega
  · rw [m2z 15 (by decide) (by decide)]; exact fun i i0 i1 => by omega
  · rw [m2z 18 (by decide) (by decide)]; exact fun i i0 i1 => by omega
set_option maxHeartbeats 2000000 in
theorem hd_t2 {c5 : Int → Int} {S5 : Sh} {V5 N5 M2' : Mem} {g nm r4 : Int} {mc ms : Nat} (hc5 : Cn c5 S5) (h5 : 0 ≤ S5.2.2) (hI : BKI c N M gm ow eo cs K P W E nt b B j ln e) (gf : GFB b B c0 N0 M0 c N M) (e12 : e < 12) (hg : g = 12 * b + e) (hd : 100 ≤ d) (he : 115 ≤ ee) (hW5 : Wv c5 S5 V5 = N5) (fc : ∀ L, ¬ hdL g L → c5 L = c L) (nn : ∀ L k, ¬ (L = 50 ∧ 6 ≤ k ∧ k ≤ 9) → ¬ hdL g L → N5 L k = N L k) (n5t : TS c5 N5 M2' K P W E nt (j + 1 + 1)) (ntg : N5 (128 * g + 3) (-1) = 4) (nz : ∀ k, k = 4 ∨ k = 5 ∨ k = 8 ∨ k = 10 ∨ k = 14 ∨ k = 16 → N5 (128 * g + 3) k = 0) (yr : r4 = c5 (128 * g + 3)) (a1 : N5 (128 * g + 3) 0 = W (j + 1)) (a2 : N5 (128 * g + 3) 3 = c5 (128 * g + 4)) (a3 : N5 (128 * g + 4) (-1) = 32) (a4 : N5 (128 * g + 4) (-2) = 24) (a5 : N5 (128 * g + 3) 6 = c5 (128 * g + 7)) (a6 : N5 (128 * g + 7) (-1) = 20) (a7 : N5 (128 * g + 7) (-2) = 4) (a8 : N5 (128 * g + 3) 7 = c5 (128 * g + 8)) (a9 : N5 (128 * g + 8) (-1) = 38) (a10 : N5 (128 * g + 8) (-2) = 4) (a11 : N5 (128 * g + 3) 9 = c5 (128 * g + 12)) (a12 : N5 (128 * g + 12) (-1) = 20) (a13 : N5 (128 * g + 12) (-2) = 3) (a14 : N5 (128 * g + 3) 11 = c5 (128 * g + 13)) (a15 : N5 (128 * g + 13) (-1) = 22) (a16 : N5 (128 * g + 13) (-2) = 4) (a17 : N5 (128 * g + 3) 12 = c5 (128 * g + 14)) (a18 : N5 (128 * g + 14) (-1) = 20) (a19 : N5 (128 * g + 14) (-2) = 4) (a20 : N5 (128 * g + 3) 13 = c5 (128 * g + 15)) (a21 : N5 (128 * g + 15) (-1) = 20) (a22 : N5 (128 * g + 15) (-2) = 4) (a23 : N5 (128 * g + 3) 15 = c5 (128 * g + 16)) (a24 : N5 (128 * g + 16) (-1) = 37) (a25 : N5 (128 * g + 16) (-2) = 3) (a26 : ∀ a, 0 ≤ a → a < 4 → N5 (128 * g + 7) a = -1)
    (m2 : ∀ k i, ¬ (k = 0 ∧ ((3 ≤ i ∧ i ≤ 6) ∨ i = 41)) → ¬ (k = 10 ∧ i = b) → ¬ (13 ≤ k ∧ k ≤ 18 ∧ i = g) → ¬ (k = 19 ∧ 4 * g ≤ i ∧ i < 4 * g + 4) → M2' k i = M k i) (m210 : M2' 10 b = e + 1) (m213 : M2' 13 g = nm) (m2z : ∀ k, 14 ≤ k → k ≤ 18 → M2' k g = 0) (m241 : M2' 0 41 = g) (m219 : ∀ a, 0 ≤ a → a < 4 → M2' 19 (4 * g + a) = -1) (nrM : NR M2' (W (j + 1)) nm) (nmb : nm / 16 + nm % 16 ≤ 3000 * (b + 1))
    (refs : ∀ Qr : Int → Mem → Prop, PM ee n_sign_0 [123] M2' (fun z4 M4 => PM ee n_readConstant_0 [] M4 (fun z6 M6 => PM (ee + 1) n_readEnum_211 [4] M6 Qr)) → PM (ee + 1) n_readEnum_0 [] M Qr)
    (hok : ∀ c' S' V' M' st' j', Cn c' S' → 0 ≤ S'.2.2 → c' 50 = c 50 → RDI c' (Wv c' S' V') M' gm ow eo cs K P W E nt b B st' j' ln e 0 0 0 0 0 (36 * (12 * b + e)) 0 → GFB b B c0 N0 M0 c' (Wv c' S' V') M' → j < j' → e < 12 → (∀ Qr : Int → Mem → Prop, PM ee n_readConstant_0 [] M' (fun _ M6 => PM (ee + 1) n_readEnum_211 [4] M6 Qr) → PM (ee + 1) n_readEnum_0 [] M Qr) → Q 1 S' V')
    (hbad : ∀ c' S' V' M', Cn c' S' → 0 ≤ S'.2.2 → GFB b B c0 N0 M0 c' (Wv c' S' V') M' → FTS (Wv c' S' V') M' → RunM (ee + 1) n_readEnum_0 [] M 0 M' → Q 0 S' V') :
    S5.1 (c 50) = 6 ∧ S5.1 (V5 (c 50) 1) = 2 ∧ S5.1 r4 = 4 ∧ S5.1 (V5 (c 50) 3) = 1 ∧ CT l G bX0_keepEnum d mc ms [vr (V5 (c 50) 3), vr r4] S5 (up (up V5 (c 50) 4 r4) r4 1 (V5 (V5 (c 50) 1) 2)) (fun z8 S8 V8 mc8 ms8 => S8.1 (c 50) = 6 ∧ CT l G bX5_accept d mc8 ms8 [vr (c 50), vi 123] S8 V8 (fun z10 S10 V10 mc10 ms10 => (z10 = 0 ∨ z10 = 1) ∧ Q z10 S10 V10)) := by
  have nh50 : ¬ hdL g 50 := by unfold hdL; omega
  have nh120 : ¬ hdL g 120 := by unfold hdL; omega
  have nhb1 : ¬ hdL g (128 * b + 1) := by unfold hdL; omega
  have nhb2 : ¬ hdL g (128 * b + 2) := by unfold hdL; omega
  have y50 : c 50 = c5 50 := (fc 50 nh50).symm
  obtain ⟨ts, ⟨lv, hr⟩, ⟨l0, lj, x0, x1⟩, ⟨w0, f0, b9⟩, tx, ⟨hB, h10⟩, pe, wd, ⟨s1, s2⟩, ⟨e0, e12', b0, b1, B0, B1⟩⟩ := id hI
  clear pe wd s1 s2 tx
  obtain ⟨v5, tg5, ln5⟩ := Wr hW5
  have d1' : V5 (c 50) 1 = c5 120 := by rw [y50, v5 _ _ (by decide), nn _ _ (by omega) nh50, fc _ nh120]; exact ts.rd.r1
  have d3' : V5 (c 50) 3 = c5 (128 * b + 1) := by rw [y50, v5 _ _ (by decide), nn _ _ (by omega) nh50, fc _ nhb1]; exact hB.r3
  have dl : V5 (c5 120) 2 = ln := by rw [v5 _ _ (by decide), nn _ _ (by omega) nh120]; exact lv
  rw [d1', d3', dl, yr]
  have g50 : S5.1 (c 50) = 6 := by rw [y50, tg5, nn _ _ (by omega) nh50]; exact ts.rd.g50
  have gb5 : S5.1 (c5 (128 * b + 1)) = 1 := by rw [tg5, nn _ _ (by omega) nhb1]; exact hB.tg
  have g35 : S5.1 (c5 (128 * g + 3)) = 4 := by rw [tg5]; exact ntg
  have hW6 : Wv c5 S5 (up (up V5 (c 50) 4 (c5 (128 * g + 3))) (c5 (128 * g + 3)) 1 ln) = up (up N5 50 4 (c5 (128 * g + 3))) (128 * g + 3) 1 ln := by rw [y50, Wv_up hc5 (by decide), Wv_up hc5 (by decide), hW5]
  have n6 : ∀ L k, ¬ (L = 50 ∧ k = 4) → ¬ (L = 128 * g + 3 ∧ k = 1) → up (up N5 50 4 (c5 (128 * g + 3))) (128 * g + 3) 1 ln L k = N5 L k := fun L k q1 q2 => by rw [up_ne' q2, up_ne' q1]
  have n64 : up (up N5 50 4 (c5 (128 * g + 3))) (128 * g + 3) 1 ln 50 4 = c5 (128 * g + 3) := by rw [up_ne' (by omega), up_eq]
  have n61 : up (up N5 50 4 (c5 (128 * g + 3))) (128 * g + 3) 1 ln (128 * g + 3) 1 = ln := up_eq
  refine ⟨g50, by rw [tg5, nn _ _ (by omega) nh120]; exact ts.rd.g120, g35, gb5, ?_⟩
  generalize hN6 : up (up N5 50 4 (c5 (128 * g + 3))) (128 * g + 3) 1 ln = N6 at *
  generalize hV6 : up (up V5 (c 50) 4 (c5 (128 * g + 3))) (c5 (128 * g + 3)) 1 ln = V6 at *
  obtain ⟨v6, tg6, ln6⟩ := Wr hW6
  have d61 : V6 (c5 (128 * b + 1)) 1 = e := by rw [v6 _ _ (by decide), n6 _ _ (by omega) (by omega), nn _ _ (by omega) nhb1]; exact hB.ne.trans h10
  have d60 : V6 (c5 (128 * b + 1)) 0 = c5 (128 * b + 2) := by rw [v6 _ _ (by decide), n6 _ _ (by omega) (by omega), nn _ _ (by omega) nhb1, fc _ nhb2]; exact hB.re
  refine CT.im (by omega) (fun d3 hd3 => qX0_keepEnum fun _ _ => vX0_keepEnum_0 ?_)
  rw [d61, d60]
  refine ⟨gb5, fun y => absurd y (by omega), fun _ => ⟨by rw [tg5, nn _ _ (by omega) nhb2]; exact hB.te, g35, e0, by rw [ln5, nn _ _ (by omega) nhb2, hB.le]; omega, by omega, by omega, g50, ?_⟩⟩
  have hW7 : Wv c5 S5 (up (up V6 (c5 (128 * b + 2)) e (c5 (128 * g + 3))) (c5 (128 * b + 1)) 1 (e + 1)) = up (up N6 (128 * b + 2) e (c5 (128 * g + 3))) (128 * b + 1) 1 (e + 1) := by rw [Wv_up hc5 (by decide), Wv_up hc5 e0, hW6]
  have n7 : ∀ L k, ¬ (L = 128 * b + 2 ∧ k = e) → ¬ (L = 128 * b + 1 ∧ k = 1) → up (up N6 (128 * b + 2) e (c5 (128 * g + 3))) (128 * b + 1) 1 (e + 1) L k = N6 L k := fun L k q1 q2 => by rw [up_ne' q2, up_ne' q1]
  have n7a : up (up N6 (128 * b + 2) e (c5 (128 * g + 3))) (128 * b + 1) 1 (e + 1) (128 * b + 2) e = c5 (128 * g + 3) := by rw [up_ne' (by omega), up_eq]
  have n7b : up (up N6 (128 * b + 2) e (c5 (128 * g + 3))) (128 * b + 1) 1 (e + 1) (128 * b + 1) 1 = e + 1 := up_eq
  generalize hN7 : up (up N6 (128 * b + 2) e (c5 (128 * g + 3))) (128 * b + 1) 1 (e + 1) = N7 at *
  generalize hV7 : up (up V6 (c5 (128 * b + 2)) e (c5 (128 * g + 3))) (c5 (128 * b + 1)) 1 (e + 1) = V7 at *
  have n75 : ∀ L k, L % 128 ≠ 1 → L % 128 ≠ 2 → L ≠ 50 → ¬ (L = 128 * g + 3 ∧ k = 1) → N7 L k = N5 L k := fun L k q1 q2 q3 q4 => (n7 L k (by omega) (by omega)).trans (n6 L k (by omega) q4)
  have nN : ∀ L k, ¬ (L = 50 ∧ (k = 4 ∨ (6 ≤ k ∧ k ≤ 9))) → ¬ hdL g L → ¬ (L = 128 * b + 2 ∧ k = e) → ¬ (L = 128 * b + 1 ∧ k = 1) → N7 L k = N L k := fun L k q1 q2 q3 q4 => (n7 L k q3 q4).trans ((n6 L k (by omega) (by unfold hdL at q2; omega)).trans (nn L k (by omega) q2))
  have ts7 : TS c5 N7 M2' K P W E nt (j + 1 + 1) := n5t.fr (fun _ _ => rfl) (fun L k q => by rw [n7 L k (by unfold rdR at q; omega) (by unfold rdR at q; omega), n6 L k (by unfold rdR at q; omega) (by unfold rdR at q; omega)]) (fun _ _ => rfl) (fun _ => rfl)
  have hE7 : HE c5 N7 M2' g := hd_he (j := j) (W := W) n75 ntg nz a1 a2 a3 a4 a5 a6 a7 a8 a9 a10 a11 a12 a13 a14 a15 a16 a17 a18 a19 a20 a21 a22 a23 a24 a25 a26 m213 m2z nrM
  have h77 : ∀ a, 0 ≤ a → a < 4 → N7 (128 * g + 7) a = -1 := fun a a0 a1 => (n75 _ _ (by omega) (by omega) (by omega) (by omega)).trans (a26 a a0 a1)
  have n7r : N7 50 4 = c5 (128 * g + 3) := (n7 _ _ (by omega) (by omega)).trans n64
  have n7f : N7 (128 * g + 3) 1 = ln := (n7 _ _ (by omega) (by omega)).trans n61
  subst hg
  have rd7 := hd_mid hI (by omega) fc nN n7r n7a n7b n7f hE7 h77 m2 m210 m241 m2z m213 nmb m219 ts7 (by omega)
  have gf7 : GFB b B c0 N0 M0 c5 N7 M2' := gf.tr (fun L q => fc L (fun y => q (by
    unfold hdL at y
    unfold bkL
    exact ⟨by omega, Or.inr (Or.inl ⟨by omega, by omega⟩)⟩))) (fun L k q => nN L k (fun y => q (Or.inr (Or.inl ⟨y.1, by omega, by omega⟩))) (fun y => q (Or.inl (by
    unfold hdL at y
    unfold bkL
    exact ⟨by omega, Or.inr (Or.inl ⟨by omega, by omega⟩)⟩))) (fun y => q (Or.inl (by
    unfold bkL
    exact ⟨by omega, Or.inl ⟨by omega, by omega⟩⟩))) (fun y => q (Or.inl (by
    unfold bkL
    exact ⟨by omega, Or.inl ⟨by omega, by omega⟩⟩)))) (fun k i q => m2 k i (fun y => q (Or.inl ⟨y.1, by omega⟩)) (fun y => q (Or.inr (Or.inl ⟨by omega, y.2⟩))) (fun y => q (Or.inr (Or.inr (Or.inr (Or.inl ⟨y.1, y.2.1, by omega, by omega⟩))))) (fun y => q (Or.inr (Or.inr (Or.inr (Or.inr (Or.inl ⟨by omega, by omega, by omega⟩)))))))
  rw [y50]
  refine CT.im (by omega) (fun d4 hd4 => ?_)
  by_cases k123 : K (j + 1 + 1) = 123
  · refine ct_acc1 (e := ee - 1) hc5 hW7 ts7 k123 (by decide) (by omega) (by omega) (fun V8 M8 hW8 ts8 lx8 rn8 => ⟨Or.inr rfl, ?_⟩)
    refine hok c5 S5 V8 M8 (N 50 5) (j + 1 + 1 + 1) hc5 h5 y50.symm (by rw [hW8]; exact rd7.ps ts8 (by omega) (fun L k q => nPs_ne q) lx8) (by rw [hW8]; exact gf7.tr (fun _ _ => rfl) (fun L k q => gb_nps q) (fun k i q => gf_lx lx8 q)) (by omega) (by omega) (fun Qr hq => refs Qr (ts7.sn1 rd7.ls.w (by decide) k123 (by omega) rn8 _ hq))
  · refine ct_acc0 hc5 hW7 ts7 k123 (by omega) (fun V8 hW8 => ⟨Or.inl rfl, ?_⟩)
    have wp : 0 < mFt M2' (if K (j + 1 + 1) = 0 then 1 else 2) (P (j + 1 + 1)) 0 46 := by rw [mFt_46]; exact ftp (by decide)
    refine hbad c5 S5 V8 (mFt M2' (if K (j + 1 + 1) = 0 then 1 else 2) (P (j + 1 + 1))) hc5 h5 (by rw [hW8]; exact gf7.tr (fun _ _ => rfl) (fun L k q => gb_nft q) (fun k i q => gf_mft q)) (by rw [hW8]; exact FTS.ft (ftp (by decide))) (fun Qr hq => refs Qr (ts7.sn0 rd7.ls.w (by decide) k123 (by omega) _ ?_))
    obtain ⟨e', rfl⟩ : ∃ e', ee = e' + 1 := ⟨ee - 1, by omega⟩
    exact st_readConstant_0 ⟨fun y => absurd wp (by omega), fun _ => st_readEnum_211 ⟨fun _ => sn_w wp (by omega) _ (st_readEnum_244 ⟨fun _ => sn_w wp (by omega) _ hq, fun y => absurd wp (by omega)⟩), fun y => absurd wp (by omega)⟩⟩
set_option maxHeartbeats 2000000 in
theorem hd_t1 {V2 M2' : Mem} {g nm : Int} (hc : Cn c S) (h0 : 0 ≤ S.2.2) (hI : BKI c N M gm ow eo cs K P W E nt b B j ln e) (gf : GFB b B c0 N0 M0 c N M) (e12 : e < 12) (hg : g = 12 * b + e) (hd : 100 ≤ d) (he : 115 ≤ ee) (n2 : ∀ L k, ¬ (L = 50 ∧ 6 ≤ k ∧ k ≤ 9) → Wv c S V2 L k = N L k) (n29 : Wv c S V2 50 9 = W (j + 1)) (ts2' : TS c (Wv c S V2) M2' K P W E nt (j + 1 + 1))
    (m2 : ∀ k i, ¬ (k = 0 ∧ ((3 ≤ i ∧ i ≤ 6) ∨ i = 41)) → ¬ (k = 10 ∧ i = b) → ¬ (13 ≤ k ∧ k ≤ 18 ∧ i = g) → ¬ (k = 19 ∧ 4 * g ≤ i ∧ i < 4 * g + 4) → M2' k i = M k i) (m210 : M2' 10 b = e + 1) (m213 : M2' 13 g = nm) (m2z : ∀ k, 14 ≤ k → k ≤ 18 → M2' k g = 0) (m241 : M2' 0 41 = g) (m219 : ∀ a, 0 ≤ a → a < 4 → M2' 19 (4 * g + a) = -1) (nrM : NR M2' (W (j + 1)) nm) (nmb : nm / 16 + nm % 16 ≤ 3000 * (b + 1))
    (refs : ∀ Qr : Int → Mem → Prop, PM ee n_sign_0 [123] M2' (fun z4 M4 => PM ee n_readConstant_0 [] M4 (fun z6 M6 => PM (ee + 1) n_readEnum_211 [4] M6 Qr)) → PM (ee + 1) n_readEnum_0 [] M Qr)
    (hok : ∀ c' S' V' M' st' j', Cn c' S' → 0 ≤ S'.2.2 → c' 50 = c 50 → RDI c' (Wv c' S' V') M' gm ow eo cs K P W E nt b B st' j' ln e 0 0 0 0 0 (36 * (12 * b + e)) 0 → GFB b B c0 N0 M0 c' (Wv c' S' V') M' → j < j' → e < 12 → (∀ Qr : Int → Mem → Prop, PM ee n_readConstant_0 [] M' (fun _ M6 => PM (ee + 1) n_readEnum_211 [4] M6 Qr) → PM (ee + 1) n_readEnum_0 [] M Qr) → Q 1 S' V')
    (hbad : ∀ c' S' V' M', Cn c' S' → 0 ≤ S'.2.2 → GFB b B c0 N0 M0 c' (Wv c' S' V') M' → FTS (Wv c' S' V') M' → RunM (ee + 1) n_readEnum_0 [] M 0 M' → Q 0 S' V') :
    ∀ (S4 : Sh) (V4 : Mem) (r4 : Int) (mc4 ms4 : Nat), r4 = S.2.2 + 1 → S4 = nw S 4 0 → V4 = clr V2 r4 → mc4 = 9 - 1 → ms4 = 67 - 17 → S4.1 (c 50) = 6 ∧ r4 ≠ 0 ∧ CT l G bX3_init d mc4 ms4 [vr r4, vl (V4 (c 50) 9)] S4 V4 (fun z6 S6 V6 mc6 ms6 => S6.1 (c 50) = 6 ∧ S6.1 (V6 (c 50) 1) = 2 ∧ S6.1 r4 = 4 ∧ S6.1 (V6 (c 50) 3) = 1 ∧ CT l G bX0_keepEnum d mc6 ms6 [vr (V6 (c 50) 3), vr r4] S6 (up (up V6 (c 50) 4 r4) r4 1 (V6 (V6 (c 50) 1) 2)) (fun z8 S8 V8 mc8 ms8 => S8.1 (c 50) = 6 ∧ CT l G bX5_accept d mc8 ms8 [vr (c 50), vi 123] S8 V8 (fun z10 S10 V10 mc10 ms10 => (z10 = 0 ∨ z10 = 1) ∧ Q z10 S10 V10))) := by
  have ts := hI.1
  have b01 : 0 ≤ b := hI.2.2.2.2.2.2.2.2.2.2.2.1
  have e01 : 0 ≤ e := hI.2.2.2.2.2.2.2.2.2.1
  intro S3 V3 r4 mc3 ms3 z1 z2 z3 z4 z5
  subst z1 z2 z3 z4 z5
  obtain ⟨c3, hc3, h3, hW3, e3, f3⟩ := al (L := 128 * g + 3) (t := 4) (n := 0) hc h0 (rfl : Wv c S V2 = Wv c S V2)
  have x50 : c 50 = c3 50 := (f3 50 (by omega)).symm
  have hn9 : clr V2 (S.2.2 + 1) (c 50) 9 = W (j + 1) := by rw [x50, (Wr hW3).1 _ _ (by decide), nwl_ne (by omega)]; exact n29
  generalize nw S 4 0 = S3 at *
  generalize clr V2 (S.2.2 + 1) = V3 at *
  generalize hr4 : S.2.2 + 1 = r4 at *
  rw [hn9]
  refine ⟨by rw [x50, (Wr hW3).2.1, nwl_ne (by omega), n2 _ _ (by omega)]; exact ts.rd.g50, by rw [← e3]; exact (hc3.2 _).1, ?_⟩
  refine CT.of (d - 1) 8 50 (ct_enuInit (g := g) (w := W (j + 1)) (Q := fun _ S5 V5 => ∃ c5 N5, (Cn c5 S5 ∧ 0 ≤ S5.2.2 ∧ Wv c5 S5 V5 = N5) ∧ (∀ L, ¬ (L = 128 * g + 4 ∨ L = 128 * g + 7 ∨ L = 128 * g + 8 ∨ (128 * g + 12 ≤ L ∧ L ≤ 128 * g + 16)) → c5 L = c3 L) ∧ (∀ L k, ¬ (L = 128 * g + 4 ∨ L = 128 * g + 7 ∨ L = 128 * g + 8 ∨ (128 * g + 12 ≤ L ∧ L ≤ 128 * g + 16)) → ¬ (L = 128 * g + 3 ∧ (k = 0 ∨ k = 3 ∨ k = 6 ∨ k = 7 ∨ k = 9 ∨ k = 11 ∨ k = 12 ∨ k = 13 ∨ k = 15)) → N5 L k = nwl (Wv c S V2) (128 * g + 3) 4 0 L k) ∧ (N5 (128 * g + 3) 0 = W (j + 1) ∧ N5 (128 * g + 3) 3 = c5 (128 * g + 4) ∧ N5 (128 * g + 4) (-1) = 32 ∧ N5 (128 * g + 4) (-2) = 24 ∧ N5 (128 * g + 3) 6 = c5 (128 * g + 7) ∧ N5 (128 * g + 7) (-1) = 20 ∧ N5 (128 * g + 7) (-2) = 4 ∧ N5 (128 * g + 3) 7 = c5 (128 * g + 8) ∧ N5 (128 * g + 8) (-1) = 38 ∧ N5 (128 * g + 8) (-2) = 4 ∧ N5 (128 * g + 3) 9 = c5 (128 * g + 12) ∧ N5 (128 * g + 12) (-1) = 20 ∧ N5 (128 * g + 12) (-2) = 3 ∧ N5 (128 * g + 3) 11 = c5 (128 * g + 13) ∧ N5 (128 * g + 13) (-1) = 22 ∧ N5 (128 * g + 13) (-2) = 4 ∧ N5 (128 * g + 3) 12 = c5 (128 * g + 14) ∧ N5 (128 * g + 14) (-1) = 20 ∧ N5 (128 * g + 14) (-2) = 4 ∧ N5 (128 * g + 3) 13 = c5 (128 * g + 15) ∧ N5 (128 * g + 15) (-1) = 20 ∧ N5 (128 * g + 15) (-2) = 4 ∧ N5 (128 * g + 3) 15 = c5 (128 * g + 16) ∧ N5 (128 * g + 16) (-1) = 37 ∧ N5 (128 * g + 16) (-2) = 3) ∧ (∀ a, 0 ≤ a → a < 4 → N5 (128 * g + 7) a = -1)) hc3 h3 hW3 e3 nwl_tag (by omega) (fun c' S' V' N' q1 q2 q3 q4 q5 a1 a2 a3 a4 a5 a6 a7 a8 a9 a10 a11 a12 a13 a14 a15 a16 a17 a18 a19 a20 a21 a22 a23 a24 a25 a26 => ⟨c', N', ⟨q1, q2, q3⟩, q4, q5, ⟨a1, a2, a3, a4, a5, a6, a7, a8, a9, a10, a11, a12, a13, a14, a15, a16, a17, a18, a19, a20, a21, a22, a23, a24, a25⟩, a26⟩)) (by omega) (by decide) (by decide) (fun z5 S5 V5 hq5 => ?_)
  obtain ⟨c5, N5, ⟨hc5, h5, hW5⟩, f5, n5, ⟨a1, a2, a3, a4, a5, a6, a7, a8, a9, a10, a11, a12, a13, a14, a15, a16, a17, a18, a19, a20, a21, a22, a23, a24, a25⟩, a26⟩ := hq5
  have fc : ∀ L, ¬ hdL g L → c5 L = c L := fun L q => (f5 L (by unfold hdL at q; omega)).trans (f3 L (by unfold hdL at q; omega))
  have n52 : ∀ L k, ¬ hdL g L → N5 L k = Wv c S V2 L k := fun L k q => (n5 L k (by unfold hdL at q; omega) (by unfold hdL at q; omega)).trans (nwl_ne (by unfold hdL at q; omega))
  have nn : ∀ L k, ¬ (L = 50 ∧ 6 ≤ k ∧ k ≤ 9) → ¬ hdL g L → N5 L k = N L k := fun L k q0 q1 => (n52 L k q1).trans (n2 L k q0)
  have nz : ∀ k, k = 4 ∨ k = 5 ∨ k = 8 ∨ k = 10 ∨ k = 14 ∨ k = 16 → N5 (128 * g + 3) k = 0 := fun k q => by rw [n5 _ _ (by omega) (by omega)]; unfold nwl; rw [if_pos rfl, if_neg (by omega), if_neg (by omega)]
  have ntg : N5 (128 * g + 3) (-1) = 4 := by rw [n5 _ _ (by omega) (by omega), nwl_tag]
  exact hd_t2 hc5 h5 hI gf e12 hg hd he hW5 fc nn (ts2'.fr (fun L q => fc L (by unfold rdL at q; unfold hdL; omega)) (fun L k q => n52 L k (by unfold rdR at q; unfold hdL; omega)) (fun _ _ => rfl) (fun _ => rfl)) ntg nz (by rw [f5 _ (by omega)]; exact e3.symm) a1 a2 a3 a4 a5 a6 a7 a8 a9 a10 a11 a12 a13 a14 a15 a16 a17 a18 a19 a20 a21 a22 a23 a24 a25 a26 m2 m210 m213 m2z m241 m219 nrM nmb refs hok hbad
set_option maxHeartbeats 4000000 in
theorem rd_head (hc : Cn c S) (h0 : 0 ≤ S.2.2) (hW : Wv c S V = N) (h : BKI c N M gm ow eo cs K P W E nt b B j ln e) (gf : GFB b B c0 N0 M0 c N M) (hd : 100 ≤ d) (he : 115 ≤ ee)
    (hok : ∀ c' S' V' M' st' j', Cn c' S' → 0 ≤ S'.2.2 → c' 50 = c 50 → RDI c' (Wv c' S' V') M' gm ow eo cs K P W E nt b B st' j' ln e 0 0 0 0 0 (36 * (12 * b + e)) 0 → GFB b B c0 N0 M0 c' (Wv c' S' V') M' → j < j' → e < 12 → (∀ Qr : Int → Mem → Prop, PM ee n_readConstant_0 [] M' (fun _ M6 => PM (ee + 1) n_readEnum_211 [4] M6 Qr) → PM (ee + 1) n_readEnum_0 [] M Qr) → Q 1 S' V')
    (hbad : ∀ c' S' V' M', Cn c' S' → 0 ≤ S'.2.2 → GFB b B c0 N0 M0 c' (Wv c' S' V') M' → FTS (Wv c' S' V') M' → RunM (ee + 1) n_readEnum_0 [] M 0 M' → Q 0 S' V') : Ct l G bX5_readHead Q d 9 67 [vr (c 50)] S V := by
  have hI := h
  obtain ⟨ts, ⟨lv, hr⟩, ⟨l0, lj, x0, x1⟩, ⟨w0, f0, b9⟩, tx, ⟨hB, h10⟩, pe, wd, ⟨s1, s2⟩, ⟨e0, e12, b0, b1, B0, B1⟩⟩ := h
  obtain ⟨ya, yb, yc, yd, ye, yf, yg⟩ := ts.x hW
  obtain ⟨v', tg, lnn⟩ := Wr hW
  have y3 : V (c 50) 3 = c (128 * b + 1) := (v' _ _ (by decide)).trans hB.r3
  have gB : S.1 (c (128 * b + 1)) = 1 := (tg _).trans hB.tg
  have y1 : V (c (128 * b + 1)) 1 = e := (v' _ _ (by decide)).trans (hB.ne.trans h10)
  have wf : ∀ (Mx : Mem) (k f p : Int), 0 < f → ¬ (mFt Mx (if K k = 0 then 1 else f) p 0 46 ≤ 0) := fun Mx k f p hf => by
    have : 0 < mFt Mx (if K k = 0 then 1 else f) p 0 46 := by rw [mFt_46]; exact ftp hf
    omega
  refine qX5_readHead fun c50 => vX5_readHead_0 ?_
  rw [ya, y3, y1]
  refine ⟨yf, fun k4 => CT.im (by omega) (fun d1 hd1 => ct_pass0 hc hW ts (fun V1 hV1 => ⟨fun y => absurd rfl y, fun _ => ?_⟩)), fun k4 => ⟨gB, fun c12 => CT.im (by omega) (fun d1 hd1 => ct_pass0 hc hW ts (fun V1 hV1 => ⟨fun y => absurd rfl y, fun _ => ?_⟩)), fun c12 => CT.im (by omega) (fun d1 hd1 => ct_pass (e := ee) hc hW ts (by omega) (by omega) (by omega) (fun V1 M1 hW1 ts1 lx1 rn1 => ⟨fun _ => ?_, fun y => absurd (by decide) y⟩))⟩⟩
  · exact hbad c S V1 (mFt M (if K j = 0 then 1 else 2) (P j)) hc h0 (gf.tr (fun _ _ => rfl) (fun L k q => by rw [hV1]; exact gb_nft q) (fun k i q => gf_mft q)) (by rw [hV1]; exact FTS.ft (ftp (by decide))) (fun Qr hq => st_readEnum_0 (ts.wd0 0 (by decide) (fun y => k4 (by rw [y]; decide)) (by omega) _ ⟨fun y => absurd rfl y, fun _ => ts.ft w0 (by omega) _ hq⟩))
  · refine hbad c S V1 (mFt M (if K j = 0 then 1 else 5) (P j)) hc h0 (gf.tr (fun _ _ => rfl) (fun L k q => by rw [hV1]; exact gb_nft q) (fun k i q => gf_mft q)) (by rw [hV1]; exact FTS.ft (ftp (by decide))) (fun Qr hq => st_readEnum_0 (ts.wd1 0 (by decide) (show K j = 4 by omega) (by omega) _ ⟨fun _ => ?_, fun y => absurd (by decide) y⟩))
    rw [b9, h10]
    exact ⟨b0, b1, fun y => absurd (by omega) y, fun _ => ts.ft w0 (by omega) _ hq⟩
  have k4' : K j = 4 := by omega
  have n1 : ∀ L k, ¬ (L = 50 ∧ 6 ≤ k ∧ k ≤ 8) → nPs N (j + 1) (K (j + 1)) (W (j + 1)) L k = N L k := fun L k q => nPs_ne q
  have m1 : ∀ k i, ¬ (k = 0 ∧ 3 ≤ i ∧ i ≤ 6) → M1 k i = M k i := lx1
  obtain ⟨v1, tg1, ln1⟩ := Wr hW1
  have zx1 := ts1.x hW1
  have z13 : V1 (c 50) 3 = c (128 * b + 1) := (v1 _ _ (by decide)).trans ((n1 _ _ (by omega)).trans hB.r3)
  have h1b9 : M1 0 9 = b := (m1 _ _ (by omega)).trans b9
  have h110 : M1 10 b = e := (m1 _ _ (by omega)).trans h10
  obtain ⟨g, hg⟩ : ∃ g, g = 12 * b + e := ⟨_, rfl⟩
  have mg : ∀ k i, ¬ (k = 0 ∧ i = 41) → up M1 0 41 g k i = M1 k i := fun k i q => up_ne' q
  have mg41 : up M1 0 41 g 0 41 = g := up_eq
  have tsg : TS c (nPs N (j + 1) (K (j + 1)) (W (j + 1))) (up M1 0 41 g) K P W E nt (j + 1) := ts1.fr (fun _ _ => rfl) (fun _ _ _ => rfl) (fun i hi => mg _ _ (by omega)) (fun i => mg _ _ (by omega))
  have en1 : enm (nPs N (j + 1) (K (j + 1)) (W (j + 1))) b = enm N b := funext fun i => n1 _ _ (by omega)
  have ref0 : ∀ Qr : Int → Mem → Prop, KE ee g Qr (up M1 0 41 g) → PM (ee + 1) n_readEnum_0 [] M Qr := fun Qr hq => st_readEnum_0 (ts.wd1 0 (by decide) k4' (by omega) _ ⟨fun _ => by
    rw [b9, h10]
    refine ⟨b0, b1, fun _ => rn1 _ ?_, fun y => absurd (by omega) y⟩
    rw [h1b9, h110, ← hg]
    exact ⟨by omega, by omega, by omega, by omega, by omega, by omega, hq⟩, fun y => absurd (by decide) y⟩)
  have mgM : ∀ k i, ¬ (k = 0 ∧ ((3 ≤ i ∧ i ≤ 6) ∨ i = 41)) → up M1 0 41 g k i = M k i := fun k i q => (mg k i (by omega)).trans (m1 k i (by omega))
  generalize hMg : up M1 0 41 g = Mg at *
  have wg : Mg 0 46 = 0 := (mgM _ _ (by omega)).trans w0
  have b9g : Mg 0 9 = b := (mgM _ _ (by omega)).trans b9
  have h10g : Mg 10 b = e := (mgM _ _ (by omega)).trans h10
  have rfs : ∀ yy f : Int, (K (j + 1) ≠ 3 ∧ f = 2) ∨ (K (j + 1) = 3 ∧ yy ≠ 0 ∧ f = 3) → (∀ Qr : Int → Mem → Prop, Qr 0 (up (mFt Mg (if K (j + 1) = 0 then 1 else f) (P (j + 1))) 13 g (-1)) → PM (ee + 1) n_readEnum_0 [] M Qr) → XJ l G bX5_readHead Q d 73 [vr (c 50), vi 1] [vi yy, vr (c 50)] S V1 9 67 := by
    intro yy f hf href
    have fpos : 0 < (if K (j + 1) = 0 then 1 else f) := ftp (by omega)
    have hf' : (K (j + 1) ≠ 3 ∧ f = 2) ∨ (K (j + 1) = 3 ∧ yy ≠ 0 ∧ f = 3) ∨ (K (j + 1) = 3 ∧ yy = 0 ∧ (1 : Int) = 0 ∧ f = 5) := by
      rcases hf with q | q
      · exact Or.inl q
      · exact Or.inr (Or.inl q)
    have u46 : up (mFt Mg (if K (j + 1) = 0 then 1 else f) (P (j + 1))) 13 g (-1) 0 46 = (if K (j + 1) = 0 then 1 else f) := by rw [up_ne' (by omega), mFt_46]
    have u47 : up (mFt Mg (if K (j + 1) = 0 then 1 else f) (P (j + 1))) 13 g (-1) 0 47 = P (j + 1) := by rw [up_ne' (by omega), mFt_47]
    refine vX5_readHead_73 ⟨yf, CT.im (by omega) (fun d2 hd2 => ct_new0 (f := f) hc hW1 ts1 hf' (by omega) (fun V2 hV2 => ⟨fun y => absurd rfl y, fun _ => ?_⟩))⟩
    refine hbad c S V2 (up (mFt Mg (if K (j + 1) = 0 then 1 else f) (P (j + 1))) 13 g (-1)) hc h0 (gf.tr (fun _ _ => rfl) (fun L k q => ?_) (fun k i q => ?_)) ?_ (fun Qr hq => href Qr hq)
    · rcases hV2 with hV2 | hV2
      · rw [hV2, gb_nft q, gb_nps q]
      · rw [hV2, gb_nft q, nNn_ne (fun y => q (Or.inr (Or.inl ⟨y.1, by omega, by omega⟩))), gb_nps q]
    · rw [up_ne' (fun y => q (Or.inr (Or.inr (Or.inr (Or.inl ⟨by omega, by omega, by omega, by omega⟩))))), gf_mft q]
      exact mgM k i (fun y => q (Or.inl ⟨y.1, by omega⟩))
    · rcases hV2 with hV2 | hV2
      · rw [hV2]; exact ⟨by rw [u46]; exact fpos, by rw [u46, nFt_10], by rw [u47, nFt_11]; exact ⟨rfl, ts1.pb⟩⟩
      · rw [hV2]; exact ⟨by rw [u46]; exact fpos, by rw [u46, nFt_10], by rw [u47, nFt_11]; exact ⟨rfl, ts1.pb⟩⟩
  have ref2 : K (j + 1) ≠ 3 → ∀ Qr : Int → Mem → Prop, Qr 0 (up (mFt Mg (if K (j + 1) = 0 then 1 else 2) (P (j + 1))) 13 g (-1)) → PM (ee + 1) n_readEnum_0 [] M Qr := fun k3 Qr hq => ref0 Qr (tsg.nm0 k3 (by omega) _ ⟨fun _ => tsg.new0 (f := 2) (Or.inl ⟨k3, rfl⟩) wg (by omega) _ ⟨by omega, by omega, fun y => absurd y (wf _ _ _ _ (by decide)), fun _ => hq⟩, fun y => absurd rfl y⟩)
  rw [z13, zx1.2.1]
  refine ⟨yf, gB, CT.pu (by omega) (fun d2 hd2 => ct_fE (n := e) hW1 ((n1 _ _ (by omega)).trans hB.tg) ((n1 _ _ (by omega)).trans (hB.ne.trans h10)) ((n1 _ _ (by omega)).trans hB.re) ((n1 _ _ (by omega)).trans hB.te) ((n1 _ _ (by omega)).trans hB.le) (by omega) (fun i i0 i1 => by rw [n1 _ _ (by omega), n1 _ _ (by omega)]; exact hB.ei i i0 (by omega)) ?_)⟩
  rw [en1]
  have fr := fdx_rng (f := enm N b) (v := W (j + 1)) e.toNat 0 (Int.le_refl _)
  have tx1 : ∀ i, 0 ≤ i → i < M1 0 2 → M1 7 (3000 * b + i) = M1 1 i := fun i i0 i1 => by
    rw [m1 _ _ (by omega)] at i1
    rw [m1 _ _ (by omega), m1 _ _ (by omega)]
    exact tx i i0 i1
  have nrj : K (j + 1) = 3 → NR Mg (W (j + 1)) (nmv P E b (j + 1)) ∧ nmv P E b (j + 1) / 16 + nmv P E b (j + 1) % 16 ≤ 3000 * (b + 1) := fun q => by
    have := ts1.nr b0 b1 tx1 (by omega) (by omega)
    exact ⟨this.1.m7 (fun i => mg _ _ (by omega)), this.2⟩
  have reo : K (j + 1) = 3 → RunM ee n_enumOf_0 [nmv P E b (j + 1)] Mg (fdx (enm N b) (W (j + 1)) e.toNat 0) Mg := fun q => by
    have := rn_enumOf (e := ee) (f := enm N b) b9g b0 b1 (by omega) (fun i i0 i1 => (by rw [mgM 13 _ (by omega)]; exact (pe i i0 (by omega)).1.nm.m7 (fun t => mgM _ _ (by omega)) : NR Mg (enm N b i) (Mg 13 (12 * b + i)))) (nrj q).1 (by omega)
    rw [h10g] at this
    exact this
  refine ⟨rfl, rfl, fun fd => ?_, fun fd => ?_⟩
  rotate_left
  · by_cases k3 : K (j + 1) = 3
    · exact rfs 1 3 (Or.inr ⟨k3, by decide, rfl⟩) (fun Qr hq => ref0 Qr (tsg.nm1 k3 (by omega) _ ⟨fun y => absurd y (by decide), fun _ => tsg.nh b9g b0 b1 (by omega) _ (reo k3 _ ⟨fun y => absurd y (by omega), fun _ => tsg.new0 (f := 3) (Or.inr ⟨k3, by decide, rfl⟩) wg (by omega) _ ⟨by omega, by omega, fun y => absurd y (wf _ _ _ _ (by decide)), fun _ => hq⟩⟩)⟩))
    · exact rfs 1 2 (Or.inl ⟨k3, rfl⟩) (ref2 k3)
  by_cases k3 : K (j + 1) = 3
  rotate_left
  · exact rfs 0 2 (Or.inl ⟨k3, rfl⟩) (ref2 k3)
  have fdm : fdx (enm N b) (W (j + 1)) e.toNat 0 = -1 := by omega
  have nr := nrj k3
  have reo' := reo k3
  have nn1 := tsg.new1 (e := ee) k3 wg b9g b0 b1 (by omega)
  have rnh := tsg.nh (e := ee) b9g b0 b1 (by omega)
  clear reo nrj rfs ref2
  obtain ⟨nm, hnm⟩ : ∃ nm, nm = nmv P E b (j + 1) := ⟨_, rfl⟩
  rw [← hnm] at nr reo' nn1 rnh
  have mu : ∀ k i, ¬ (k = 10 ∧ i = b) → ¬ (13 ≤ k ∧ k ≤ 18 ∧ i = g) → up (up (up (up (up (up (up Mg 13 g nm) 10 b (e + 1)) 14 g 0) 15 g 0) 16 g 0) 17 g 0) 18 g 0 k i = Mg k i := fun k i q1 q2 => by rw [up_ne' (by omega), up_ne' (by omega), up_ne' (by omega), up_ne' (by omega), up_ne' (by omega), up_ne' (by omega), up_ne' (by omega)]
  have mu10 : up (up (up (up (up (up (up Mg 13 g nm) 10 b (e + 1)) 14 g 0) 15 g 0) 16 g 0) 17 g 0) 18 g 0 10 b = e + 1 := by rw [up_ne' (by omega), up_ne' (by omega), up_ne' (by omega), up_ne' (by omega), up_ne' (by omega), up_eq]
  have mu13 : up (up (up (up (up (up (up Mg 13 g nm) 10 b (e + 1)) 14 g 0) 15 g 0) 16 g 0) 17 g 0) 18 g 0 13 g = nm := by rw [up_ne' (by omega), up_ne' (by omega), up_ne' (by omega), up_ne' (by omega), up_ne' (by omega), up_ne' (by omega), up_eq]
  have muz : ∀ k, 14 ≤ k → k ≤ 18 → up (up (up (up (up (up (up Mg 13 g nm) 10 b (e + 1)) 14 g 0) 15 g 0) 16 g 0) 17 g 0) 18 g 0 k g = 0 := fun k k1 k2 => by
    have hk : k = 14 ∨ k = 15 ∨ k = 16 ∨ k = 17 ∨ k = 18 := by omega
    rcases hk with rfl | rfl | rfl | rfl | rfl
    · rw [up_ne' (by omega), up_ne' (by omega), up_ne' (by omega), up_ne' (by omega), up_eq]
    · rw [up_ne' (by omega), up_ne' (by omega), up_ne' (by omega), up_eq]
    · rw [up_ne' (by omega), up_ne' (by omega), up_eq]
    · rw [up_ne' (by omega), up_eq]
    · rw [up_eq]
  have refu : ∀ Qr : Int → Mem → Prop, PM (ee + 1) n_readEnum_172 [0] (up (up (up (up (up (up (up Mg 13 g nm) 10 b (e + 1)) 14 g 0) 15 g 0) 16 g 0) 17 g 0) 18 g 0) Qr → PM (ee + 1) n_readEnum_0 [] M Qr := fun Qr hq => ref0 Qr (tsg.nm1 k3 (by omega) _ ⟨fun y => absurd y (by decide), fun _ => rnh _ (reo' _ ⟨fun _ => nn1 _ ⟨by omega, by omega, fun _ => by
    rw [b9g, h10g, mg41]
    exact ⟨by omega, by omega, by omega, by omega, by omega, by omega, hq⟩, fun y => absurd (by omega) y⟩, fun y => absurd fdm y⟩)⟩)
  generalize hMu : up (up (up (up (up (up (up Mg 13 g nm) 10 b (e + 1)) 14 g 0) 15 g 0) 16 g 0) 17 g 0) 18 g 0 = Mu at *
  have mu41 : Mu 0 41 = g := (mu _ _ (by omega) (by omega)).trans mg41
  obtain ⟨M3, r3, f3, b3⟩ := enu172 (e := ee) (g := g) (by omega) (by omega) 4 0 Mu (by decide) (by decide) mu41
  have refn : ∀ Qr : Int → Mem → Prop, PM ee n_next_0 [] M3 (fun z2 M2 => PM ee n_sign_0 [123] M2 (fun z4 M4 => PM ee n_readConstant_0 [] M4 (fun z6 M6 => PM (ee + 1) n_readEnum_211 [4] M6 Qr))) → PM (ee + 1) n_readEnum_0 [] M Qr := fun Qr hq => refu Qr (r3 Qr (st_readEnum_172 ⟨fun _ => hq, fun y => absurd (Int.le_refl _) y⟩))
  have m3 : ∀ k i, ¬ (k = 0 ∧ ((3 ≤ i ∧ i ≤ 6) ∨ i = 41)) → ¬ (k = 10 ∧ i = b) → ¬ (13 ≤ k ∧ k ≤ 18 ∧ i = g) → ¬ (k = 19 ∧ 4 * g ≤ i ∧ i < 4 * g + 4) → M3 k i = M k i := fun k i q1 q2 q3 q4 => (f3 k i (by omega)).trans ((mu k i q2 q3).trans (mgM k i q1))
  have m3g : ∀ k i, ¬ (k = 10 ∧ i = b) → ¬ (13 ≤ k ∧ k ≤ 18 ∧ i = g) → ¬ (k = 19 ∧ 4 * g ≤ i ∧ i < 4 * g + 4) → M3 k i = Mg k i := fun k i q2 q3 q4 => (f3 k i (by omega)).trans (mu k i q2 q3)
  have m310 : M3 10 b = e + 1 := (f3 _ _ (by omega)).trans mu10
  have m313 : M3 13 g = nm := (f3 _ _ (by omega)).trans mu13
  have m3z : ∀ k, 14 ≤ k → k ≤ 18 → M3 k g = 0 := fun k k1 k2 => (f3 _ _ (by omega)).trans (muz k k1 k2)
  have m341 : M3 0 41 = g := (f3 _ _ (by omega)).trans mu41
  have ts3 : TS c (nPs N (j + 1) (K (j + 1)) (W (j + 1))) M3 K P W E nt (j + 1) := tsg.fr (fun _ _ => rfl) (fun _ _ _ => rfl) (fun i hi => m3g _ _ (by omega) (by omega) (by omega)) (fun i => m3g _ _ (by omega) (by omega) (by omega))
  refine vX5_readHead_73 ⟨yf, CT.im (by omega) (fun d2 hd2 => ct_new1 (e := ee) hc hW1 ts3 k3 (by omega) (by omega) (fun V2 M2 hW2 ts2 lx2 rn2 => ⟨fun _ => ?_, fun y => absurd (by decide) y⟩))⟩
  have m2 : ∀ k i, ¬ (k = 0 ∧ ((3 ≤ i ∧ i ≤ 6) ∨ i = 41)) → ¬ (k = 10 ∧ i = b) → ¬ (13 ≤ k ∧ k ≤ 18 ∧ i = g) → ¬ (k = 19 ∧ 4 * g ≤ i ∧ i < 4 * g + 4) → M2 k i = M k i := fun k i q1 q2 q3 q4 => (lx2 k i (by omega)).trans (m3 k i q1 q2 q3 q4)
  have m210 : M2 10 b = e + 1 := (lx2 _ _ (by omega)).trans m310
  have m213 : M2 13 g = nm := (lx2 _ _ (by omega)).trans m313
  have m2z : ∀ k, 14 ≤ k → k ≤ 18 → M2 k g = 0 := fun k k1 k2 => (lx2 _ _ (by omega)).trans (m3z k k1 k2)
  have m241 : M2 0 41 = g := (lx2 _ _ (by omega)).trans m341
  have m219 : ∀ a, 0 ≤ a → a < 4 → M2 19 (4 * g + a) = -1 := fun a a0 a1 => (lx2 _ _ (by omega)).trans (b3 _ (by omega) (by omega))
  have refs : ∀ Qr : Int → Mem → Prop, PM ee n_sign_0 [123] M2 (fun z4 M4 => PM ee n_readConstant_0 [] M4 (fun z6 M6 => PM (ee + 1) n_readEnum_211 [4] M6 Qr)) → PM (ee + 1) n_readEnum_0 [] M Qr := fun Qr hq => refn Qr (rn2 _ hq)
  have n2 : ∀ L k, ¬ (L = 50 ∧ 6 ≤ k ∧ k ≤ 9) → Wv c S V2 L k = N L k := fun L k q => by rw [hW2, nPs_ne (by omega), nNn_ne (by omega), nPs_ne (by omega)]
  have n29 : Wv c S V2 50 9 = W (j + 1) := by rw [hW2, nPs_ne (by omega)]; exact up_eq
  have ts2' : TS c (Wv c S V2) M2 K P W E nt (j + 1 + 1) := by rw [hW2]; exact ts2
  have nrM : NR M2 (W (j + 1)) nm := nr.1.m7 (fun i => (lx2 _ _ (by omega)).trans (m3g _ _ (by omega) (by omega) (by omega)))
  exact ⟨by decide, by decide, hd_t1 hc h0 hI gf (by omega) hg hd he n2 n29 ts2' m2 m210 m213 m2z m241 m219 nrM nr.2 refs hok hbad⟩
end HDR
