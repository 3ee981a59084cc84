/-! ===== book: the state between members ===== -/
/-- where the reading of book b may change things -/
def gfN (b L k : Int) : Prop := (bkL b L ∧ ¬ (L % 128 = 3 ∧ k = -1)) ∨ (L = 50 ∧ 5 ≤ k ∧ k ≤ 11) ∨ (L = 51 ∧ 0 ≤ k) ∨ (L = 120 ∧ k = 2) ∨ ((L = 121 ∨ L = 122) ∧ 0 ≤ k)
def gfM (b B k i : Int) : Prop := (k = 0 ∧ ((3 ≤ i ∧ i ≤ 6) ∨ (40 ≤ i ∧ i ≤ 47) ∨ i = 51)) ∨ ((k = 10 ∨ k = 11) ∧ i = b) ∨ (k = 12 ∧ 4 * b ≤ i ∧ i < 4 * b + 4) ∨ (13 ≤ k ∧ k ≤ 18 ∧ 12 * b ≤ i ∧ i < 12 * b + 12) ∨ ((k = 19 ∨ k = 23 ∨ k = 24 ∨ k = 27 ∨ k = 28) ∧ 48 * b ≤ i ∧ i < 48 * b + 48) ∨ ((k = 20 ∨ k = 21) ∧ 288 * b ≤ i ∧ i < 288 * b + 288) ∨ (k = 22 ∧ 1152 * b ≤ i ∧ i < 1152 * b + 1152) ∨ (k = 25 ∧ 576 * b ≤ i ∧ i < 576 * b + 576) ∨ ((k = 26 ∨ k = 29 ∨ k = 30 ∨ k = 34) ∧ 36 * b ≤ i ∧ i < 36 * b + 36) ∨ ((k = 31 ∨ k = 32 ∨ k = 33) ∧ 432 * b ≤ i ∧ i < 432 * b + 432) ∨ (35 ≤ k ∧ k ≤ 39 ∧ B ≤ i) ∨ (48 ≤ k ∧ k ≤ 50)
def GF (b B : Int) (c0 : Int → Int) (N0 M0 : Mem) (c : Int → Int) (N M : Mem) : Prop := (∀ L, ¬ (bkL b L ∧ L % 128 ≠ 3) → c L = c0 L) ∧ (∀ L k, ¬ gfN b L k → N L k = N0 L k) ∧ (∀ k i, ¬ gfM b B k i → M k i = M0 k i)
theorem GF.tr {b B : Int} {c0 c c' : Int → Int} {N0 M0 N M N' M' : Mem} (h : GF b B c0 N0 M0 c N M) (fc : ∀ L, ¬ (bkL b L ∧ L % 128 ≠ 3) → c' L = c L) (fn : ∀ L k, ¬ gfN b L k → N' L k = N L k) (fm : ∀ k i, ¬ gfM b B k i → M' k i = M k i) : GF b B c0 N0 M0 c' N' M' := ⟨fun L q => (fc L q).trans (h.1 L q), fun L k q => (fn L k q).trans (h.2.1 L k q), fun k i q => (fm k i q).trans (h.2.2 k i q)⟩
theorem gfN_50 {b k : Int} (h : 5 ≤ k) (h2 : k ≤ 11) : gfN b 50 k := Or.inr (Or.inl ⟨rfl, h, h2⟩)
theorem gf_fXn {b ln L k : Int} {N N' : Mem} (l0 : 0 ≤ ln) (f : fXn ln N N') (q : ¬ gfN b L k) : N' L k = N L k := f L k (fun y => q (Or.inr (Or.inl ⟨y.1, by omega, by omega⟩))) (fun y => q (Or.inr (Or.inr (Or.inr (Or.inl y))))) (fun y => q (Or.inr (Or.inr (Or.inr (Or.inr ⟨y.1, by omega⟩)))))
theorem gf_nps {b L k j u v : Int} {N : Mem} (q : ¬ gfN b L k) : nPs N j u v L k = N L k := nPs_ne (fun y => q (Or.inr (Or.inl ⟨y.1, by omega, by omega⟩)))
theorem gf_nft {b L k u v : Int} {N : Mem} (q : ¬ gfN b L k) : nFt N u v L k = N L k := nFt_ne (fun y => q (Or.inr (Or.inl ⟨y.1, by omega, by omega⟩)))
theorem gf_lx {b B k i : Int} {M M' : Mem} (f : Lxs M M') (q : ¬ gfM b B k i) : M' k i = M k i := f k i (fun y => q (Or.inl ⟨y.1, by omega⟩))
theorem gf_mft {b B k i u v : Int} {M : Mem} (q : ¬ gfM b B k i) : mFt M u v k i = M k i := mFt_ne (fun y => q (Or.inl ⟨y.1, by omega⟩))
theorem gf_fYm {b B X R k i : Int} {M M' : Mem} (hB : B ≤ X) (f : fYm X R M M') (q : ¬ gfM b B k i) : M' k i = M k i := f k i (fun y => q (Or.inl ⟨y.1, by omega⟩)) (fun y => q (Or.inr (Or.inr (Or.inr (Or.inr (Or.inr (Or.inr (Or.inr (Or.inr (Or.inr (Or.inr (Or.inl ⟨y.1, y.2.1, by omega⟩)))))))))))) (fun y => q (Or.inr (Or.inr (Or.inr (Or.inr (Or.inr (Or.inr (Or.inr (Or.inr (Or.inr (Or.inr (Or.inr ⟨y.1, y.2.1⟩))))))))))))
/-- a fault: the class's and the reference's -/
def FTS (N M : Mem) : Prop := 0 < M 0 46 ∧ N 50 10 = M 0 46 ∧ N 50 11 = M 0 47 ∧ 0 ≤ M 0 47 ∧ M 0 47 ≤ 3000
theorem FTS.ft {N M : Mem} {f p : Int} (h : 0 < f) (hp : 0 ≤ p ∧ p ≤ 3000 := by first | exact TS.pb (by assumption) | exact MLS.pb (by assumption)) : FTS (nFt N f p) (mFt M f p) := ⟨by rw [mFt_46]; exact h, by rw [nFt_10, mFt_46], by rw [nFt_11, mFt_47]; exact ⟨rfl, hp⟩⟩
theorem ftp {K : Int → Int} {j x : Int} (h : 0 < x) : 0 < (if K j = 0 then 1 else x) := by split <;> omega
def RDI (c : Int → Int) (N M gm : Mem) (ow eo cs K P W E : Int → Int) (nt b B st j ln e nc nu nk nh ns cb pc : Int) : Prop :=
  MLS c N M K P W E nt b (12 * b + e) st B j ln ∧ (∀ i, 0 ≤ i → i < M 0 2 → M 7 (3000 * b + i) = M 1 i) ∧ (HB c N M b ∧ M 10 b = e + 1 ∧ N 50 4 = c (128 * (12 * b + e) + 3)) ∧ HE c N M (12 * b + e) ∧ (M 14 (12 * b + e) = nc + pc ∧ M 15 (12 * b + e) = nu ∧ M 16 (12 * b + e) = nk ∧ M 17 (12 * b + e) = nh ∧ M 18 (12 * b + e) = ns) ∧ EI c N M gm ow K P W E nt b B (M 0 40) ln e nc nu nk nh ns ∧ (∀ e', 0 ≤ e' → e' < e → PE c N M gm ow eo K P W E nt b B (M 0 40) ln e') ∧ WLD N M gm ow eo cs K P E nt b B (M 0 40) ln e (N (128 * (12 * b + e) + 3) 1) cb ∧ (M 13 (12 * b + e) / 16 + M 13 (12 * b + e) % 16 ≤ 3000 * (b + 1) ∧ (e = 0 → N (128 * (12 * b + e) + 3) 1 = 0) ∧ (0 < e → N (128 * (12 * b + e) + 3) 1 = N (128 * (12 * b + (e - 1)) + 3) 2)) ∧ (0 ≤ e ∧ e < 12 ∧ 0 ≤ b ∧ b < 10 ∧ 0 ≤ B ∧ B ≤ 27000)
section RDS
variable {c c' : Int → Int} {N N' M M' gm gm' : Mem} {ow eo cs K P W E : Int → Int} {nt b B st j ln e nc nu nk nh ns cb pc j' st' g : Int}
theorem MLS.fr (h : MLS c N M K P W E nt b g st B j ln) (ts : TS c' N' M' K P W E nt j') (s : N' 50 5 = st') (l : N' 120 2 = ln) (n : ∀ i, 0 ≤ i → i < ln → N' 121 i = N 121 i) (jj : j ≤ j') (m51 : M' 0 51 = M 0 51) (m40 : M' 0 40 = M 0 40) (m46 : M' 0 46 = 0) (f : N' 50 10 = 0) (m9 : M' 0 9 = M 0 9) (m41 : M' 0 41 = M 0 41) : MLS c' N' M' K P W E nt b g st' B j' ln := by
  obtain ⟨h1, ⟨h2, h3, h4⟩, ⟨h5, h6, h7, h8⟩, h9, h10, h11, h12⟩ := h
  exact ⟨ts, ⟨s, l, by rw [m51, ← h4]; exact rcn_cg _ (fun k a q => n k a (by omega))⟩, ⟨h5, by omega, by rw [m40]; exact h7, by rw [m40]; omega⟩, m46, f, m9.trans h11, m41.trans h12⟩
theorem RDI.ls (h : RDI c N M gm ow eo cs K P W E nt b B st j ln e nc nu nk nh ns cb pc) : MLS c N M K P W E nt b (12 * b + e) st B j ln := h.1
theorem RDI.tx (h : RDI c N M gm ow eo cs K P W E nt b B st j ln e nc nu nk nh ns cb pc) : ∀ i, 0 ≤ i → i < M 0 2 → M 7 (3000 * b + i) = M 1 i := h.2.1
theorem RDI.hb (h : RDI c N M gm ow eo cs K P W E nt b B st j ln e nc nu nk nh ns cb pc) : HB c N M b := h.2.2.1.1
theorem RDI.m10 (h : RDI c N M gm ow eo cs K P W E nt b B st j ln e nc nu nk nh ns cb pc) : M 10 b = e + 1 := h.2.2.1.2.1
theorem RDI.cu (h : RDI c N M gm ow eo cs K P W E nt b B st j ln e nc nu nk nh ns cb pc) : N 50 4 = c (128 * (12 * b + e) + 3) := h.2.2.1.2.2
theorem RDI.he (h : RDI c N M gm ow eo cs K P W E nt b B st j ln e nc nu nk nh ns cb pc) : HE c N M (12 * b + e) := h.2.2.2.1
theorem RDI.ct (h : RDI c N M gm ow eo cs K P W E nt b B st j ln e nc nu nk nh ns cb pc) : M 14 (12 * b + e) = nc + pc ∧ M 15 (12 * b + e) = nu ∧ M 16 (12 * b + e) = nk ∧ M 17 (12 * b + e) = nh ∧ M 18 (12 * b + e) = ns := h.2.2.2.2.1
theorem RDI.ei (h : RDI c N M gm ow eo cs K P W E nt b B st j ln e nc nu nk nh ns cb pc) : EI c N M gm ow K P W E nt b B (M 0 40) ln e nc nu nk nh ns := h.2.2.2.2.2.1
theorem RDI.pe (h : RDI c N M gm ow eo cs K P W E nt b B st j ln e nc nu nk nh ns cb pc) : ∀ e', 0 ≤ e' → e' < e → PE c N M gm ow eo K P W E nt b B (M 0 40) ln e' := h.2.2.2.2.2.2.1
theorem RDI.wd (h : RDI c N M gm ow eo cs K P W E nt b B st j ln e nc nu nk nh ns cb pc) : WLD N M gm ow eo cs K P E nt b B (M 0 40) ln e (N (128 * (12 * b + e) + 3) 1) cb := h.2.2.2.2.2.2.2.1
theorem RDI.sg (h : RDI c N M gm ow eo cs K P W E nt b B st j ln e nc nu nk nh ns cb pc) : M 13 (12 * b + e) / 16 + M 13 (12 * b + e) % 16 ≤ 3000 * (b + 1) ∧ (e = 0 → N (128 * (12 * b + e) + 3) 1 = 0) ∧ (0 < e → N (128 * (12 * b + e) + 3) 1 = N (128 * (12 * b + (e - 1)) + 3) 2) := h.2.2.2.2.2.2.2.2.1
theorem RDI.bd (h : RDI c N M gm ow eo cs K P W E nt b B st j ln e nc nu nk nh ns cb pc) : 0 ≤ e ∧ e < 12 ∧ 0 ≤ b ∧ b < 10 ∧ 0 ≤ B ∧ B ≤ 27000 := h.2.2.2.2.2.2.2.2.2
theorem RDI.ens (h : RDI c N M gm ow eo cs K P W E nt b B st j ln e nc nu nk nh ns cb 0) : ENs N M (12 * b + e) := by
  obtain ⟨q1, q2, q3, q4, q5⟩ := h.ct
  obtain ⟨h1, h2, h3, h4, h5, h6⟩ := h.ei
  refine ⟨fun i i0 i1 => (h1 i i0 (by omega)).2.1.1, fun i i0 i1 => (h2 i i0 (by omega)).2.1, fun i i0 i1 => (h4 i i0 (by omega)).1, fun i i0 i1 => (h5 i i0 (by omega)).2.1⟩
theorem HB.fr (h : HB c N M b) (fc : ∀ L, L = 128 * b + 1 ∨ L = 128 * b + 2 → c' L = c L) (n1 : ∀ k, N' (128 * b + 1) k = N (128 * b + 1) k) (n2 : ∀ k, N' (128 * b + 2) k = N (128 * b + 2) k) (r3 : N' 50 3 = N 50 3) (n51 : ∀ k, 0 ≤ k → N' 51 k = N 51 k) (ni : ∀ i, 0 ≤ i → i < 12 → c' (128 * (12 * b + i) + 3) = c (128 * (12 * b + i) + 3) ∧ N' (128 * (12 * b + i) + 3) (-1) = N (128 * (12 * b + i) + 3) (-1)) (m10 : M' 10 b = M 10 b) (m11 : M' 11 b = M 11 b) (m12 : ∀ i, 0 ≤ i → i < 4 → M' 12 (4 * b + i) = M 12 (4 * b + i)) (m7 : ∀ i, M' 7 i = M 7 i) : HB c' N' M' b := by
  obtain ⟨a1, a2, a3, a4, a5, a6, a7, a8, a9, a10, a11, a12, a13, a14, a15⟩ := h
  unfold HB
  rw [r3, m10, m11]
  simp only [n1, n2, fc _ (Or.inl rfl), fc _ (Or.inr rfl)]
  refine ⟨a1, a2, a3, a4, a5, a6, a7, a8, a9, a10, a11, a12, a13, fun i i0 i1 => ?_, fun i i0 i1 => ?_⟩
  · rw [(ni i i0 (by omega)).1, (ni i i0 (by omega)).2]; exact a14 i i0 i1
  · rw [n51 i i0, m12 i i0 (by omega)]; exact (a15 i i0 i1).m7 m7
/-- a token passed, a setting set: all else stands -/
theorem RDI.tk (h : RDI c N M gm ow eo cs K P W E nt b B st j ln e nc nu nk nh ns cb pc) (ls : MLS c N' M' K P W E nt b (12 * b + e) st' B j' ln) (n : ∀ L k, ¬ (L = 50 ∧ 5 ≤ k ∧ k ≤ 11) → N' L k = N L k) (m : ∀ k i, ¬ (k = 0 ∧ 3 ≤ i ∧ i ≤ 6) → M' k i = M k i) : RDI c N' M' gm ow eo cs K P W E nt b B st' j' ln e nc nu nk nh ns cb pc := by
  have bd := h.bd
  have hr := h.ls.r
  have e40 : M' 0 40 = M 0 40 := m _ _ (by omega)
  have nn : ∀ L k, L ≠ 50 → N' L k = N L k := fun L k q => n L k (by omega)
  have mm : ∀ k i, k ≠ 0 → M' k i = M k i := fun k i q => m k i (by omega)
  have G : GRW (M 0 40) ln (M 0 51) N M gm ow N' M' gm ow := ⟨fun i _ _ => ⟨nn _ _ (by omega), nn _ _ (by omega)⟩, fun _ _ _ => rfl, fun _ _ => rfl, fun k i _ _ _ => mm _ _ (by omega), fun k i _ _ _ => mm _ _ (by omega)⟩
  refine ⟨ls, ?_, ⟨h.hb.fr (fun _ _ => rfl) (fun k => nn _ _ (by omega)) (fun k => nn _ _ (by omega)) (n _ _ (by omega)) (fun k _ => nn _ _ (by omega)) (fun i _ _ => ⟨rfl, nn _ _ (by omega)⟩) (mm _ _ (by omega)) (mm _ _ (by omega)) (fun i _ _ => mm _ _ (by omega)) (fun i => mm _ _ (by omega)), by rw [mm _ _ (by omega)]; exact h.m10, by rw [n _ _ (by omega)]; exact h.cu⟩, h.he.fr (fun L k q => ⟨rfl, nn _ _ (by unfold hdL at q; omega)⟩) (fun L q => ⟨rfl, nn _ _ (by unfold hiL at q; omega)⟩) (fun k _ _ => mm _ _ (by omega)) (fun i => mm _ _ (by omega)), ?_, ?_, fun e' e0 e1 => ?_, ?_, ?_, bd⟩
  · rw [m 0 2 (by omega)]
    intro i i0 i1
    rw [mm _ _ (by omega), mm _ _ (by omega)]
    exact h.tx i i0 i1
  · rw [mm _ _ (by omega), mm _ _ (by omega), mm _ _ (by omega), mm _ _ (by omega), mm _ _ (by omega)]
    exact h.ct
  · rw [e40]
    exact h.ei.fr G hr (Int.le_refl _) (Int.le_refl _) (fun L k q => ⟨rfl, nn _ _ (by rintro rfl; unfold itN at q; omega)⟩) (fun k i q => mm _ _ (by rintro rfl; unfold itM at q; omega))
  · rw [e40]
    exact (h.pe e' e0 e1).fr (e := e) e0 e1 G hr (Int.le_refl _) (Int.le_refl _) (fun _ _ => rfl) (fun L k q => ⟨rfl, nn _ _ (by rintro rfl; unfold prN at q; omega)⟩) (fun k i q => mm _ _ (by rintro rfl; unfold prM at q; omega))
  · rw [e40, nn _ _ (by omega)]
    exact h.wd.fr G hr
  · rw [mm _ _ (by omega), nn _ _ (by omega), nn _ _ (by omega)]
    exact h.sg
end RDS
