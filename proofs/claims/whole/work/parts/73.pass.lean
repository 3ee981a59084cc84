/-! ===== book: tokens passed, steps kept, what the reference asks ===== -/
theorem RunM.b {e id id2 : Nat} {as as2 : List Int} {M M1 : Mem} {z : Int} {Q : Int → Mem → Prop} (h : RunM e id as M z M1) (q : Q z M1) : PM e id as M Q := h Q q
/-- what of the class the token reader reads -/
def rdR (L k : Int) : Prop := (40 ≤ L ∧ L ≤ 44) ∨ (L = 50 ∧ (k < 3 ∨ (6 ≤ k ∧ k ≤ 8))) ∨ ((L = 51 ∨ L = 121 ∨ L = 122) ∧ k < 0) ∨ (L = 120 ∧ k < 2)
def rdS (L k : Int) : Prop := (40 ≤ L ∧ L ≤ 44) ∨ (L = 50 ∧ k < 3) ∨ ((L = 51 ∨ L = 121 ∨ L = 122) ∧ k < 0) ∨ (L = 120 ∧ k < 2)
def rdL (L : Int) : Prop := (40 ≤ L ∧ L ≤ 44) ∨ L = 50 ∨ L = 51 ∨ L = 120 ∨ L = 121 ∨ L = 122
theorem Rrd.rg {c c' : Int → Int} {N N' M M' : Mem} (h : Rrd c N M) (fc : ∀ L, rdL L → c' L = c L) (n : ∀ L k, rdS L k → N' L k = N L k) : Rrd c' N' M' := by
  obtain ⟨a1, a2, a3, a4, a5, a6, a7, a8, a9, a10, a11, a12, a13, a14, a15, a16, a17, a18, a19, a20, a21, a22, a23, a24, a25, a26, a27, a28, a29, a30, a31, a32, a33, a34, a35, a36, a37, a38⟩ := h
  refine ⟨?_, ?_, ?_, ?_, ?_, ?_, ?_, ?_, ?_, ?_, ?_, ?_, ?_, ?_, ?_, ?_, ?_, ?_, ?_, ?_, ?_, ?_, ?_, ?_, ?_, ?_, ?_, ?_, ?_, ?_, ?_, ?_, ?_, ?_, ?_, ?_, ?_, ?_⟩ <;> first | (rw [n _ _ (by unfold rdS; omega)]; assumption) | (rw [n _ _ (by unfold rdS; omega), fc _ (by unfold rdL; omega)]; assumption)
/-- class and reference stand at token j -/
def TS (c : Int → Int) (N M : Mem) (K P W E : Int → Int) (nt j : Int) : Prop := Rrd c N M ∧ ((∀ i, 0 ≤ i → N 41 i = K i) ∧ (∀ i, 0 ≤ i → N 42 i = P i) ∧ (∀ i, 0 ≤ i → N 43 i = W i)) ∧ (N 40 3 = nt ∧ N 50 6 = j ∧ N 50 7 = K j ∧ N 50 8 = W j) ∧ TK (M 1) (M 0 2) K P W E nt ∧ AtT M K P W E j ∧ 0 ≤ j ∧ j < nt ∧ (∀ i, 0 ≤ i → i < M 0 2 → wb (M 1 i) = M 1 i)
theorem TS.fr {c c' : Int → Int} {N N' M M' : Mem} {K P W E : Int → Int} {nt j : Int} (h : TS c N M K P W E nt j) (fc : ∀ L, rdL L → c' L = c L) (n : ∀ L k, rdR L k → N' L k = N L k) (m0 : ∀ i, 2 ≤ i ∧ i ≤ 6 → M' 0 i = M 0 i) (m1 : ∀ i, M' 1 i = M 1 i) : TS c' N' M' K P W E nt j := by
  obtain ⟨h1, ⟨h2, h3, h4⟩, ⟨h5, h6, h7, h8⟩, h9, ⟨h10, h11, h12, h13⟩, j0, j1, hw⟩ := h
  have e1 : M' 1 = M 1 := funext m1
  have e2 := m0 2 (by omega)
  refine ⟨h1.rg fc (fun L k q => n L k (by unfold rdS at q; unfold rdR; omega)), ⟨fun i i0 => (n _ _ (by unfold rdR; omega)).trans (h2 i i0), fun i i0 => (n _ _ (by unfold rdR; omega)).trans (h3 i i0), fun i i0 => (n _ _ (by unfold rdR; omega)).trans (h4 i i0)⟩, ⟨(n _ _ (by unfold rdR; omega)).trans h5, (n _ _ (by unfold rdR; omega)).trans h6, (n _ _ (by unfold rdR; omega)).trans h7, (n _ _ (by unfold rdR; omega)).trans h8⟩, ?_, ⟨?_, ?_, ?_, ?_⟩, j0, j1, ?_⟩
  · rw [e1, e2]; exact h9
  · rw [m0 3 (by omega)]; exact h10
  · rw [m0 4 (by omega)]; exact h11
  · rw [m0 5 (by omega)]; exact h12
  · rw [m0 6 (by omega)]; exact h13
  · rw [e1, e2]; exact hw
section PAS
variable {c : Int → Int} {S : Sh} {V N M : Mem} {K P W E : Int → Int} {nt j : Int}
theorem TS.rd (h : TS c N M K P W E nt j) : Rrd c N M := h.1
theorem TS.k (h : TS c N M K P W E nt j) : N 50 7 = K j := h.2.2.1.2.2.1
theorem TS.w (h : TS c N M K P W E nt j) : N 50 8 = W j := h.2.2.1.2.2.2
theorem TS.a (h : TS c N M K P W E nt j) : N 50 6 = j := h.2.2.1.2.1
theorem TS.j0 (h : TS c N M K P W E nt j) : 0 ≤ j := h.2.2.2.2.2.1
theorem TS.j1 (h : TS c N M K P W E nt j) : j < nt := h.2.2.2.2.2.2.1
theorem TS.t1 (h : TS c N M K P W E nt j) : Tok1 M K P W E j := h.2.2.2.1.t1 h.2.2.2.2.1 (fun _ => rfl) rfl h.j0 h.j1
theorem TS.pb (h : TS c N M K P W E nt j) : 0 ≤ P j ∧ P j ≤ 3000 := by
  have a := h.t1.pl
  have b := h.t1.2.1
  omega
theorem TS.ntb (h : TS c N M K P W E nt j) : nt ≤ 3001 ∧ nt ≤ M 0 2 + 1 := by
  have a := h.2.2.2.1.1.2.2.1
  have b := h.2.2.2.1.1.2.2.2.2.2
  have l1 := h.2.2.2.1.2.2.2.2.2.2
  omega
theorem TS.lt (h : TS c N M K P W E nt j) (k : K j ≠ 1) : j + 1 < nt := by
  have j1 := h.j1
  by_cases y : j = nt - 1
  · exact absurd ((h.2.2.2.1.k1 h.j0 j1).2 y) k
  · omega
theorem TS.x (h : TS c N M K P W E nt j) (hW : Wv c S V = N) : V (c 50) 7 = K j ∧ V (c 50) 8 = W j ∧ V (c 50) 6 = j ∧ V (c 50) 1 = c 120 ∧ V (c 50) 0 = c 40 ∧ S.1 (c 50) = 6 ∧ S.1 (c 120) = 2 := by
  obtain ⟨v', tg, ln⟩ := Wr hW
  refine ⟨(v' _ _ (by decide)).trans h.k, (v' _ _ (by decide)).trans h.w, (v' _ _ (by decide)).trans h.a, (v' _ _ (by decide)).trans h.rd.r1, (v' _ _ (by decide)).trans h.rd.r0, (tg _).trans h.rd.g50, (tg _).trans h.rd.g120⟩
/-- the class's view behind a token passed, one refused -/
def nPs (N : Mem) (j k w : Int) : Mem := up (up (up N 50 6 j) 50 7 k) 50 8 w
def nFt (N : Mem) (f p : Int) : Mem := up (up N 50 10 f) 50 11 p
def mFt (M : Mem) (f p : Int) : Mem := up (up M 0 46 f) 0 47 p
theorem nPs_ne {j k w L i : Int} (h : ¬ (L = 50 ∧ 6 ≤ i ∧ i ≤ 8)) : nPs N j k w L i = N L i := by
  unfold nPs
  rw [up_ne (by omega), up_ne (by omega), up_ne (by omega)]
theorem nFt_ne {f p L i : Int} (h : ¬ (L = 50 ∧ 10 ≤ i ∧ i ≤ 11)) : nFt N f p L i = N L i := by
  unfold nFt
  rw [up_ne (by omega), up_ne (by omega)]
theorem mFt_ne {f p L i : Int} (h : ¬ (L = 0 ∧ 46 ≤ i ∧ i ≤ 47)) : mFt M f p L i = M L i := by
  unfold mFt
  rw [up_ne (by omega), up_ne (by omega)]
theorem nFt_10 {f p : Int} : nFt N f p 50 10 = f := by unfold nFt; rw [up_ne (by omega), up_eq]
theorem nFt_11 {f p : Int} : nFt N f p 50 11 = p := up_eq
theorem mFt_46 {f p : Int} : mFt M f p 0 46 = f := by unfold mFt; rw [up_ne (by omega), up_eq]
theorem mFt_47 {f p : Int} : mFt M f p 0 47 = p := up_eq
theorem TS.nx {e : Nat} (h : TS c N M K P W E nt j) (k : K j ≠ 1) (he : 7 ≤ e) : ∃ M', RunM e n_next_0 [] M 0 M' ∧ Lxs M M' ∧ TS c (nPs N (j + 1) (K (j + 1)) (W (j + 1))) M' K P W E nt (j + 1) := by
  obtain ⟨e', rfl⟩ : ∃ e', e = e' + 7 := ⟨e - 7, by omega⟩
  have lt := h.lt k
  have j0 := h.j0
  have h5 := h.t1.k5
  obtain ⟨M', r1, r2, r3⟩ := pm_next (d := e') h.2.2.2.1 h.2.2.2.2.2.2.2 (show 0 ≤ j + 1 by omega) lt (Or.inl (by rw [h5]; unfold bef; rw [if_neg (by omega), show j + 1 - 1 = j from by omega]))
  have e1 : M' 1 = M 1 := funext fun i => r2 1 i (by omega)
  have e2 : M' 0 2 = M 0 2 := r2 0 2 (by omega)
  obtain ⟨h1, ⟨h2, h3, h4⟩, ⟨h5, h6, h7, h8⟩, h9, _, _, _, hw⟩ := h
  refine ⟨M', r1, r2, h1.rg (fun _ _ => rfl) (fun L k q => nPs_ne (by unfold rdS at q; omega)), ⟨fun i i0 => (nPs_ne (by omega)).trans (h2 i i0), fun i i0 => (nPs_ne (by omega)).trans (h3 i i0), fun i i0 => (nPs_ne (by omega)).trans (h4 i i0)⟩, ⟨(nPs_ne (by omega)).trans h5, ?_, ?_, up_eq⟩, ?_, r3, by omega, lt, ?_⟩
  · unfold nPs; rw [up_ne (by omega), up_ne (by omega), up_eq]
  · unfold nPs; rw [up_ne (by omega), up_eq]
  · rw [e1, e2]; exact h9
  · rw [e1, e2]; exact hw
variable {l : Launch} {G : GT} {Q : Int → Sh → Mem → Prop} {d mc ms : Nat} {e : Nat}
theorem ct_pass {x : Int} (hc : Cn c S) (hW : Wv c S V = N) (h : TS c N M K P W E nt j) (k : K j ≠ 1) (hd : 1 ≤ d) (he : 7 ≤ e) (hk : ∀ V' M', Wv c S V' = nPs N (j + 1) (K (j + 1)) (W (j + 1)) → TS c (nPs N (j + 1) (K (j + 1)) (W (j + 1))) M' K P W E nt (j + 1) → Lxs M M' → RunM e n_next_0 [] M 0 M' → Q 1 S V') : Ct l G bX5_pass Q d mc ms [vr (c 50), vi 1, vi x] S V := qX5_pass fun _ _ _ => vX5_pass_0 <| by
  obtain ⟨M', r1, r2, r3⟩ := h.nx k he
  have q := h.rd
  have lt := h.lt k
  have j0 := h.j0
  have nt3 := h.ntb.1
  obtain ⟨v', tg, ln⟩ := Wr hW
  have im : imin (j + 1) (nt - 1) = j + 1 := by unfold imin; split <;> omega
  refine ⟨fun _ => ?_, fun y => absurd (by decide) y⟩
  simp (disch := omega) only [v', tg, ln, q.g50, q.r0, q.g40, q.t0, q.t2, q.g41, q.n41, q.g43, q.n43, h.a, h.2.2.1.1, im]
  refine ⟨trivial, by omega, by omega, trivial, by omega, by omega, hd, trivial, by omega, by omega, trivial, by omega, hk _ M' ?_ r3 r2 r1⟩
  rw [Wv_up hc (by decide), Wv_up hc (by decide), Wv_up hc (by decide), hW, h.2.1.1 _ (by omega), h.2.1.2.2 _ (by omega)]
  rfl
theorem ct_pass0 {x : Int} (hc : Cn c S) (hW : Wv c S V = N) (h : TS c N M K P W E nt j) (hk : ∀ V', Wv c S V' = nFt N (if K j = 0 then 1 else x) (P j) → Q 0 S V') : Ct l G bX5_pass Q d mc ms [vr (c 50), vi 0, vi x] S V := qX5_pass fun _ _ _ => vX5_pass_0 <| by
  have q := h.rd
  have j0 := h.j0
  have j1 := h.j1
  have nt3 := h.ntb.1
  obtain ⟨v', tg, ln⟩ := Wr hW
  refine ⟨fun y => absurd rfl y, fun _ => ?_⟩
  simp (disch := omega) only [v', tg, ln, q.g50, q.r0, q.g40, q.t1, q.g42, q.n42, h.a, h.k]
  refine ⟨trivial, fun y => ⟨trivial, trivial, j0, by omega, hk _ ?_⟩, fun y => ⟨trivial, trivial, j0, by omega, hk _ ?_⟩⟩
  · rw [Wv_up hc (by decide), Wv_up hc (by decide), hW, h.2.1.2.1 _ j0, if_neg y]
    rfl
  · rw [Wv_up hc (by decide), Wv_up hc (by decide), hW, h.2.1.2.1 _ j0, if_pos (Classical.not_not.1 y)]
    rfl
/-- a step kept -/
def nEm (N : Mem) (n o a : Int) : Mem := up (up (up N 121 n o) 122 n a) 120 2 (n + 1)
theorem nEm_ne {n o a L i : Int} (h : ¬ (L = 121 ∧ i = n) ∧ ¬ (L = 122 ∧ i = n) ∧ ¬ (L = 120 ∧ i = 2)) : nEm N n o a L i = N L i := by
  unfold nEm
  rw [up_ne (by omega), up_ne (by omega), up_ne (by omega)]
theorem nEm_o {n o a : Int} : nEm N n o a 121 n = o := by unfold nEm; rw [up_ne (by omega), up_ne (by omega), up_eq]
theorem nEm_a {n o a : Int} : nEm N n o a 122 n = a := by unfold nEm; rw [up_ne (by omega), up_eq]
theorem nEm_l {n o a : Int} : nEm N n o a 120 2 = n + 1 := up_eq
theorem ct_emit {n o a : Int} (hc : Cn c S) (hW : Wv c S V = N) (q : Rrd c N M) (hn : N 120 2 = n) (n0 : 0 ≤ n) (n1 : n < 3000) (hk : ∀ V', Wv c S V' = nEm N n o a → Q 0 S V') : Ct l G bX1_emit Q d mc ms [vr (c 120), vi o, vi a] S V := qX1_emit fun _ _ _ => vX1_emit_0 <| by
  obtain ⟨v', tg, ln⟩ := Wr hW
  simp (disch := omega) only [v', tg, ln, q.g120, q.c0, q.c1, q.g121, q.n121, q.g122, q.n122, hn]
  refine ⟨trivial, trivial, fun y => absurd y (by omega), fun _ => ⟨n0, by omega, trivial, by omega, by omega, by omega, hk _ ?_⟩⟩
  rw [Wv_up hc (by decide), Wv_up hc n0, Wv_up hc n0, hW]
  rfl
theorem TS.em {n o a : Int} (h : TS c N M K P W E nt j) (n0 : 0 ≤ n) : TS c (nEm N n o a) M K P W E nt j := h.fr (fun _ _ => rfl) (fun L k q => nEm_ne (by unfold rdR at q; omega)) (fun _ _ => rfl) (fun _ => rfl)
/-! the reference's questions, as runs -/
theorem TS.sg1 {x : Int} (h : TS c N M K P W E nt j) (hx : 40 ≤ x) (k : K j = x) (he : 2 ≤ e) : RunM e n_isSign_0 [x] M 1 M := by
  obtain ⟨e', rfl⟩ : ∃ e', e = e' + 2 := ⟨e - 2, by omega⟩
  exact fun Q hq => pm_isSign h.t1 hx (fun _ => hq) (fun y => absurd k y)
theorem TS.sg0 {x : Int} (h : TS c N M K P W E nt j) (hx : 40 ≤ x) (k : K j ≠ x) (he : 2 ≤ e) : RunM e n_isSign_0 [x] M 0 M := by
  obtain ⟨e', rfl⟩ : ∃ e', e = e' + 2 := ⟨e - 2, by omega⟩
  exact fun Q hq => pm_isSign h.t1 hx (fun y => absurd y k) (fun _ => hq)
theorem TS.wd1 (i : Nat) (h : TS c N M K P W E nt j) (hi : i < 12) (k : K j = i + 4) (he : 6 ≤ e) : RunM e n_isWord_0 [(i : Int) + 4] M 1 M := by
  obtain ⟨e', rfl⟩ : ∃ e', e = e' + 6 := ⟨e - 6, by omega⟩
  exact fun Q hq => pm_isWord hi h.t1 (fun _ => hq) (fun y => absurd k y)
theorem TS.wd0 (i : Nat) (h : TS c N M K P W E nt j) (hi : i < 12) (k : K j ≠ i + 4) (he : 6 ≤ e) : RunM e n_isWord_0 [(i : Int) + 4] M 0 M := by
  obtain ⟨e', rfl⟩ : ∃ e', e = e' + 6 := ⟨e - 6, by omega⟩
  exact fun Q hq => pm_isWord hi h.t1 (fun y => absurd y k) (fun _ => hq)
theorem TS.nm1 (h : TS c N M K P W E nt j) (k : K j = 3) (he : 8 ≤ e) : RunM e n_isName_0 [] M 1 M := by
  obtain ⟨e', rfl⟩ : ∃ e', e = e' + 8 := ⟨e - 8, by omega⟩
  exact fun Q hq => pm_isName h.t1 (fun _ => hq) (fun y => absurd k y)
theorem TS.nm0 (h : TS c N M K P W E nt j) (k : K j ≠ 3) (he : 8 ≤ e) : RunM e n_isName_0 [] M 0 M := by
  obtain ⟨e', rfl⟩ : ∃ e', e = e' + 8 := ⟨e - 8, by omega⟩
  exact fun Q hq => pm_isName h.t1 (fun y => absurd y k) (fun _ => hq)
theorem TS.ft {x : Int} (h : TS c N M K P W E nt j) (w0 : M 0 46 = 0) (he : 1 ≤ e) : RunM e n_fault_0 [x] M (-1) (mFt M (if K j = 0 then 1 else x) (P j)) := by
  obtain ⟨e', rfl⟩ : ∃ e', e = e' + 1 := ⟨e - 1, by omega⟩
  have t := h.t1
  have rk := (rkd_w t.rg).2.2.2.2
  refine fun Q hq => st_fault_0 ⟨fun y => absurd w0 y, fun _ => ⟨fun y => ?_, fun y => ?_⟩⟩
  · rw [if_neg (fun z => y (by rw [t.k3, rk]; exact z)), ← t.k4] at hq
    exact hq
  · rw [if_pos (rk.1 (by rw [← t.k3]; exact Classical.not_not.1 y)), ← t.k4] at hq
    exact hq
theorem TS.sn1 {x : Int} {M' : Mem} (h : TS c N M K P W E nt j) (w0 : M 0 46 = 0) (hx : 40 ≤ x) (k : K j = x) (he : 8 ≤ e) (r : RunM (e - 1) n_next_0 [] M 0 M') : RunM e n_sign_0 [x] M 0 M' := by
  obtain ⟨e', rfl⟩ : ∃ e', e = e' + 1 := ⟨e - 1, by omega⟩
  exact fun Q hq => st_sign_0 ⟨fun _ => h.sg1 hx k (by omega) _ ⟨fun y => absurd y (by decide), fun _ => r _ hq⟩, fun y => absurd (by omega) y⟩
theorem TS.sn0 {x : Int} (h : TS c N M K P W E nt j) (w0 : M 0 46 = 0) (hx : 40 ≤ x) (k : K j ≠ x) (he : 3 ≤ e) : RunM e n_sign_0 [x] M 0 (mFt M (if K j = 0 then 1 else 2) (P j)) := by
  obtain ⟨e', rfl⟩ : ∃ e', e = e' + 1 := ⟨e - 1, by omega⟩
  exact fun Q hq => st_sign_0 ⟨fun _ => h.sg0 hx k (by omega) _ ⟨fun _ => h.ft w0 (by omega) _ hq, fun y => absurd rfl y⟩, fun y => absurd (by omega) y⟩
theorem sn_w {x : Int} (w : 0 < M 0 46) (he : 1 ≤ e) : RunM e n_sign_0 [x] M 0 M := by
  obtain ⟨e', rfl⟩ : ∃ e', e = e' + 1 := ⟨e - 1, by omega⟩
  exact fun Q hq => st_sign_0 ⟨fun y => absurd w (by omega), fun _ => hq⟩
/-- the reference's name of token j -/
def nmv (P E : Int → Int) (b j : Int) : Int := 16 * (3000 * b + P j) + E j - P j
theorem TS.nh {b : Int} (h : TS c N M K P W E nt j) (hb : M 0 9 = b) (b0 : 0 ≤ b) (b1 : b < 10) (he : 1 ≤ e) : RunM e n_nameHere_0 [] M (nmv P E b j) M := by
  obtain ⟨e', rfl⟩ : ∃ e', e = e' + 1 := ⟨e - 1, by omega⟩
  have t := h.t1
  have pl := t.pl
  have l3 := t.2.1
  refine fun Q hq => st_nameHere_0 ?_
  unfold B_nameHere_0
  rw [t.k4, t.k5, hb]
  exact ⟨by omega, by omega, by omega, by omega, by omega, by omega, by omega, by omega, by omega, by omega, hq⟩
end PAS
/-- an expression kept by the reference -/
def mEx (M : Mem) (k a b : Int) : Mem := up (if 2 ≤ k ∧ k ≤ 5 then up (up (up (up (up M 35 (M 0 40) k) 36 (M 0 40) a) 37 (M 0 40) b) 39 (M 0 40) (M 0 41)) 38 a (M 0 40) else up (up (up (up M 35 (M 0 40) k) 36 (M 0 40) a) 37 (M 0 40) b) 39 (M 0 40) (M 0 41)) 0 40 (M 0 40 + 1)
theorem rn_ex {e : Nat} {M : Mem} {k a b : Int} (x0 : 0 ≤ M 0 40) (x1 : M 0 40 < 31000) (ha : 2 ≤ k ∧ k ≤ 5 → 0 ≤ a ∧ a < 31000) (he : 2 ≤ e) : RunM e n_expression_0 [k, a, b] M (M 0 40) (mEx M k a b) := by
  obtain ⟨e', rfl⟩ : ∃ e', e = e' + 2 := ⟨e - 2, by omega⟩
  have e40 : up (up (up (up M 35 (M 0 40) k) 36 (M 0 40) a) 37 (M 0 40) b) 39 (M 0 40) (M 0 41) 0 40 = M 0 40 := by rw [up_ne (by omega), up_ne (by omega), up_ne (by omega), up_ne (by omega)]
  intro Q hq
  unfold mEx at hq
  refine st_expression_0 ⟨x0, x1, st_isTwo_0 ⟨fun y => ?_, fun y => ⟨fun y2 => ?_, fun y2 => ?_⟩⟩⟩
  · rw [if_neg (by omega)] at hq
    rw [e40]
    refine ⟨fun _ => ⟨by omega, by omega, by omega, by omega, ?_⟩, fun z => absurd rfl z⟩
    rw [show M 0 40 + 1 - 1 = M 0 40 from by omega]; exact hq
  · rw [if_neg (by omega)] at hq
    rw [e40]
    refine ⟨fun _ => ⟨by omega, by omega, by omega, by omega, ?_⟩, fun z => absurd rfl z⟩
    rw [show M 0 40 + 1 - 1 = M 0 40 from by omega]; exact hq
  · rw [if_pos (by omega)] at hq
    obtain ⟨a0, a1⟩ := ha (by omega)
    rw [e40]
    refine ⟨fun z => absurd z (by decide), fun _ => ⟨a0, a1, by omega, by omega, by omega, by omega, ?_⟩⟩
    rw [show M 0 40 + 1 - 1 = M 0 40 from by omega]; exact hq
theorem mEx_ne {M : Mem} {k a b L i : Int} (h : ¬ (35 ≤ L ∧ L ≤ 39 ∧ i = M 0 40) ∧ ¬ (L = 38 ∧ i = a ∧ 2 ≤ k ∧ k ≤ 5) ∧ ¬ (L = 0 ∧ i = 40)) : mEx M k a b L i = M L i := by
  unfold mEx
  rw [up_ne (by omega)]
  split
  · rw [up_ne (by omega), up_ne (by omega), up_ne (by omega), up_ne (by omega), up_ne (by omega)]
  · rw [up_ne (by omega), up_ne (by omega), up_ne (by omega), up_ne (by omega)]
theorem mEx_40 {M : Mem} {k a b : Int} : mEx M k a b 0 40 = M 0 40 + 1 := up_eq
theorem mEx_35 {M : Mem} {k a b : Int} : mEx M k a b 35 (M 0 40) = k := by
  unfold mEx
  rw [up_ne (by omega)]
  split
  · rw [up_ne (by omega), up_ne (by omega), up_ne (by omega), up_ne (by omega), up_eq]
  · rw [up_ne (by omega), up_ne (by omega), up_ne (by omega), up_eq]
theorem mEx_36 {M : Mem} {k a b : Int} : mEx M k a b 36 (M 0 40) = a := by
  unfold mEx
  rw [up_ne (by omega)]
  split
  · rw [up_ne (by omega), up_ne (by omega), up_ne (by omega), up_eq]
  · rw [up_ne (by omega), up_ne (by omega), up_eq]
theorem mEx_37 {M : Mem} {k a b : Int} : mEx M k a b 37 (M 0 40) = b := by
  unfold mEx
  rw [up_ne (by omega)]
  split
  · rw [up_ne (by omega), up_ne (by omega), up_eq]
  · rw [up_ne (by omega), up_eq]
theorem mEx_39 {M : Mem} {k a b : Int} : mEx M k a b 39 (M 0 40) = M 0 41 := by
  unfold mEx
  rw [up_ne (by omega)]
  split
  · rw [up_ne (by omega), up_eq]
  · rw [up_eq]
theorem mEx_38 {M : Mem} {k a b : Int} (h : 2 ≤ k ∧ k ≤ 5) : mEx M k a b 38 a = M 0 40 := by
  unfold mEx
  rw [up_ne (by omega), if_pos h, up_eq]
