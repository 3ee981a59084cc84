/-! ===== evaluation: the state ===== -/
theorem cnt_congr {f g : Int → Int} : ∀ n : Nat, (∀ i : Int, 0 ≤ i → i < n → (f i = 0 ↔ g i = 0)) → cnt f n = cnt g n := by
  intro n
  induction n with
  | zero => intro _; rfl
  | succ n ih =>
    intro h
    show cnt f n + _ = cnt g n + _
    rw [ih (fun i i0 i1 => h i i0 (by omega))]
    have q := h n (by omega) (by omega)
    by_cases z : f n = 0
    · rw [if_pos z, if_pos (q.1 z)]
    · rw [if_neg z, if_neg (fun e => z (q.2 e))]
theorem cnt_nn {f : Int → Int} : ∀ n : Nat, 0 ≤ cnt f n := by
  intro n
  induction n with
  | zero => exact Int.le_refl _
  | succ n ih =>
    show 0 ≤ cnt f n + _
    split <;> omega
theorem cnt_add {f : Int → Int} {n : Nat} : ∀ k : Nat, cnt f (n + k) ≤ cnt f n + k := by
  intro k
  induction k with
  | zero => show cnt f n ≤ _; omega
  | succ k ih =>
    show cnt f (n + k) + _ ≤ _
    split <;> omega
theorem cnt_zero {f : Int → Int} {n : Nat} : ∀ k : Nat, (∀ i : Int, n ≤ i → i < n + k → f i = 0) → cnt f (n + k) = cnt f n := by
  intro k
  induction k with
  | zero => intro _; rfl
  | succ k ih =>
    intro h
    show cnt f (n + k) + (if f ((n + k : Nat) : Int) = 0 then 0 else 1) = _
    rw [ih (fun i i0 i1 => h i i0 (by omega)), if_pos (h ((n + k : Nat) : Int) (by omega) (by omega))]
    omega
theorem cnt_set {f g : Int → Int} {p : Int} (hp : 0 ≤ p) (h0 : f p = 0) (h1 : g p ≠ 0) (h : ∀ i, i ≠ p → (f i = 0 ↔ g i = 0)) : ∀ n : Nat, p < n → cnt g n = cnt f n + 1 := by
  intro n
  induction n with
  | zero => intro q; omega
  | succ n ih =>
    intro q
    show cnt g n + _ = cnt f n + _ + 1
    by_cases e : p = n
    · rw [← e, if_pos h0, if_neg h1, cnt_congr (f := g) (g := f) n (fun i i0 i1 => (h i (by omega)).symm)]
      omega
    · rw [ih (by omega)]
      have z := h n (by omega)
      by_cases y : f n = 0
      · rw [if_pos y, if_pos (z.1 y)]; omega
      · rw [if_neg y, if_neg (fun e => y (z.2 e))]
theorem cnt_lt {f : Int → Int} {p : Int} {n : Nat} (hp : 0 ≤ p) (h0 : f p = 0) (h1 : p < n) : cnt f n < n := by
  have q := cnt_set (f := f) (g := fun i => if i = p then 1 else f i) hp h0 (by simp) (fun i e => by simp [e]) n h1
  have := cnt_add (f := fun i => if i = p then 1 else f i) (n := 0) n
  rw [Nat.zero_add] at this
  have e : cnt (fun i => if i = p then 1 else f i) 0 = 0 := rfl
  omega
theorem cnt_item {f : Int → Int} {p : Int} (hz : ∀ i, 12 ≤ i → i < 100 → f i = 0) (h0 : f p = 0) (hp : 0 ≤ p ∧ p < 12 ∨ 100 ≤ p ∧ p < 148) : cnt f 148 < 60 := by
  have q := cnt_set (f := f) (g := fun i => if i = p then 1 else f i) (by omega) h0 (by simp) (fun i e => by simp [e]) 148 (by omega)
  have a1 := cnt_add (f := fun i => if i = p then 1 else f i) (n := 100) 48
  have a2 := cnt_zero (f := fun i => if i = p then 1 else f i) (n := 12) 88 (fun i i0 i1 => by
    have : i ≠ p := by omega
    simp only [if_neg this]
    exact hz i (by omega) (by omega))
  have a3 := cnt_add (f := fun i => if i = p then 1 else f i) (n := 0) 12
  have e : cnt (fun i => if i = p then 1 else f i) 0 = 0 := rfl
  simp only [Nat.zero_add, Nat.reduceAdd] at a1 a2 a3
  omega
def bkL (b L : Int) : Prop := L % 128 < 30 ∧ (((L % 128 ≤ 2 ∨ 20 ≤ L % 128) ∧ L / 128 = b) ∨ (((3 ≤ L % 128 ∧ L % 128 ≤ 4) ∨ (7 ≤ L % 128 ∧ L % 128 ≤ 8) ∨ (12 ≤ L % 128 ∧ L % 128 ≤ 16)) ∧ L / 128 / 12 = b) ∨ ((5 ≤ L % 128 ∧ L % 128 ≤ 6) ∧ L / 128 / 288 = b) ∨ ((9 ≤ L % 128 ∧ L % 128 ≤ 11) ∧ L / 128 / 48 = b) ∨ ((17 ≤ L % 128 ∧ L % 128 ≤ 19) ∧ L / 128 / 36 = b))
def dM (b k j : Int) : Prop := (k = 0 ∧ (j = 9 ∨ j = 64 ∨ j = 65 ∨ j = 68)) ∨ ((k = 52 ∨ k = 58) ∧ 160 * b ≤ j ∧ j < 160 * b + 160) ∨ (k = 53 ∧ 12 * b ≤ j ∧ j < 12 * b + 12) ∨ (k = 54 ∧ 288 * b ≤ j ∧ j < 288 * b + 288) ∨ ((k = 55 ∨ k = 57) ∧ 48 * b ≤ j ∧ j < 48 * b + 48) ∨ (k = 56 ∧ 576 * b ≤ j ∧ j < 576 * b + 576) ∨ ((k = 59 ∨ k = 62) ∧ j = b) ∨ ((k = 60 ∨ k = 61) ∧ 3100 * b ≤ j ∧ j < 3100 * b + 3100) ∨ k = 63 ∨ k = 66 ∨ k = 67
def EvF (b : Int) (N M N' M' : Mem) : Prop := (∀ L j, ¬ (30 ≤ L ∧ L ≤ 34) → ¬ bkL b L → N' L j = N L j) ∧ (∀ k j, ¬ dM b k j → M' k j = M k j) ∧ (∀ j, N' (128 * b + 21) j = N (128 * b + 21) j)
theorem EvF.rf {b : Int} {N M : Mem} : EvF b N M N M := ⟨fun _ _ _ _ => rfl, fun _ _ _ => rfl, fun _ => rfl⟩
theorem EvF.tr {b : Int} {N M N' M' N2 M2 : Mem} (h : EvF b N M N' M') (h2 : EvF b N' M' N2 M2) : EvF b N M N2 M2 := ⟨fun L j a e => (h2.1 L j a e).trans (h.1 L j a e), fun k j a => (h2.2.1 k j a).trans (h.2.1 k j a), fun j => (h2.2.2 j).trans (h.2.2 j)⟩
theorem EvF.st {b k j : Int} {N M N' M' : Mem} (h : EvF b N M N' M') (hk : 1 ≤ k ∧ k < 52) : M' k j = M k j := h.2.1 k j (by unfold dM; omega)
def Ldat (g : Int) (M M' : Mem) : Prop := M' 53 g = M 53 g ∧ (∀ j, 0 ≤ j → j < 24 → M' 54 (24 * g + j) = M 54 (24 * g + j)) ∧ (∀ t, 0 ≤ t → t < 4 → M' 55 (4 * g + t) = M 55 (4 * g + t)) ∧ (∀ t, 0 ≤ t → t < 48 → M' 56 (48 * g + t) = M 56 (48 * g + t))
def Lx (it b : Int) (M M' : Mem) : Prop := ∀ i, 0 ≤ i → i < 148 → i ≠ it → (M 52 (160 * b + i) = 0 → M' 52 (160 * b + i) ≠ 3) ∧ (M 52 (160 * b + i) ≠ 0 → M' 52 (160 * b + i) = M 52 (160 * b + i) ∧ (i < 12 → Ldat (12 * b + i) M M') ∧ (100 ≤ i → M' 57 (48 * b + (i - 100)) = M 57 (48 * b + (i - 100))))
theorem Ldat.rf {g : Int} {M : Mem} : Ldat g M M := ⟨rfl, fun _ _ _ => rfl, fun _ _ _ => rfl, fun _ _ _ => rfl⟩
theorem Ldat.tr {g : Int} {M M1 M2 : Mem} (h : Ldat g M M1) (h2 : Ldat g M1 M2) : Ldat g M M2 := ⟨h2.1.trans h.1, fun j a e => (h2.2.1 j a e).trans (h.2.1 j a e), fun j a e => (h2.2.2.1 j a e).trans (h.2.2.1 j a e), fun j a e => (h2.2.2.2 j a e).trans (h.2.2.2 j a e)⟩
theorem Lx.rf {it b : Int} {M : Mem} : Lx it b M M := fun i i0 i1 e => ⟨fun h => by omega, fun _ => ⟨rfl, fun _ => Ldat.rf, fun _ => rfl⟩⟩
theorem Lx.tr {it b : Int} {M M1 M2 : Mem} (h : Lx it b M M1) (h2 : Lx it b M1 M2) : Lx it b M M2 := by
  intro i i0 i1 e
  obtain ⟨a1, a2⟩ := h i i0 i1 e
  obtain ⟨b1, b2⟩ := h2 i i0 i1 e
  refine ⟨fun z => ?_, fun z => ?_⟩
  · have q := a1 z
    by_cases y : M1 52 (160 * b + i) = 0
    · exact b1 y
    · rw [(b2 y).1]; exact q
  · have q := a2 z
    have y : M1 52 (160 * b + i) ≠ 0 := by rw [q.1]; exact z
    have p := b2 y
    exact ⟨p.1.trans q.1, fun r => (q.2.1 r).tr (p.2.1 r), fun r => (p.2.2 r).trans (q.2.2 r)⟩
theorem Lx.wd {it b : Int} {M M1 : Mem} (h : Lx (-1) b M M1) : Lx it b M M1 := fun i i0 i1 _ => h i i0 i1 (by omega)
def EvI (c : Int → Int) (N M gm : Mem) (U : Int → Int) (b : Int) : Prop := (0 ≤ b) ∧ (b < 10) ∧ (Rwk c N M) ∧ (BkH c N M b) ∧ (BkN N M gm b) ∧ (BkT N M gm b) ∧ (BkD N M gm U b) ∧ (N 30 0 = c (128 * b + 1)) ∧ (M 0 9 = b) ∧ (N 30 1 = M 0 65) ∧ (M 0 65 = 0 ∨ M 0 65 = 1) ∧ (N 30 5 = M 0 64) ∧ (0 ≤ M 0 64) ∧ (M 0 64 ≤ 12) ∧ (∀ j, 0 ≤ j → j < M 0 64 → N 32 j = M 63 j) ∧ (0 ≤ N 30 3) ∧ (N 30 3 ≤ 1000) ∧ (M 0 65 = 1 → 1 ≤ M 0 68 ∧ M 0 68 + M 0 64 ≤ 13)
theorem EvI.b0 {c : Int → Int} {N M gm : Mem} {U : Int → Int} {b : Int} (h : EvI c N M gm U b) : 0 ≤ b := h.1
theorem EvI.b1 {c : Int → Int} {N M gm : Mem} {U : Int → Int} {b : Int} (h : EvI c N M gm U b) : b < 10 := h.2.1
theorem EvI.wk {c : Int → Int} {N M gm : Mem} {U : Int → Int} {b : Int} (h : EvI c N M gm U b) : Rwk c N M := h.2.2.1
theorem EvI.bh {c : Int → Int} {N M gm : Mem} {U : Int → Int} {b : Int} (h : EvI c N M gm U b) : BkH c N M b := h.2.2.2.1
theorem EvI.bn {c : Int → Int} {N M gm : Mem} {U : Int → Int} {b : Int} (h : EvI c N M gm U b) : BkN N M gm b := h.2.2.2.2.1
theorem EvI.bt {c : Int → Int} {N M gm : Mem} {U : Int → Int} {b : Int} (h : EvI c N M gm U b) : BkT N M gm b := h.2.2.2.2.2.1
theorem EvI.bd {c : Int → Int} {N M gm : Mem} {U : Int → Int} {b : Int} (h : EvI c N M gm U b) : BkD N M gm U b := h.2.2.2.2.2.2.1
theorem EvI.wb {c : Int → Int} {N M gm : Mem} {U : Int → Int} {b : Int} (h : EvI c N M gm U b) : N 30 0 = c (128 * b + 1) := h.2.2.2.2.2.2.2.1
theorem EvI.nw {c : Int → Int} {N M gm : Mem} {U : Int → Int} {b : Int} (h : EvI c N M gm U b) : M 0 9 = b := h.2.2.2.2.2.2.2.2.1
theorem EvI.fl {c : Int → Int} {N M gm : Mem} {U : Int → Int} {b : Int} (h : EvI c N M gm U b) : N 30 1 = M 0 65 := h.2.2.2.2.2.2.2.2.2.1
theorem EvI.f01 {c : Int → Int} {N M gm : Mem} {U : Int → Int} {b : Int} (h : EvI c N M gm U b) : M 0 65 = 0 ∨ M 0 65 = 1 := h.2.2.2.2.2.2.2.2.2.2.1
theorem EvI.dp {c : Int → Int} {N M gm : Mem} {U : Int → Int} {b : Int} (h : EvI c N M gm U b) : N 30 5 = M 0 64 := h.2.2.2.2.2.2.2.2.2.2.2.1
theorem EvI.dp0 {c : Int → Int} {N M gm : Mem} {U : Int → Int} {b : Int} (h : EvI c N M gm U b) : 0 ≤ M 0 64 := h.2.2.2.2.2.2.2.2.2.2.2.2.1
theorem EvI.dp1 {c : Int → Int} {N M gm : Mem} {U : Int → Int} {b : Int} (h : EvI c N M gm U b) : M 0 64 ≤ 12 := h.2.2.2.2.2.2.2.2.2.2.2.2.2.1
theorem EvI.uw {c : Int → Int} {N M gm : Mem} {U : Int → Int} {b : Int} (h : EvI c N M gm U b) : ∀ j, 0 ≤ j → j < M 0 64 → N 32 j = M 63 j := h.2.2.2.2.2.2.2.2.2.2.2.2.2.2.1
theorem EvI.tp0 {c : Int → Int} {N M gm : Mem} {U : Int → Int} {b : Int} (h : EvI c N M gm U b) : 0 ≤ N 30 3 := h.2.2.2.2.2.2.2.2.2.2.2.2.2.2.2.1
theorem EvI.tp1 {c : Int → Int} {N M gm : Mem} {U : Int → Int} {b : Int} (h : EvI c N M gm U b) : N 30 3 ≤ 1000 := h.2.2.2.2.2.2.2.2.2.2.2.2.2.2.2.2.1
theorem EvI.fc {c : Int → Int} {N M gm : Mem} {U : Int → Int} {b : Int} (h : EvI c N M gm U b) : M 0 65 = 1 → 1 ≤ M 0 68 ∧ M 0 68 + M 0 64 ≤ 13 := h.2.2.2.2.2.2.2.2.2.2.2.2.2.2.2.2.2
def EvS (c : Int → Int) (b : Int) (gm : Mem) (lo hi : Int) (N M : Mem) (U : Int → Int) (N' M' : Mem) (U' : Int → Int) : Prop := EvI c N' M' gm U' b ∧ EvF b N M N' M' ∧ M' 0 64 = M 0 64 ∧ Lx (-1) b M M' ∧ (∀ p, U' p ≠ U p → (lo ≤ p ∧ p < hi ∧ 0 ≤ gm 5 p) ∨ (0 ≤ gm 5 p ∧ M 52 (160 * b + gm 5 p / 1000) = 0)) ∧ (M' 0 65 = 0 → ∀ j, 0 ≤ j → j < N 30 3 → N' 31 j = N 31 j)
theorem EvS.tr {c : Int → Int} {b : Int} {gm : Mem} {lo hi a1 e1 a2 e2 : Int} {N M N1 M1 N2 M2 : Mem} {U U1 U2 : Int → Int} (h : EvS c b gm a1 e1 N M U N1 M1 U1) (h2 : EvS c b gm a2 e2 N1 M1 U1 N2 M2 U2) (z : M1 0 65 = 0) (t : N 30 3 ≤ N1 30 3) (q1 : lo ≤ a1) (q2 : e1 ≤ hi) (q3 : lo ≤ a2) (q4 : e2 ≤ hi) : EvS c b gm lo hi N M U N2 M2 U2 := by
  obtain ⟨h1, h2', h3, h4, h5, h6⟩ := h
  obtain ⟨k1, k2, k3, k4, k5, k6⟩ := h2
  refine ⟨k1, h2'.tr k2, k3.trans h3, h4.tr k4, fun p hp => ?_, fun f j j0 j1 => (k6 f j j0 (by omega)).trans (h6 z j j0 j1)⟩
  by_cases e : U1 p = U p
  · rcases k5 p (by rw [e]; exact hp) with y | ⟨y0, y⟩
    · exact Or.inl (by omega)
    · refine Or.inr ⟨y0, Decidable.byContradiction fun n => ?_⟩
      have r := h1.bd.ur p y0
      have := ((h4 (gm 5 p / 1000) (by omega) (by omega) (by omega)).2 n).1
      omega
  · rcases h5 p e with y | y
    · exact Or.inl (by omega)
    · exact Or.inr y
theorem Rwk.ch {c : Int → Int} {N M N' M' : Mem} (h : Rwk c N M) (hn : ∀ L j, 30 ≤ L → L ≤ 34 → j < 0 → N' L j = N L j) (h2 : N' 30 2 = N 30 2) (h4 : N' 30 4 = N 30 4) (h6 : N' 30 6 = N 30 6) (h7 : N' 30 7 = N 30 7) (cc : N' 30 8 = M' 0 68) (cc0 : 0 ≤ M' 0 68) (cc1 : M' 0 68 ≤ 13) (ck : ∀ j, 0 ≤ j → j < M' 0 68 → N' 33 j = M' 66 j) (ci : ∀ j, 0 ≤ j → j < M' 0 68 → N' 34 j = M' 67 j) : Rwk c N' M' := by
  refine ⟨?_, ?_, ?_, ?_, ?_, ?_, ?_, ?_, ?_, h2.trans h.r2, h4.trans h.r4, h6.trans h.r6, h7.trans h.r7, cc, cc0, cc1, ck, ci⟩
  · rw [hn _ _ (by decide) (by decide) (by decide)]; exact h.g30
  · rw [hn _ _ (by decide) (by decide) (by decide)]; exact h.g31
  · rw [hn _ _ (by decide) (by decide) (by decide)]; exact h.n31
  · rw [hn _ _ (by decide) (by decide) (by decide)]; exact h.g32
  · rw [hn _ _ (by decide) (by decide) (by decide)]; exact h.n32
  · rw [hn _ _ (by decide) (by decide) (by decide)]; exact h.g33
  · rw [hn _ _ (by decide) (by decide) (by decide)]; exact h.n33
  · rw [hn _ _ (by decide) (by decide) (by decide)]; exact h.g34
  · rw [hn _ _ (by decide) (by decide) (by decide)]; exact h.n34
theorem EvI.wch {c : Int → Int} {b : Int} {N M N' M' gm : Mem} {U : Int → Int} (h : EvI c N M gm U b) (hN : ∀ L j, L % 128 < 30 ∨ L = 62 → N' L j = N L j) (hM : ∀ k j, bkk k → M' k j = M k j) (hx : M' 0 40 = M 0 40) (wk : Rwk c N' M') (wb : N' 30 0 = N 30 0) (nw : M' 0 9 = M 0 9) (fl : N' 30 1 = M' 0 65) (f01 : M' 0 65 = 0 ∨ M' 0 65 = 1) (dp : N' 30 5 = M' 0 64) (dp0 : 0 ≤ M' 0 64) (dp1 : M' 0 64 ≤ 12) (uw : ∀ j, 0 ≤ j → j < M' 0 64 → N' 32 j = M' 63 j) (tp0 : 0 ≤ N' 30 3) (tp1 : N' 30 3 ≤ 1000) (fc : M' 0 65 = 1 → 1 ≤ M' 0 68 ∧ M' 0 68 + M' 0 64 ≤ 13) : EvI c N' M' gm U b :=
  ⟨h.b0, h.b1, wk, h.bh.fr h.b0 hN (fun _ _ => rfl) hM, h.bn.fr (fun L j q => hN L j (Or.inl q)) hM hx, h.bt.fr (fun L j q => hN L j (Or.inl q)) hM, h.bd.fr (fun L j q => hN L j (Or.inl q)) hM, wb.trans h.wb, nw.trans h.nw, fl, f01, dp, dp0, dp1, uw, tp0, tp1, fc⟩
theorem EvI.push {c : Int → Int} {b x : Int} {N M gm : Mem} {U : Int → Int} (h : EvI c N M gm U b) (t : N 30 3 < 1000) : EvI c (up (up N 31 (N 30 3) x) 30 3 (N 30 3 + 1)) M gm U b := by
  have k := h.wk
  have t0 := h.tp0
  refine h.wch (fun L j hL => (up_ne (by omega)).trans (up_ne (by omega))) (fun _ _ _ => rfl) rfl (k.ch (fun L j _ _ _ => (up_ne (by omega)).trans (up_ne (by omega))) ((up_ne (by omega)).trans (up_ne (by omega))) ((up_ne (by omega)).trans (up_ne (by omega))) ((up_ne (by omega)).trans (up_ne (by omega))) ((up_ne (by omega)).trans (up_ne (by omega))) ?_ k.cc0 k.cc1 (fun j j0 j1 => ?_) (fun j j0 j1 => ?_)) ((up_ne (by omega)).trans (up_ne (by omega))) rfl ?_ h.f01 ?_ h.dp0 h.dp1 (fun j j0 j1 => ?_) ?_ ?_ h.fc
  · rw [up_ne (by omega), up_ne (by omega)]; exact k.cc
  · rw [up_ne (by omega), up_ne (by omega)]; exact k.ck j j0 j1
  · rw [up_ne (by omega), up_ne (by omega)]; exact k.ci j j0 j1
  · rw [up_ne (by omega), up_ne (by omega)]; exact h.fl
  · rw [up_ne (by omega), up_ne (by omega)]; exact h.dp
  · rw [up_ne (by omega), up_ne (by omega)]; exact h.uw j j0 j1
  · rw [up_eq]; omega
  · rw [up_eq]; omega
theorem EvI.top {c : Int → Int} {b t : Int} {N M gm : Mem} {U : Int → Int} (h : EvI c N M gm U b) (t0 : 0 ≤ t) (t1 : t ≤ 1000) : EvI c (up N 30 3 t) M gm U b := by
  have k := h.wk
  refine h.wch (fun L j hL => up_ne (by omega)) (fun _ _ _ => rfl) rfl (k.ch (fun L j _ _ _ => up_ne (by omega)) (up_ne (by omega)) (up_ne (by omega)) (up_ne (by omega)) (up_ne (by omega)) ?_ k.cc0 k.cc1 (fun j j0 j1 => ?_) (fun j j0 j1 => ?_)) (up_ne (by omega)) rfl ?_ h.f01 ?_ h.dp0 h.dp1 (fun j j0 j1 => ?_) ?_ ?_ h.fc
  · rw [up_ne (by omega)]; exact k.cc
  · rw [up_ne (by omega)]; exact k.ck j j0 j1
  · rw [up_ne (by omega)]; exact k.ci j j0 j1
  · rw [up_ne (by omega)]; exact h.fl
  · rw [up_ne (by omega)]; exact h.dp
  · rw [up_ne (by omega)]; exact h.uw j j0 j1
  · rw [up_eq]; omega
  · rw [up_eq]; omega
theorem EvI.abv {c : Int → Int} {b x y : Int} {N M gm : Mem} {U : Int → Int} (h : EvI c N M gm U b) : EvI c (up (up N 30 10 x) 30 9 y) M gm U b := by
  have k := h.wk
  refine h.wch (fun L j hL => (up_ne (by omega)).trans (up_ne (by omega))) (fun _ _ _ => rfl) rfl (k.ch (fun L j _ _ _ => (up_ne (by omega)).trans (up_ne (by omega))) ((up_ne (by omega)).trans (up_ne (by omega))) ((up_ne (by omega)).trans (up_ne (by omega))) ((up_ne (by omega)).trans (up_ne (by omega))) ((up_ne (by omega)).trans (up_ne (by omega))) ?_ k.cc0 k.cc1 (fun j j0 j1 => ?_) (fun j j0 j1 => ?_)) ((up_ne (by omega)).trans (up_ne (by omega))) rfl ?_ h.f01 ?_ h.dp0 h.dp1 (fun j j0 j1 => ?_) ?_ ?_ h.fc
  · rw [up_ne (by omega), up_ne (by omega)]; exact k.cc
  · rw [up_ne (by omega), up_ne (by omega)]; exact k.ck j j0 j1
  · rw [up_ne (by omega), up_ne (by omega)]; exact k.ci j j0 j1
  · rw [up_ne (by omega), up_ne (by omega)]; exact h.fl
  · rw [up_ne (by omega), up_ne (by omega)]; exact h.dp
  · rw [up_ne (by omega), up_ne (by omega)]; exact h.uw j j0 j1
  · rw [up_ne (by omega), up_ne (by omega)]; exact h.tp0
  · rw [up_ne (by omega), up_ne (by omega)]; exact h.tp1
theorem up4_ne {V : Mem} {r1 j1 x1 r2 j2 x2 r3 j3 x3 r4 j4 x4 a e : Int} (h1 : a ≠ r1 ∨ e ≠ j1) (h2 : a ≠ r2 ∨ e ≠ j2) (h3 : a ≠ r3 ∨ e ≠ j3) (h4 : a ≠ r4 ∨ e ≠ j4) : up (up (up (up V r1 j1 x1) r2 j2 x2) r3 j3 x3) r4 j4 x4 a e = V a e := by rw [up_ne h4, up_ne h3, up_ne h2, up_ne h1]
def nFail (N : Mem) (x y : Int) : Mem := up (up (up (up N 30 1 1) 33 0 x) 34 0 y) 30 8 1
def mFail (M : Mem) (x y : Int) : Mem := up (up (up (up M 0 65 1) 0 68 1) 66 0 x) 67 0 y
theorem nFail_ne {N : Mem} {x y L j : Int} (h : ¬ (L = 30 ∧ (j = 1 ∨ j = 8))) (h2 : ¬ (L = 33 ∧ j = 0)) (h3 : ¬ (L = 34 ∧ j = 0)) : nFail N x y L j = N L j := up4_ne (by omega) (by omega) (by omega) (by omega)
theorem mFail_ne {M : Mem} {x y L j : Int} (h : ¬ (L = 0 ∧ (j = 65 ∨ j = 68))) (h2 : ¬ (L = 66 ∧ j = 0)) (h3 : ¬ (L = 67 ∧ j = 0)) : mFail M x y L j = M L j := up4_ne (by omega) (by omega) (by omega) (by omega)
theorem mFail_65 {M : Mem} {x y : Int} : mFail M x y 0 65 = 1 := by unfold mFail; rw [up_ne (by omega), up_ne (by omega), up_ne (by omega), up_eq]
theorem mFail_68 {M : Mem} {x y : Int} : mFail M x y 0 68 = 1 := by unfold mFail; rw [up_ne (by omega), up_ne (by omega), up_eq]
theorem EvI.fail {c : Int → Int} {b x y : Int} {N M gm : Mem} {U : Int → Int} (h : EvI c N M gm U b) : EvI c (nFail N x y) (mFail M x y) gm U b := by
  have k := h.wk
  have m68 : mFail M x y 0 68 = 1 := mFail_68
  have m65 : mFail M x y 0 65 = 1 := mFail_65
  have m64 : mFail M x y 0 64 = M 0 64 := mFail_ne (by omega) (by omega) (by omega)
  have d1 := h.dp1
  refine h.wch (fun L j hL => nFail_ne (by omega) (by omega) (by omega)) (fun k j hk => by unfold bkk at hk; exact mFail_ne (by omega) (by omega) (by omega)) (mFail_ne (by omega) (by omega) (by omega)) (k.ch (fun L j _ _ _ => nFail_ne (by omega) (by omega) (by omega)) (nFail_ne (by omega) (by omega) (by omega)) (nFail_ne (by omega) (by omega) (by omega)) (nFail_ne (by omega) (by omega) (by omega)) (nFail_ne (by omega) (by omega) (by omega)) ?_ (by omega) (by omega) (fun j j0 j1 => ?_) (fun j j0 j1 => ?_)) (nFail_ne (by omega) (by omega) (by omega)) (mFail_ne (by omega) (by omega) (by omega)) ?_ (Or.inr m65) ?_ ?_ ?_ (fun j j0 j1 => ?_) ?_ ?_ ?_
  · rw [m68]; unfold nFail; rw [up_eq]
  · have e : j = 0 := by omega
    subst e
    unfold nFail mFail
    rw [up_ne (by omega), up_ne (by omega), up_eq, up_ne (by omega), up_eq]
  · have e : j = 0 := by omega
    subst e
    unfold nFail mFail
    rw [up_ne (by omega), up_eq, up_eq]
  · rw [m65]; unfold nFail; rw [up_ne (by omega), up_ne (by omega), up_ne (by omega), up_eq]
  · rw [m64, ← h.dp]; exact nFail_ne (by omega) (by omega) (by omega)
  · rw [m64]; exact h.dp0
  · rw [m64]; exact h.dp1
  · rw [m64] at j1
    rw [nFail_ne (by omega) (by omega) (by omega), mFail_ne (by omega) (by omega) (by omega)]
    exact h.uw j j0 j1
  · rw [nFail_ne (by omega) (by omega) (by omega)]; exact h.tp0
  · rw [nFail_ne (by omega) (by omega) (by omega)]; exact h.tp1
  · intro _; omega
theorem Wr {c : Int → Int} {S : Sh} {V N : Mem} (hW : Wv c S V = N) : (∀ L j, 0 ≤ j → V (c L) j = N L j) ∧ (∀ L, S.1 (c L) = N L (-1)) ∧ (∀ L, S.2.1 (c L) = N L (-2)) := by
  subst hW
  exact ⟨fun L j h => (Wv_el h).symm, fun L => Wv_tag.symm, fun L => Wv_len.symm⟩
section EV
variable {l : Launch} {G : GT} {B : BT} {Q : Int → Sh → Mem → Prop} {c : Int → Int} {S : Sh} {V N M gm : Mem} {U : Int → Int} {b : Int} {d mc ms : Nat}
theorem CT.im {as : List AV} {K : Int → Sh → Mem → Nat → Nat → Prop} (hd : 1 ≤ d) (h : ∀ d1, d1 + 1 = d → Ct l G B (fun z S' V' => K z S' V' mc ms) d1 0 0 as S V) : CT l G B d mc ms as S V K :=
  CT.of (d - 1) 0 0 (h _ (by omega)) (by omega) (Nat.zero_le _) (Nat.zero_le _) (fun z S' V' k => k)
theorem ct_push {x : Int} (E : EvI c N M gm U b) (hc : Cn c S) (hW : Wv c S V = N) (h1 : N 30 3 < 1000 → ∀ V', Wv c S V' = up (up N 31 (N 30 3) x) 30 3 (N 30 3 + 1) → Q 0 S V') (h2 : 1000 ≤ N 30 3 → Q 0 S V) : Ct l G bX10_push Q d mc ms [vr (c 30), vi x] S V := qX10_push fun _ _ => vX10_push_0 <| by
  obtain ⟨v, tg, ln⟩ := Wr hW
  have k := E.wk
  have t0 := E.tp0
  have t1 := E.tp1
  simp (disch := omega) only [v, tg, ln, k.r2, k.g30, k.g31, k.n31]
  refine ⟨trivial, fun h => h2 h, fun h => ⟨trivial, t0, by omega, by omega, by omega, h1 (by omega) _ ?_⟩⟩
  rw [Wv_up hc (by decide), Wv_up hc t0, hW]
theorem ct_pop (E : EvI c N M gm U b) (hc : Cn c S) (hW : Wv c S V = N) (h1 : 0 < N 30 3 → ∀ V', Wv c S V' = up N 30 3 (N 30 3 - 1) → Q (N 31 (N 30 3 - 1)) S V') (h2 : N 30 3 ≤ 0 → Q 0 S V) : Ct l G bX10_pop Q d mc ms [vr (c 30)] S V := qX10_pop fun _ => vX10_pop_0 <| by
  obtain ⟨v, tg, ln⟩ := Wr hW
  have k := E.wk
  have t0 := E.tp0
  have t1 := E.tp1
  simp (disch := omega) only [v, tg, ln, k.r2, k.g30, k.g31, k.n31]
  refine ⟨trivial, fun h => ⟨by omega, by omega, trivial, by omega, by omega, ?_⟩, fun h => h2 (by omega)⟩
  rw [v _ _ (by omega)]
  exact h1 h _ (by rw [Wv_up hc (by decide), hW])
theorem ct_fail {x y : Int} (E : EvI c N M gm U b) (hc : Cn c S) (hW : Wv c S V = N) (h : ∀ V', Wv c S V' = nFail N x y → Q 0 S V') : Ct l G bX10_fail Q d mc ms [vr (c 30), vi x, vi y] S V := qX10_fail fun _ _ _ => vX10_fail_0 <| by
  obtain ⟨v, tg, ln⟩ := Wr hW
  have k := E.wk
  simp (disch := omega) only [v, tg, ln, k.r6, k.r7, k.g30, k.g33, k.n33, k.g34, k.n34]
  refine ⟨trivial, trivial, by decide, by decide, trivial, by decide, h _ ?_⟩
  rw [Wv_up hc (by decide), Wv_up hc (by decide), Wv_up hc (by decide), Wv_up hc (by decide), hW]
  rfl
theorem ct_stateOfE {i : Int} (E : EvI c N M gm U b) (hW : Wv c S V = N) (i0 : 0 ≤ i) (i1 : i < 148) (h : Q (M 52 (160 * b + i)) S V) : Ct l G bX0_stateOf Q d mc ms [vr (c (128 * b + 1)), vi i] S V := qX0_stateOf fun _ _ => vX0_stateOf_0 <| by
  obtain ⟨v, tg, ln⟩ := Wr hW
  have k := E.bh.bk
  simp (disch := omega) only [v, tg, ln, k.g1, k.r4, k.g23, k.n23]
  refine ⟨fun q => absurd q (by omega), fun _ => ⟨fun _ => ⟨trivial, trivial, i0, i1, ?_⟩, fun q => absurd i1 q⟩⟩
  rw [k.st i i0 i1]
  exact h
theorem ct_setState {i x : Int} (E : EvI c N M gm U b) (hc : Cn c S) (hW : Wv c S V = N) (i0 : 0 ≤ i) (i1 : i < 148) (h : ∀ V', Wv c S V' = up N (128 * b + 23) i x → Q 0 S V') : Ct l G bX0_setState Q d mc ms [vr (c (128 * b + 1)), vi i, vi x] S V := qX0_setState fun _ _ _ => vX0_setState_0 <| by
  obtain ⟨v, tg, ln⟩ := Wr hW
  have k := E.bh.bk
  simp (disch := omega) only [v, tg, ln, k.g1, k.r4, k.g23, k.n23]
  refine ⟨fun q => absurd q (by omega), fun _ => ⟨fun q => absurd q (by omega), fun _ => ⟨trivial, trivial, i0, i1, h _ ?_⟩⟩⟩
  rw [Wv_up hc i0, hW]
theorem ct_enumAtH {e : Int} (hH : BkH c N M b) (hW : Wv c S V = N) (h1 : 0 ≤ e → e < M 10 b → Q (c (128 * (12 * b + e) + 3)) S V) (h2 : ¬ (0 ≤ e ∧ e < M 10 b) → Q 0 S V) : Ct l G bX0_enumAt Q d mc ms [vr (c (128 * b + 1)), vi e] S V :=
  qX0_enumAt fun _ _ => vX0_enumAt_0 <| by
    obtain ⟨v, tg, ln⟩ := Wr hW
    have t := hH.bk
    have e1 := t.ne1
    simp (disch := omega) only [v, tg, ln, t.ne, t.r0, t.g1, t.g2, t.n2]
    refine ⟨fun _ => h2 (by omega), fun _ => ⟨trivial, fun _ => ⟨trivial, by omega, by omega, ?_⟩, fun _ => h2 (by omega)⟩⟩
    rw [v _ _ (by omega), t.re e (by omega) (by omega)]
    exact h1 (by omega) (by omega)
end EV
