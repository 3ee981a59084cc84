/-! ===== book: an expr read: states and results ===== -/
def fXn (ln : Int) (N N' : Mem) : Prop := ∀ L k, ¬ (L = 50 ∧ 6 ≤ k ∧ k ≤ 11 ∧ k ≠ 9) → ¬ (L = 120 ∧ k = 2) → ¬ ((L = 121 ∨ L = 122) ∧ ln ≤ k) → N' L k = N L k
def fXm (X R : Int) (M M' : Mem) : Prop := ∀ k i, ¬ (k = 0 ∧ ((3 ≤ i ∧ i ≤ 6) ∨ i = 40 ∨ i = 42 ∨ i = 46 ∨ i = 47 ∨ i = 51)) → ¬ (35 ≤ k ∧ k ≤ 39 ∧ X ≤ i) → ¬ (48 ≤ k ∧ k ≤ 50 ∧ R ≤ i) → M' k i = M k i
theorem fXn.rf {ln : Int} {N : Mem} : fXn ln N N := fun _ _ _ _ _ => rfl
theorem fXm.rf {X R : Int} {M : Mem} : fXm X R M M := fun _ _ _ _ _ => rfl
theorem fXn.tr {ln ln1 : Int} {N N1 N2 : Mem} (h : fXn ln N N1) (h2 : fXn ln1 N1 N2) (q : ln ≤ ln1) : fXn ln N N2 := fun L k a b c => (h2 L k a b (by omega)).trans (h L k a b c)
theorem fXm.tr {X R X1 R1 : Int} {M M1 M2 : Mem} (h : fXm X R M M1) (h2 : fXm X1 R1 M1 M2) (q : X ≤ X1) (q2 : R ≤ R1) : fXm X R M M2 := fun k i a b c => (h2 k i a (by omega) (by omega)).trans (h k i a b c)
theorem fXn.ps {ln : Int} {N : Mem} {j k w : Int} : fXn ln N (nPs N j k w) := fun L i a b c => nPs_ne (by omega)
theorem fXn.ft {ln : Int} {N : Mem} {f p : Int} : fXn ln N (nFt N f p) := fun L i a b c => nFt_ne (by omega)
theorem fXn.em {ln o a : Int} {N : Mem} : fXn ln N (nEm N ln o a) := fun L i x y z => nEm_ne (by omega)
theorem fXm.lx {X R : Int} {M M' : Mem} (h : Lxs M M') : fXm X R M M' := fun k i a _ _ => h k i (by omega)
theorem fXm.ft {X R f p : Int} {M : Mem} : fXm X R M (mFt M f p) := fun k i a _ _ => mFt_ne (by omega)
theorem fXm.nest {X R n : Int} {M : Mem} : fXm X R M (up M 0 42 n) := fun k i a _ _ => up_ne (by omega)
theorem fXm.ex {X R k a b : Int} {M : Mem} (h : X ≤ M 0 40) (q : 2 ≤ k ∧ k ≤ 5 → X ≤ a) : fXm X R M (mEx M k a b) := fun L i x y z => mEx_ne ⟨by omega, by omega, by omega⟩
def CN (b B st : Int) : Prop := 0 ≤ b ∧ b < 10 ∧ 0 ≤ B ∧ B ≤ 27000 ∧ 0 ≤ st ∧ st ≤ 3
def XC (M : Mem) (b g st : Int) : Prop := M 0 9 = b ∧ M 0 41 = g ∧ M 0 43 = (if 2 ≤ st then 1 else 0) ∧ M 0 44 = (if 1 ≤ st then 1 else 0) ∧ M 0 45 = (if 3 ≤ st then 1 else 0)
theorem XC.fr {M M' : Mem} {b g st X R : Int} (h : XC M b g st) (f : fXm X R M M') : XC M' b g st := ⟨(f _ _ (by omega) (by omega) (by omega)).trans h.1, (f _ _ (by omega) (by omega) (by omega)).trans h.2.1, (f _ _ (by omega) (by omega) (by omega)).trans h.2.2.1, (f _ _ (by omega) (by omega) (by omega)).trans h.2.2.2.1, (f _ _ (by omega) (by omega) (by omega)).trans h.2.2.2.2⟩
/-- class and reference within an expr -/
def XS (c : Int → Int) (N M : Mem) (K P W E : Int → Int) (nt b g st B n j ln : Int) : Prop := TS c N M K P W E nt j ∧ (N 50 5 = st ∧ N 120 2 = ln ∧ rcn (N 121) ln.toNat = M 0 51) ∧ (0 ≤ ln ∧ ln ≤ j ∧ 0 ≤ M 0 40 ∧ M 0 40 ≤ B + j) ∧ (M 0 46 = 0 ∧ M 0 42 = n ∧ N 50 10 = 0) ∧ XC M b g st
/-- an expr read well -/
def XR (c : Int → Int) (N M gm : Mem) (K P W E : Int → Int) (nt b g st B n j ln h : Int) (N' M' gm' : Mem) (x j' ln' : Int) : Prop := XS c N' M' K P W E nt b g st B n j' ln' ∧ fXn ln N N' ∧ fXm (M 0 40) (M 0 51) M M' ∧ (∀ k y, y < M 0 40 → gm' k y = gm k y) ∧ TRE N' M' gm' K P E nt b g st (M 0 40) (M' 0 40) ln ln' ∧ (M 0 40 ≤ x ∧ x < M' 0 40 ∧ gm' 1 x = ln ∧ gm' 2 x = ln' ∧ gm' 3 x ≤ h) ∧ (j < j' ∧ ln < ln' ∧ ln' - ln ≤ j' - j ∧ M 0 40 < M' 0 40 ∧ M' 0 40 - M 0 40 ≤ j' - j)
/-- a fault in it -/
def XF (ln n : Int) (N M N' M' : Mem) : Prop := fXn ln N N' ∧ fXm (M 0 40) (M 0 51) M M' ∧ M' 0 42 = n ∧ 0 < M' 0 46 ∧ N' 50 10 = M' 0 46 ∧ N' 50 11 = M' 0 47 ∧ 0 ≤ M' 0 47 ∧ M' 0 47 ≤ 3000
theorem rcn_n {f : Int → Int} : ∀ n : Nat, rcn f n ≤ n := by
  intro n
  induction n with
  | zero => exact Int.le_refl _
  | succ n ih =>
    show rcn f n + rfs (f n) ≤ _
    have : rfs (f n) ≤ 1 := by unfold rfs; split <;> decide
    omega
section XPR
variable {c : Int → Int} {N N' M M' gm : Mem} {K P W E : Int → Int} {nt b g st B n j ln n' j' ln' : Int}
theorem XS.ts (h : XS c N M K P W E nt b g st B n j ln) : TS c N M K P W E nt j := h.1
theorem XS.sv (h : XS c N M K P W E nt b g st B n j ln) : N 50 5 = st := h.2.1.1
theorem XS.l (h : XS c N M K P W E nt b g st B n j ln) : N 120 2 = ln := h.2.1.2.1
theorem XS.r (h : XS c N M K P W E nt b g st B n j ln) : rcn (N 121) ln.toNat = M 0 51 := h.2.1.2.2
theorem XS.l0 (h : XS c N M K P W E nt b g st B n j ln) : 0 ≤ ln := h.2.2.1.1
theorem XS.lj (h : XS c N M K P W E nt b g st B n j ln) : ln ≤ j := h.2.2.1.2.1
theorem XS.x0 (h : XS c N M K P W E nt b g st B n j ln) : 0 ≤ M 0 40 := h.2.2.1.2.2.1
theorem XS.x1 (h : XS c N M K P W E nt b g st B n j ln) : M 0 40 ≤ B + j := h.2.2.1.2.2.2
theorem XS.w (h : XS c N M K P W E nt b g st B n j ln) : M 0 46 = 0 := h.2.2.2.1.1
theorem XS.nv (h : XS c N M K P W E nt b g st B n j ln) : M 0 42 = n := h.2.2.2.1.2.1
theorem XS.f (h : XS c N M K P W E nt b g st B n j ln) : N 50 10 = 0 := h.2.2.2.1.2.2
theorem XS.xc (h : XS c N M K P W E nt b g st B n j ln) : XC M b g st := h.2.2.2.2
theorem XS.r0 (h : XS c N M K P W E nt b g st B n j ln) : 0 ≤ M 0 51 ∧ M 0 51 ≤ ln := by
  have h1 := h.r
  have h0 := h.l0
  have := rcn_0 (f := N 121) ln.toNat
  have := rcn_n (f := N 121) ln.toNat
  omega
theorem XS.go {X R : Int} (h : XS c N M K P W E nt b g st B n j ln) (fn : fXn ln N N') (fm : fXm X R M M') (ts : TS c N' M' K P W E nt j') (l : N' 120 2 = ln') (r : rcn (N' 121) ln'.toNat = M' 0 51) (l0 : 0 ≤ ln') (lj : ln' ≤ j') (x0 : 0 ≤ M' 0 40) (x1 : M' 0 40 ≤ B + j') (w : M' 0 46 = 0) (hn : M' 0 42 = n') (f : N' 50 10 = 0) : XS c N' M' K P W E nt b g st B n' j' ln' := ⟨ts, ⟨(fn _ _ (by omega) (by omega) (by omega)).trans h.sv, l, r⟩, ⟨l0, lj, x0, x1⟩, ⟨w, hn, f⟩, h.xc.fr fm⟩
/-- behind a token passed, another nest -/
theorem XS.ps {m : Int} (h : XS c N M K P W E nt b g st B n j ln) (lx : Lxs (up M 0 42 m) M') (ts : TS c (nPs N (j + 1) (K (j + 1)) (W (j + 1))) M' K P W E nt (j + 1)) : XS c (nPs N (j + 1) (K (j + 1)) (W (j + 1))) M' K P W E nt b g st B m (j + 1) ln := by
  have u : ∀ k i, ¬ (k = 0 ∧ 3 ≤ i ∧ i ≤ 6) → ¬ (k = 0 ∧ i = 42) → M' k i = M k i := fun k i a q => (lx k i a).trans (up_ne (by omega))
  have hl := h.lj
  have hx := h.x1
  have e51 := u 0 51 (by omega) (by omega)
  have e40 := u 0 40 (by omega) (by omega)
  refine h.go (X := 0) (R := 0) fXn.ps (fun k i a _ _ => u k i (by omega) (by omega)) ts ((nPs_ne (by omega)).trans h.l) ?_ h.l0 (by omega) ?_ ?_ ((u _ _ (by omega) (by omega)).trans h.w) ((lx _ _ (by omega)).trans up_eq) ((nPs_ne (by omega)).trans h.f)
  · rw [rcn_cg (g := N 121) _ (fun k a q => nPs_ne (by omega)), h.r, e51]
  · rw [e40]; exact h.x0
  · rw [e40]; omega
theorem lxs_ne {m : Int} (h : Lxs M M') (hm : M 0 42 = m) : Lxs (up M 0 42 m) M' := fun k i a => (h k i a).trans (by
  by_cases y : k = 0 ∧ i = 42
  · obtain ⟨rfl, rfl⟩ := y
    rw [up_eq, hm]
  · rw [up_ne (by omega)])
end XPR
section XBI
variable {c : Int → Int} {N M gm : Mem} {K P W E : Int → Int} {nt b g st B n j X0 Xa L0 a ln o e1 x h : Int}
/-- a sign between two exprs that stand -/
theorem XS.bin (hs : XS c N M K P W E nt b g st B n j ln) (cn : CN b B st) (ho : 7 ≤ o ∧ o ≤ 10) (T1 : TRE N M gm K P E nt b g st X0 Xa L0 a) (T2 : TRE N M gm K P E nt b g st Xa (M 0 40) a ln) (r1 : X0 ≤ e1 ∧ e1 < Xa ∧ gm 1 e1 = L0 ∧ gm 2 e1 = a ∧ gm 3 e1 + 1 ≤ h ∨ X0 ≤ e1 ∧ e1 < Xa ∧ gm 1 e1 = L0 ∧ gm 2 e1 = a ∧ gm 3 e1 ≤ h ∧ 2 ≤ M 35 e1 ∧ M 35 e1 ≤ 5) (r2 : Xa ≤ x ∧ x < M 0 40 ∧ gm 1 x = a ∧ gm 2 x = ln ∧ gm 3 x + 1 ≤ h) (x00 : 0 ≤ X0) (l00 : 0 ≤ L0) (hh : 1 ≤ h ∧ h ≤ 39) (slk : ln + 1 ≤ j) (slk2 : M 0 40 + 1 ≤ B + j) :
    XS c (nEm N ln o 0) (mEx M (o - 5) e1 x) K P W E nt b g st B n j (ln + 1) ∧ TRE (nEm N ln o 0) (mEx M (o - 5) e1 x) (gmU gm (M 0 40) L0 (ln + 1) h st) K P E nt b g st X0 (M 0 40 + 1) L0 (ln + 1) ∧ fXm X0 (M 0 51) M (mEx M (o - 5) e1 x) := by
  have rr : X0 ≤ e1 ∧ e1 < Xa ∧ gm 1 e1 = L0 ∧ gm 2 e1 = a ∧ gm 3 e1 ≤ h := by omega
  have hl0 := hs.l0
  have q1 := (T1.1 e1 rr.1 rr.2.1).1
  have q2 := (T2.1 x r2.1 r2.2.1).1
  have n121 : ∀ i, 0 ≤ i → i < ln → nEm N ln o 0 121 i = N 121 i ∧ nEm N ln o 0 122 i = N 122 i := fun i i0 i1 => ⟨nEm_ne (by omega), nEm_ne (by omega)⟩
  have fm : fXm X0 (M 0 51) M (mEx M (o - 5) e1 x) := fXm.ex (by omega) (fun _ => by omega)
  have mex : ∀ k y, 35 ≤ k → k ≤ 39 → k ≠ 38 → y < M 0 40 → mEx M (o - 5) e1 x k y = M k y := fun k y a1 a2 a3 a4 => mEx_ne (by omega)
  have mrf : ∀ k i, 48 ≤ k → k ≤ 50 → mEx M (o - 5) e1 x k i = M k i := fun k i a1 a2 => mEx_ne (by omega)
  have e51 : mEx M (o - 5) e1 x 0 51 = M 0 51 := mEx_ne (by omega)
  have gu : ∀ k y, y < M 0 40 → gmU gm (M 0 40) L0 (ln + 1) h st k y = gm k y := fun k y q => gmU_ne (by omega)
  have F1 : TRE (nEm N ln o 0) (mEx M (o - 5) e1 x) (gmU gm (M 0 40) L0 (ln + 1) h st) K P E nt b g st X0 Xa L0 a := T1.fr l00 (fun i i0 i1 => n121 i i0 (by omega)) (fun k y a1 a2 a3 a4 a5 => mex k y a1 a2 a3 (by omega)) (fun y y0 y1 k1 k2 => by
    have pk := T1.1 y y0 y1
    refine mEx_ne ⟨?_, ?_, by omega⟩
    · intro z
      have := pk.2.2.2.2
      unfold PCk at this
      omega
    · intro z
      have p1 := pk.1
      have pc := pk.2.2.2.2
      unfold PCk at pc
      rw [z.2.1] at pc
      have : gm 2 (M 37 y) + 1 = gm 2 y ∧ gm 2 (M 36 y) = gm 1 (M 37 y) ∧ X0 ≤ M 37 y ∧ M 37 y < Xa := by
        rw [z.2.1]
        omega
      have q3 := (T1.1 (M 37 y) this.2.2.1 this.2.2.2).1
      rw [z.2.1] at this
      omega) (fun k i a1 a2 _ => mrf k i a1 a2) (fun k y _ _ _ a4 => gu k y (by omega))
  have F2 : TRE (nEm N ln o 0) (mEx M (o - 5) e1 x) (gmU gm (M 0 40) L0 (ln + 1) h st) K P E nt b g st Xa (M 0 40) a ln := T2.fr (by omega) n121 (fun k y a1 a2 a3 a4 a5 => mex k y a1 a2 a3 a5) (fun y y0 y1 k1 k2 => by
    have pk := (T2.1 y y0 y1).2.2.2.2
    unfold PCk at pk
    exact mEx_ne ⟨by omega, by omega, by omega⟩) (fun k i a1 a2 _ => mrf k i a1 a2) (fun k y _ _ _ a4 => gu k y a4)
  refine ⟨hs.go fXn.em fm (hs.ts.em hl0 |>.fr (fun _ _ => rfl) (fun _ _ _ => rfl) (fun i hi => mEx_ne (by omega)) (fun i => mEx_ne (by omega))) nEm_l ?_ (by omega) slk ?_ ?_ ((mEx_ne (by omega)).trans hs.w) ((mEx_ne (by omega)).trans hs.nv) ((nEm_ne (by omega)).trans hs.f), (F1.app F2 (by omega) (by omega) (by omega) (by omega)).add (by omega) (by omega) ?_ ?_, fm⟩
  · rw [rcn_s hl0, rcn_cg (g := N 121) _ (fun k a q => (n121 k a (by omega)).1), nEm_o, hs.r, e51]
    unfold rfs
    rw [if_neg (by omega)]; omega
  · rw [mEx_40]; have := hs.x0; omega
  · rw [mEx_40]; omega
  · have g1 : ∀ k y, y < M 0 40 → gmU gm (M 0 40) L0 (ln + 1) h st k y = gm k y := gu
    refine ⟨?_, ?_, gmU_4, ?_, ?_⟩
    · rw [gmU_1, gmU_2]; omega
    · rw [gmU_3]; exact hh
    · rw [mEx_39]; exact hs.xc.2.1
    · refine Or.inr (Or.inr (Or.inl ?_))
      rw [mEx_35, mEx_36, mEx_37, gmU_1, gmU_2, gmU_3, gu 1 e1 (by omega), gu 2 e1 (by omega), gu 3 e1 (by omega), gu 1 x r2.2.1, gu 2 x r2.2.1, gu 3 x r2.2.1, mEx_38 (by omega), mex 35 e1 (by decide) (by decide) (by decide) (by omega), r2.2.2.2.1, nEm_o]
      exact ⟨by omega, by omega, by omega, by omega, by omega, by omega, by omega, by omega, rfl, by omega, by omega, rfl, fun z => by omega, by omega⟩
  · refine ⟨?_, fun z => ?_, fun z => ?_, fun z => ?_, fun z => ?_⟩
    · rw [nEm_o]; omega
    · rw [nEm_o] at z; omega
    · rw [nEm_o] at z; omega
    · rw [nEm_o] at z; omega
    · rw [nEm_o] at z; omega
end XBI
