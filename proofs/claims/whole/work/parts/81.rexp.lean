/-! ===== book: an expr of a member ===== -/
def fv (st : Int) : Int := if 2 ≤ st then 1 else 0
def fo (st : Int) : Int := if 1 ≤ st then 1 else 0
def fa (st : Int) : Int := if 3 ≤ st then 1 else 0
def fYm (X R : Int) (M M' : Mem) : Prop := ∀ k i, ¬ (k = 0 ∧ ((3 ≤ i ∧ i ≤ 6) ∨ i = 40 ∨ (42 ≤ i ∧ i ≤ 47) ∨ i = 51)) → ¬ (35 ≤ k ∧ k ≤ 39 ∧ X ≤ i) → ¬ (48 ≤ k ∧ k ≤ 50 ∧ R ≤ i) → M' k i = M k i
theorem fYm.rf {X R : Int} {M : Mem} : fYm X R M M := fun _ _ _ _ _ => rfl
theorem fYm.tr {X R X1 R1 : Int} {M M1 M2 : Mem} (h : fYm X R M M1) (h2 : fYm X1 R1 M1 M2) (q : X ≤ X1) (q2 : R ≤ R1) : fYm X R M M2 := fun k i a b c => (h2 k i a (by omega) (by omega)).trans (h k i a b c)
theorem fYm.x {X R : Int} {M M' : Mem} (h : fXm X R M M') : fYm X R M M' := fun k i a b c => h k i (by omega) b c
theorem fYm.lx {X R : Int} {M M' : Mem} (h : Lxs M M') : fYm X R M M' := fun k i a _ _ => h k i (by omega)
/-- class and reference at a member's token -/
def MLS (c : Int → Int) (N M : Mem) (K P W E : Int → Int) (nt b g st B j ln : Int) : Prop := TS c N M K P W E nt j ∧ (N 50 5 = st ∧ N 120 2 = ln ∧ rcn (N 121) ln.toNat = M 0 51) ∧ (0 ≤ ln ∧ ln ≤ j ∧ 0 ≤ M 0 40 ∧ M 0 40 ≤ B + j) ∧ (M 0 46 = 0 ∧ N 50 10 = 0 ∧ M 0 9 = b ∧ M 0 41 = g)
def ER (c : Int → Int) (N M gm : Mem) (K P W E : Int → Int) (nt b g st B j ln : Int) (N' M' gm' : Mem) (x j' ln' : Int) : Prop := MLS c N' M' K P W E nt b g st B j' (ln' + 1) ∧ fXn ln N N' ∧ fYm (M 0 40) (M 0 51) M M' ∧ (∀ k y, y < M 0 40 → gm' k y = gm k y) ∧ TRE N' M' gm' K P E nt b g st (M 0 40) (M' 0 40) ln ln' ∧ (M 0 40 ≤ x ∧ x < M' 0 40 ∧ gm' 1 x = ln ∧ gm' 2 x = ln' ∧ N' 121 ln' = 0) ∧ (j < j' ∧ ln < ln' ∧ ln' + 1 ≤ j' ∧ M 0 40 < M' 0 40 ∧ M' 0 40 - M 0 40 ≤ j' - j ∧ M 0 51 ≤ M' 0 51)
def YF (ln : Int) (N M N' M' : Mem) : Prop := fXn ln N N' ∧ fYm (M 0 40) (M 0 51) M M' ∧ 0 < M' 0 46 ∧ N' 50 10 = M' 0 46 ∧ N' 50 11 = M' 0 47 ∧ 0 ≤ M' 0 47 ∧ M' 0 47 ≤ 3000
section REX
variable {l : Launch} {G : GT} {c : Int → Int} {S : Sh} {Q : Int → Sh → Mem → Prop} {d mc ms e : Nat} {K P W E : Int → Int} {nt b g st B j ln j' ln' : Int} {N N' M M' gm V : Mem}
theorem MLS.ts (h : MLS c N M K P W E nt b g st B j ln) : TS c N M K P W E nt j := h.1
theorem MLS.pb (h : MLS c N M K P W E nt b g st B j ln) : 0 ≤ P j ∧ P j ≤ 3000 := h.1.pb
theorem MLS.sv (h : MLS c N M K P W E nt b g st B j ln) : N 50 5 = st := h.2.1.1
theorem MLS.lv (h : MLS c N M K P W E nt b g st B j ln) : N 120 2 = ln := h.2.1.2.1
theorem MLS.r (h : MLS c N M K P W E nt b g st B j ln) : rcn (N 121) ln.toNat = M 0 51 := h.2.1.2.2
theorem MLS.l0 (h : MLS c N M K P W E nt b g st B j ln) : 0 ≤ ln := h.2.2.1.1
theorem MLS.lj (h : MLS c N M K P W E nt b g st B j ln) : ln ≤ j := h.2.2.1.2.1
theorem MLS.x0 (h : MLS c N M K P W E nt b g st B j ln) : 0 ≤ M 0 40 := h.2.2.1.2.2.1
theorem MLS.x1 (h : MLS c N M K P W E nt b g st B j ln) : M 0 40 ≤ B + j := h.2.2.1.2.2.2
theorem MLS.w (h : MLS c N M K P W E nt b g st B j ln) : M 0 46 = 0 := h.2.2.2.1
theorem MLS.f (h : MLS c N M K P W E nt b g st B j ln) : N 50 10 = 0 := h.2.2.2.2.1
theorem MLS.b9 (h : MLS c N M K P W E nt b g st B j ln) : M 0 9 = b := h.2.2.2.2.2.1
theorem MLS.g41 (h : MLS c N M K P W E nt b g st B j ln) : M 0 41 = g := h.2.2.2.2.2.2
theorem MLS.r0 (h : MLS c N M K P W E nt b g st B j ln) : 0 ≤ M 0 51 ∧ M 0 51 ≤ ln := by
  have h1 := h.r
  have h0 := h.l0
  have := rcn_0 (f := N 121) ln.toNat
  have := rcn_n (f := N 121) ln.toNat
  omega
set_option maxHeartbeats 1000000 in
theorem rd_expr (hc : Cn c S) (cn : CN b B st) (hd : 70 ≤ d) (he : 80 ≤ e) (hW : Wv c S V = N) (ls : MLS c N M K P W E nt b g st B j ln) (slk : ln + 1 ≤ j) (hok : ∀ V' M' gm' x j' ln', ER c N M gm K P W E nt b g st B j ln (Wv c S V') M' gm' x j' ln' → RunM e n_readExpr_0 [fv st, fo st, fa st] M x M' → Q 1 S V') (hbad : ∀ V' M' z, YF ln N M (Wv c S V') M' → RunM e n_readExpr_0 [fv st, fo st, fa st] M z M' → Q 0 S V') : Ct l G bX5_readSum Q d mc ms [vr (c 50), vi 0] S V := by
  obtain ⟨e', rfl⟩ : ∃ e', e = e' + 3 := ⟨e - 3, by omega⟩
  have mr : ∀ k i, ¬ (k = 0 ∧ 42 ≤ i ∧ i ≤ 45) → up (up (up (up M 0 43 (fv st)) 0 44 (fo st)) 0 45 (fa st)) 0 42 0 k i = M k i := fun k i q => by rw [up_ne (by omega), up_ne (by omega), up_ne (by omega), up_ne (by omega)]
  have fm1 : fYm (M 0 40) (M 0 51) M (up (up (up (up M 0 43 (fv st)) 0 44 (fo st)) 0 45 (fa st)) 0 42 0) := fun k i q1 q2 q3 => mr k i (by omega)
  have e40 : up (up (up (up M 0 43 (fv st)) 0 44 (fo st)) 0 45 (fa st)) 0 42 0 0 40 = M 0 40 := mr _ _ (by omega)
  have e51 : up (up (up (up M 0 43 (fv st)) 0 44 (fo st)) 0 45 (fa st)) 0 42 0 0 51 = M 0 51 := mr _ _ (by omega)
  have xs : XS c N (up (up (up (up M 0 43 (fv st)) 0 44 (fo st)) 0 45 (fa st)) 0 42 0) K P W E nt b g st B 0 j ln := by
    refine ⟨ls.ts.fr (fun _ _ => rfl) (fun _ _ _ => rfl) (fun i hi => mr _ _ (by omega)) (fun i => mr _ _ (by omega)), ⟨ls.sv, ls.lv, by rw [e51]; exact ls.r⟩, ⟨ls.l0, ls.lj, by rw [e40]; exact ls.x0, by rw [e40]; exact ls.x1⟩, ⟨(mr _ _ (by omega)).trans ls.w, up_eq, ls.f⟩, (mr _ _ (by omega)).trans ls.b9, (mr _ _ (by omega)).trans ls.g41, ?_, ?_, ?_⟩
    · rw [up_ne (by omega), up_ne (by omega), up_ne (by omega), up_eq]; rfl
    · rw [up_ne (by omega), up_ne (by omega), up_eq]; rfl
    · rw [up_ne (by omega), up_eq]; rfl
  have v01 : fv st = 0 ∨ fv st = 1 := by unfold fv; split <;> omega
  have o01 : fo st = 0 ∨ fo st = 1 := by unfold fo; split <;> omega
  have a01 : fa st = 0 ∨ fa st = 1 := by unfold fa; split <;> omega
  have ref : ∀ Qr : Int → Mem → Prop, PM (e' + 2) n_readSum_0 [] (up (up (up (up M 0 43 (fv st)) 0 44 (fo st)) 0 45 (fa st)) 0 42 0) Qr → PM (e' + 3) n_readExpr_0 [fv st, fo st, fa st] M Qr := fun Qr hq => st_readExpr_0 ⟨fun _ => ⟨v01, o01, a01, hq⟩, fun y => absurd (by have := ls.w; omega) y⟩
  generalize hM1 : up (up (up (up M 0 43 (fv st)) 0 44 (fo st)) 0 45 (fa st)) 0 42 0 = M1 at *
  refine sum_0 (e := e') (gm := gm) hc cn (by omega) (by omega) (fac_all hc cn 12 0 (d - 1) e' (by omega) (by omega) (by omega) (by omega)) hW xs slk (fun V' V'' M' gm' x j' ln' xr hW'' run => ?_) (fun V' M' z xf run => ?_)
  · obtain ⟨xs7, fn7, fm7, gf7, T7, ⟨p1, p2, p3, p4, p5⟩, ⟨b1, b2, b3, b4, b5⟩⟩ := xr
    have l70 := xs7.l0
    have r51 : M 0 51 ≤ M' 0 51 := by
      rw [← ls.r, ← xs7.r, rcn_cg (f := N 121) (g := Wv c S V' 121) ln.toNat (fun k a q => (fn7 121 k (by omega) (by omega) (by omega)).symm)]
      exact rcn_le _ _ (by omega)
    refine hok V'' M' gm' x j' ln' ?_ (fun Qr hq => ref Qr (run Qr hq))
    rw [hW'']
    rw [e40] at fm7 gf7 T7 p1 b4 b5
    rw [e51] at fm7
    refine ⟨⟨xs7.ts.em l70, ⟨(nEm_ne (by omega)).trans xs7.sv, nEm_l, ?_⟩, ⟨by omega, by omega, xs7.x0, xs7.x1⟩, xs7.w, (nEm_ne (by omega)).trans xs7.f, xs7.xc.1, xs7.xc.2.1⟩, fn7.tr fXn.em (by omega), fm1.tr (fYm.x fm7) (Int.le_refl _) (Int.le_refl _), gf7, ?_, ⟨p1, p2, p3, p4, nEm_o⟩, ⟨b1, b2, by omega, b4, b5, r51⟩⟩
    · rw [rcn_s l70, rcn_cg (g := Wv c S V' 121) _ (fun i a q => nEm_ne (by omega)), xs7.r, nEm_o]
      show M' 0 51 + 0 = _
      omega
    · exact T7.fr ls.l0 (fun i _ _ => ⟨nEm_ne (by omega), nEm_ne (by omega)⟩) (fun _ _ _ _ _ _ _ => rfl) (fun _ _ _ _ _ => rfl) (fun _ _ _ _ _ => rfl) (fun _ _ _ _ _ _ => rfl)
  · obtain ⟨x1, x2, x3, x4, x5, x6⟩ := xf
    rw [e40, e51] at x2
    exact hbad V' M' z ⟨x1, fm1.tr (fYm.x x2) (Int.le_refl _) (Int.le_refl _), x4, x5, x6⟩ (fun Qr hq => ref Qr (run Qr hq))
end REX
