/-! ===== encode: the message read ===== -/
theorem tok_num {f : Int → Int} {len p q v : Int} (h : TokS f len p q 2 v) : 0 ≤ v ∧ v ≤ 999999999 := by
  rcases h.2.2.2.2 with ⟨_, _, e⟩ | ⟨ha, _, hr⟩
  · unfold sgn at e
    have := sgn_ok (f p % 256).toNat (by omega)
    rw [show (((f p % 256).toNat : Nat) : Int) = f p % 256 from by omega] at this
    split at e
    · omega
    · omega
  · rcases hr with ⟨_, ⟨a, b, _, e⟩ | ⟨_, e⟩⟩ | ⟨_, ⟨a, e, c⟩ | ⟨_, e⟩⟩
    · have pq := h.2.1
      have db := dcm_bd (f := f) (p := p) (q - p).toNat (by omega) (fun i x y => b i x (by omega))
      have p9 : (10 : Int) ^ (q - p).toNat ≤ 1000000000 := (by decide : ∀ k : Nat, k ≤ 9 → (10 : Int) ^ k ≤ 1000000000) _ (by omega)
      omega
    · omega
    · have := kow_rng v
      omega
    · omega
theorem TK.k1 {f K P W E : Int → Int} {len n j : Int} (tk : TK f len K P W E n) (j0 : 0 ≤ j) (j1 : j < n) : K j = 1 ↔ j = n - 1 := by
  constructor
  · intro e
    by_cases y : j = n - 1
    · exact y
    · have := tok_range (tk.1.1 j j0 (by omega)).1
      omega
  · intro e
    rw [e]; exact tk.2.2.1
theorem TK.t1 {M0 M : Mem} {K P W E : Int → Int} {n j : Int} (tk : TK (M0 1) (M0 0 2) K P W E n) (ha : AtT M K P W E j) (e1 : ∀ i, M 1 i = M0 1 i) (e2 : M 0 2 = M0 0 2) (j0 : 0 ≤ j) (j1 : j < n) : Tok1 M K P W E j := by
  have em : M 1 = M0 1 := funext e1
  have k1 := tk.k1 j0 j1
  obtain ⟨ts, n1, kE, pE, eE, l0, l1⟩ := tk
  refine ⟨ha, by omega, ?_⟩
  rw [em, e2]
  by_cases y : j = n - 1
  · refine Or.inl ⟨k1.2 y, ?_, ?_, ?_⟩
    · rw [y]; exact pE
    · rw [y]; exact eE
    · rw [y, pE]; exact l0
  · exact Or.inr ⟨fun z => y (k1.1 z), (ts.1 j j0 (by omega)).1⟩
def fEn (n : Int) (N N' : Mem) : Prop := ∀ L k, ¬ (L = 128 * n + 70 ∧ k = 1) → ¬ ((L = 128 * n + 71 ∨ L = 128 * n + 72 ∨ L = 128 * n + 73) ∧ 0 ≤ k) → N' L k = N L k
def fEm (n : Int) (M M' : Mem) : Prop := ∀ k i, ¬ (k = 0 ∧ 3 ≤ i ∧ i ≤ 6) → ¬ ((k = 79 ∨ k = 80) ∧ 61 * n ≤ i) → M' k i = M k i
theorem fEn.tr {n : Int} {N N1 N2 : Mem} (h : fEn n N N1) (h2 : fEn n N1 N2) : fEn n N N2 := fun L k a b => (h2 L k a b).trans (h L k a b)
theorem fEm.tr {n : Int} {N N1 N2 : Mem} (h : fEm n N N1) (h2 : fEm n N1 N2) : fEm n N N2 := fun L k a b => (h2 L k a b).trans (h L k a b)
theorem fEm.lx {n : Int} {M M' : Mem} (h : Lxs M M') : fEm n M M' := fun k i a _ => h k i a
def DrOK (N M : Mem) (b n C : Int) : Prop := N (128 * n + 70) 1 = C ∧ 0 ≤ C ∧ C ≤ 60 ∧ (∀ i, 0 ≤ i → i < C → 24 * (12 * b + N (128 * n + 71) i) + N (128 * n + 72) i = M 79 (61 * n + i) ∧ 0 ≤ N (128 * n + 71) i ∧ N (128 * n + 71) i < M 10 b ∧ 0 ≤ N (128 * n + 72) i ∧ N (128 * n + 72) i < M 14 (12 * b + N (128 * n + 71) i)) ∧ (∀ i, 0 ≤ i → i < C → N (128 * n + 73) i = M 80 (61 * n + i) ∧ 0 ≤ M 80 (61 * n + i) ∧ M 80 (61 * n + i) ≤ 999999999)
theorem nSg_70 {N : Mem} {n C e i : Int} : nSg N n C e i (128 * n + 70) 1 = C + 1 := up_eq
theorem nSg_71 {N : Mem} {n C e i t : Int} : nSg N n C e i (128 * n + 71) t = if t = C then e else N (128 * n + 71) t := by
  unfold nSg
  rw [up_ne (by omega), up_ne (by omega), up_ne (by omega)]
  split
  · rename_i y; rw [y, up_eq]
  · rw [up_ne (by omega)]
theorem nSg_72 {N : Mem} {n C e i t : Int} : nSg N n C e i (128 * n + 72) t = if t = C then i else N (128 * n + 72) t := by
  unfold nSg
  rw [up_ne (by omega), up_ne (by omega)]
  split
  · rename_i y; rw [y, up_eq]
  · rw [up_ne (by omega), up_ne (by omega)]
theorem nSg_73 {N : Mem} {n C e i t : Int} : nSg N n C e i (128 * n + 73) t = if t = C then 0 else N (128 * n + 73) t := by
  unfold nSg
  rw [up_ne (by omega)]
  split
  · rename_i y; rw [y, up_eq]
  · rw [up_ne (by omega), up_ne (by omega), up_ne (by omega)]
theorem nSg_fr {N : Mem} {n C e i : Int} (c0 : 0 ≤ C) : fEn n N (nSg N n C e i) := fun L k a b => by
  unfold nSg
  rw [up_ne (by omega), up_ne (by omega), up_ne (by omega), up_ne (by omega)]
section ENC
variable {e : Nat} {M : Mem} {Qr : Int → Mem → Prop} {b n x2 x3 z may : Int}
theorem enc_c (run : RunM (e + 9) n_constantHere_0 [b] M z M) (hne : M 0 3 ≠ 0) (hm : may = 0 ∨ M 0 3 ≠ 3) (b1 : 0 ≤ x2 + x3) (b2 : x2 + x3 < 1220) (b3 : 0 ≤ x3) (b4 : x3 ≤ 60) (h1 : z = -1 ∨ 60 ≤ x3 → PM (e + 10) n_encode_51 [b, x2, x3 + 1, 1, 0] (up (up M 79 (x2 + x3) z) 80 (x2 + x3) 0) Qr) (h2 : z ≠ -1 → x3 < 60 → PM (e + 9) n_next_0 [] (up (up M 79 (x2 + x3) z) 80 (x2 + x3) 0) (fun _ M' => PM (e + 10) n_encode_51 [b, x2, x3 + 1, 1, 1] M' Qr)) : PM (e + 10) n_encode_51 [b, x2, x3, may, 1] M Qr :=
  st_encode_51 ⟨fun y => absurd y (by decide), fun _ => ⟨fun y => absurd y hne, fun _ => ⟨fun _ => run _ ⟨fun y => ⟨by omega, by omega, by omega, by omega, by omega, by omega, h1 (Or.inl y)⟩, fun y => ⟨fun y2 => ⟨by omega, by omega, by omega, by omega, by omega, by omega, h1 (Or.inr y2)⟩, fun y2 => ⟨by omega, by omega, by omega, by omega, by omega, by omega, h2 y (by omega)⟩⟩⟩, fun q => ⟨fun _ => run _ ⟨fun y => ⟨by omega, by omega, by omega, by omega, by omega, by omega, h1 (Or.inl y)⟩, fun y => ⟨fun y2 => ⟨by omega, by omega, by omega, by omega, by omega, by omega, h1 (Or.inr y2)⟩, fun y2 => ⟨by omega, by omega, by omega, by omega, by omega, by omega, h2 y (by omega)⟩⟩⟩, fun y => absurd (hm.resolve_left q) y⟩⟩⟩⟩
theorem enc_stop {y1 y2 : Int} (p0 : 0 ≤ M 0 4) (p1 : M 0 4 ≤ 3000) (hq : Qr (-10 - M 0 4) (up M 0 2 0)) : PM (e + 10) n_encode_51 [b, x2, y1, y2, 0] M Qr :=
  st_encode_51 ⟨fun _ => ⟨fun _ => ⟨by omega, by omega, hq⟩, fun y => absurd rfl y⟩, fun y => absurd rfl y⟩
variable {c : Int → Int} {N : Mem} {K P W E : Int → Int} {j : Int}
theorem const_run (t : Tok1 M K P W E j) (hB : BkR c N M b) (b0 : 0 ≤ b) (b1 : b < 10) : ∃ z, RunM (e + 9) n_constantHere_0 [b] M z M ∧ ((z = -1 ∧ ¬ (K j = 3 ∧ ∃ e i, Fst N M b (W j) e i)) ∨ ∃ e i, K j = 3 ∧ Fst N M b (W j) e i ∧ z = 24 * (12 * b + e) + i) := by
  by_cases h : K j = 3 ∧ ∃ e i, Fst N M b (W j) e i
  · obtain ⟨k3, e1, i1, f⟩ := h
    refine ⟨24 * (12 * b + e1) + i1, fun Q hq => pm_constantHere t hB b0 b1 (fun e' i' _ f' => ?_) (fun q => absurd (q k3) (fun y => f.nn y)), Or.inr ⟨e1, i1, k3, f, rfl⟩⟩
    obtain ⟨rfl, rfl⟩ := f.un f'
    exact hq
  · exact ⟨-1, fun Q hq => pm_constantHere t hB b0 b1 (fun e' i' k3 f' => absurd ⟨k3, e', i', f'⟩ h) (fun _ => hq), Or.inl ⟨rfl, h⟩⟩
end ENC
section ENL
variable {l : Launch} {G : GT} {c : Int → Int} {S : Sh} {Q : Int → Sh → Mem → Prop} {d mc ms : Nat} {N0 M0 : Mem} {b n nt : Int} {E : Int → Int} {e : Nat} {X : (Int → Mem → Prop) → Prop}
theorem enc_loop (hc : Cn c S) (hB : BkR c N0 M0 b) (rd : Rdr c N0 M0 n) (rr : Rrd c N0 M0) (b0 : 0 ≤ b) (b1 : b < 10) (n0 : 0 ≤ n) (n1 : n < 20) (m81 : M0 0 81 = n) (tk : TK (M0 1) (M0 0 2) (N0 41) (N0 42) (N0 43) E nt) (hnt : N0 40 3 = nt) (hw : ∀ i, 0 ≤ i → i < M0 0 2 → wb (M0 1 i) = M0 1 i) (hd : 4 ≤ d)
    (hf : ∀ j V' M', 0 ≤ j → j < nt → fEn n N0 (Wv c S V') → fEm n M0 M' → (∀ Qr : Int → Mem → Prop, Qr (-10 - N0 42 j) (up M' 0 2 0) → X Qr) → Q j S V')
    (hs : ∀ C V' M', 1 ≤ C → fEn n N0 (Wv c S V') → fEm n M0 M' → DrOK (Wv c S V') M' b n C → (∀ Qr : Int → Mem → Prop, Qr n (up (up (up (up M' 0 2 0) 77 n b) 78 n C) 0 81 (n + 1)) → X Qr) → Q (-1) S V') :
    ∀ (r : Nat) (j may C : Int) (V N M : Mem), nt - 1 - j = r → 0 ≤ j → Wv c S V = N → fEn n N0 N → fEm n M0 M → AtT M (N0 41) (N0 42) (N0 43) E j → DrOK N M b n C → (may = 0 ∨ (may = 1 ∧ 1 ≤ C)) → (∀ Qr : Int → Mem → Prop, PM (e + 10) n_encode_51 [b, 61 * n, C, may, 1] M Qr → X Qr) → XJ l G bX4_readFrom Q d 10 [vr (c (128 * n + 70)), vr (c 40), vr (c (128 * b + 1)), vi may, vi j, vu] [] S V mc ms := by
  have l0 := tk.2.2.2.2.2.1
  have l1 := tk.2.2.2.2.2.2
  have nt1 : nt ≤ 3001 := by
    have a := tk.1.2.2.1
    have b := tk.1.2.2.2.2.2
    omega
  intro r
  induction r with
  | zero =>
    intro j may C V N M hr j0 hW fn fm ha dk hm rch
    obtain ⟨v', tg, ln⟩ := Wr hW
    have kj : N0 41 j = 1 := (tk.k1 j0 (by omega)).2 (by omega)
    have t := tk.t1 ha (fun i => fm 1 i (by omega) (by omega)) (fm 0 2 (by omega) (by omega)) j0 (by omega)
    have pl := t.pl
    have k3 : M 0 3 = 0 := by rw [t.k3, kj]; rfl
    have k4 := t.k4
    have m81' : M 0 81 = n := (fm 0 81 (by omega) (by omega)).trans m81
    have m2 : M 0 2 = M0 0 2 := fm 0 2 (by omega) (by omega)
    have e3 : V (c 40) 3 = nt := by rw [v' _ _ (by decide), fn _ _ (by omega) (by omega)]; exact hnt
    have e0 : V (c 40) 0 = c 41 := by rw [v' _ _ (by decide), fn _ _ (by omega) (by omega)]; exact rr.t0
    have ek : V (c 41) j = 1 := by rw [v' _ _ j0, fn _ _ (by omega) (by omega)]; exact kj
    have ec : V (c (128 * n + 70)) 1 = C := (v' _ _ (by decide)).trans dk.1
    have c0 := dk.2.1
    refine vX4_readFrom_10 ⟨by rw [tg, fn _ _ (by omega) (by omega)]; exact rr.g40, fun y => absurd y (by omega), fun _ => ?_⟩
    rw [e0, ek, ec]
    refine ⟨by rw [tg, fn _ _ (by omega) (by omega)]; exact rr.g41, j0, by rw [ln, fn _ _ (by omega) (by omega), rr.n41]; omega, fun y => absurd rfl y, fun _ => ⟨by rw [tg, fn _ _ (by omega) (by omega)]; exact rd.g, fun y => ?_, fun y => ?_⟩⟩
    · refine hf j V M j0 (by omega) (by rw [hW]; exact fn) fm (fun Qr hq => rch Qr ?_)
      refine st_encode_51 ⟨fun q => absurd q (by decide), fun _ => ⟨fun _ => ⟨fun q => absurd q (by decide), fun _ => ⟨fun q => absurd (by omega) q, fun _ => ⟨by omega, by omega, ?_⟩⟩⟩, fun q => absurd k3 q⟩⟩
      rw [k4]; exact hq
    · refine hs C V M (by omega) (by rw [hW]; exact fn) fm (by rw [hW]; exact dk) (fun Qr hq => rch Qr ?_)
      refine st_encode_51 ⟨fun q => absurd q (by decide), fun _ => ⟨fun _ => ⟨fun q => absurd q (by decide), fun _ => ⟨fun q => ⟨by omega, by omega, by omega, by omega, by omega, by omega, ?_⟩, fun q => absurd (by omega) q⟩⟩, fun q => absurd k3 q⟩⟩
      rw [m81', show n + 1 - 1 = n from by omega]; exact hq
  | succ r ih =>
    intro j may C V N M hr j0 hW fn fm ha dk hm rch
    obtain ⟨v', tg, ln⟩ := Wr hW
    have kj : N0 41 j ≠ 1 := fun y => by
      have := (tk.k1 j0 (by omega)).1 y
      omega
    have m1 : ∀ i, M 1 i = M0 1 i := fun i => fm 1 i (by omega) (by omega)
    have m2 : M 0 2 = M0 0 2 := fm 0 2 (by omega) (by omega)
    have t := tk.t1 ha m1 m2 j0 (by omega)
    have pl := t.pl
    have k3 := t.k3
    have k4 := t.k4
    have k5 := t.k5
    have rk := rkd_w t.rg
    have ne0 : M 0 3 ≠ 0 := fun y => kj (rk.2.2.1.1 (by rw [← k3]; exact y))
    have e3 : V (c 40) 3 = nt := by rw [v' _ _ (by decide), fn _ _ (by omega) (by omega)]; exact hnt
    have e0 : V (c 40) 0 = c 41 := by rw [v' _ _ (by decide), fn _ _ (by omega) (by omega)]; exact rr.t0
    have e2 : V (c 40) 2 = c 43 := by rw [v' _ _ (by decide), fn _ _ (by omega) (by omega)]; exact rr.t2
    have ek : V (c 41) j = N0 41 j := by rw [v' _ _ j0, fn _ _ (by omega) (by omega)]
    have ew : V (c 43) j = N0 43 j := by rw [v' _ _ j0, fn _ _ (by omega) (by omega)]
    have ec : V (c (128 * n + 70)) 1 = C := (v' _ _ (by decide)).trans dk.1
    have e4 : V (c (128 * n + 70)) 4 = c (128 * n + 73) := by rw [v' _ _ (by decide), fn _ _ (by omega) (by omega)]; exact rd.r4
    obtain ⟨dk1, c0, c60, dk4, dk5⟩ := id dk
    have hB' : BkR c N M b := hB.fr b0 (fun L j q => fn L j (by omega) (by omega)) (fun _ _ => rfl) (fun k j q => fm k j (by unfold bkk at q; omega) (by unfold bkk at q; omega)) (fm 0 40 (by omega) (by omega))
    have rd' : Rdr c N M n := by
      obtain ⟨a1, a2, a3, a4, a5, a6, a7, a8, a9, a10⟩ := rd
      refine ⟨?_, ?_, ?_, ?_, ?_, ?_, ?_, ?_, ?_, ?_⟩ <;> (rw [fn _ _ (by omega) (by omega)]; assumption)
    obtain ⟨z, run, hz⟩ := const_run (e := e) t hB' b0 b1
    have wfr : fEm n M (up (up M 79 (61 * n + C) z) 80 (61 * n + C) 0) := fun k i a q => by rw [up_ne (by omega), up_ne (by omega)]
    have w4 : up (up M 79 (61 * n + C) z) 80 (61 * n + C) 0 0 4 = N0 42 j := by rw [up_ne (by omega), up_ne (by omega)]; exact k4
    -- a word that can't be there
    have bad : (may = 0 ∨ M 0 3 ≠ 3) → (z = -1 ∨ 60 ≤ C) → Q j S V := fun h1 h2 => hf j V _ j0 (by omega) (by rw [hW]; exact fn) (fm.tr wfr) (fun Qr hq => rch Qr (enc_c run ne0 h1 (by omega) (by omega) c0 c60 (fun _ => enc_stop (by rw [w4]; omega) (by rw [w4]; omega) (by rw [w4]; exact hq)) (fun y y2 => by omega)))
    have nxt : ∀ M1 : Mem, fEm n M M1 → M1 0 5 = M 0 5 → ∃ M', RunM (e + 2 + 7) n_next_0 [] M1 0 M' ∧ Lxs M1 M' ∧ AtT M' (N0 41) (N0 42) (N0 43) E (j + 1) := fun M1 h h5 => by
      have f := fm.tr h
      have g1 : M1 1 = M0 1 := funext fun i => f 1 i (by omega) (by omega)
      have g2 : M1 0 2 = M0 0 2 := f 0 2 (by omega) (by omega)
      exact pm_next (n := nt) (by rw [g1, g2]; exact tk) (by rw [g1, g2]; exact hw) (by omega) (by omega) (Or.inl (by rw [h5, k5]; unfold bef; rw [if_neg (by omega), show j + 1 - 1 = j from by omega]))
    have keep : (may = 0 ∨ M 0 3 ≠ 3) → N0 41 j = 3 → Ct l G bX4_keepSignal (fun z5 S5 V5 => (z5 = 0 → Q j S5 V5) ∧ (¬ (z5 = 0) → -2147483648 ≤ j + 1 ∧ j + 1 ≤ 2147483647 ∧ XJ l G bX4_readFrom Q d 10 [vr (c (128 * n + 70)), vr (c 40), vr (c (128 * b + 1)), vi 1, vi (j + 1), vu] [] S5 V5 mc ms)) (d - 1) 0 0 [vr (c (128 * n + 70)), vr (c (128 * b + 1)), vl (N0 43 j)] S V := fun hm' kk => by
      refine ct_keepSignal hc hW hB' rd' (by omega) (by omega) (fun e1 i1 V' lt f hW' => ⟨fun y => absurd y (by decide), fun _ => ⟨by omega, by omega, ?_⟩⟩) (fun no => ⟨fun _ => bad hm' ?_, fun y => absurd rfl y⟩)
      · rw [dk1] at lt hW'
        have zz : z = 24 * (12 * b + e1) + i1 := by
          rcases hz with ⟨_, h⟩ | ⟨e', i', _, f', h⟩
          · exact absurd ⟨kk, e1, i1, f⟩ h
          · obtain ⟨rfl, rfl⟩ := f.un f'
            exact h
        have i0 := f.2.2.1
        have i1' := f.2.2.2.1
        have f1 := f.1
        have f2 := f.2.1
        obtain ⟨M', r1, r2, r3⟩ := nxt _ wfr (by rw [up_ne (by omega), up_ne (by omega)])
        have r2' : fEm n M M' := wfr.tr (fEm.lx r2)
        have q79 : ∀ i, M' 79 i = if i = 61 * n + C then z else M 79 i := fun i => by
          rw [r2 79 i (by omega), up_ne (by omega)]
          split
          · rename_i y; rw [y, up_eq]
          · rw [up_ne (by omega)]
        have q80 : ∀ i, M' 80 i = if i = 61 * n + C then 0 else M 80 i := fun i => by
          rw [r2 80 i (by omega)]
          split
          · rename_i y; rw [y, up_eq]
          · rw [up_ne (by omega), up_ne (by omega)]
        have q10 : ∀ i, M' 10 i = M 10 i := fun i => r2' 10 i (by omega) (by omega)
        have q14 : ∀ i, M' 14 i = M 14 i := fun i => r2' 14 i (by omega) (by omega)
        refine ih (j + 1) 1 (C + 1) V' _ M' (by omega) (by omega) hW' (fn.tr (nSg_fr c0)) (fm.tr r2') r3 ⟨nSg_70, by omega, by omega, fun i x y => ?_, fun i x y => ?_⟩ (Or.inr ⟨rfl, by omega⟩) (fun Qr hq => rch Qr (enc_c run ne0 hm' (by omega) (by omega) c0 c60 (fun y => by omega) (fun _ _ => r1 _ hq)))
        · rw [nSg_71, nSg_72, q79, q10, q14]
          by_cases y' : i = C
          · subst y'
            rw [if_pos rfl, if_pos rfl, if_pos rfl]
            exact ⟨zz.symm, f1, f2, i0, i1'⟩
          · rw [if_neg y', if_neg y', if_neg (by omega)]
            exact dk4 i x (by omega)
        · rw [nSg_73, q80]
          by_cases y' : i = C
          · subst y'
            rw [if_pos rfl, if_pos rfl]
            exact ⟨rfl, by decide, by decide⟩
          · rw [if_neg y', if_neg (by omega)]
            exact dk5 i x (by omega)
      · by_cases y : 60 ≤ C
        · exact Or.inr y
        · rcases hz with ⟨h, _⟩ | ⟨e', i', _, f', h⟩
          · exact Or.inl h
          · exact absurd (no (by omega)) (fun q => f'.nn q)
    have z3 : N0 41 j ≠ 3 → z = -1 := fun q => by
      rcases hz with ⟨h, _⟩ | ⟨e', i', h, _⟩
      · exact h
      · exact absurd h q
    have m3 : N0 41 j ≠ 2 → M 0 3 ≠ 3 := fun q y => q (rk.2.2.2.1.1 (by rw [← k3]; exact y))
    refine vX4_readFrom_10 ⟨by rw [tg, fn _ _ (by omega) (by omega)]; exact rr.g40, fun y => absurd y (by omega), fun _ => ?_⟩
    rw [e0, e2, e4, ek, ew, ec]
    refine ⟨by rw [tg, fn _ _ (by omega) (by omega)]; exact rr.g41, j0, by rw [ln, fn _ _ (by omega) (by omega), rr.n41]; omega, fun _ => ⟨fun k2 => ⟨fun k3' => bad (Or.inr (m3 k2)) (Or.inl (z3 k3')), fun k3' => ⟨by rw [tg, fn _ _ (by omega) (by omega)]; exact rr.g43, by rw [ln, fn _ _ (by omega) (by omega), rr.n43]; omega, by rw [tg, fn _ _ (by omega) (by omega)]; exact rd.g, CT.im (by omega) (fun d1 hd1 => ?_)⟩⟩, fun k2 => ⟨fun m0 => ⟨fun k3' => bad (Or.inl m0) (Or.inl (z3 k3')), fun k3' => absurd (by omega) k3'⟩, fun m0 => ?_⟩⟩, fun y => absurd kj y⟩
    · have := keep (Or.inr (m3 k2)) (Classical.not_not.1 k3')
      rw [show d - 1 = d1 from by omega] at this
      exact this
    · have k2 := Classical.not_not.1 k2
      have c1 : may = 1 ∧ 1 ≤ C := hm.resolve_left m0
      have mm3 : M 0 3 = 3 := by rw [k3, rk.2.2.2.1]; exact k2
      have m6 : M 0 6 = N0 43 j := ha.2.2.2 k2
      have wn : 0 ≤ N0 43 j ∧ N0 43 j ≤ 999999999 := by
        have ts := (tk.1.1 j j0 (by omega)).1
        rw [k2] at ts
        exact tok_num ts
      rw [wr_idn wn.1 (by omega)]
      obtain ⟨rfl, c1⟩ := c1
      have wfr2 : fEm n M (up M 80 (61 * n + C - 1) (M 0 6)) := fun k i a q => by rw [up_ne (by omega)]
      obtain ⟨M', r1, r2, r3⟩ := nxt _ wfr2 (by rw [up_ne (by omega)])
      have r2' : fEm n M M' := wfr2.tr (fEm.lx r2)
      refine ⟨by rw [tg, fn _ _ (by omega) (by omega)]; exact rd.g, by omega, by omega, by rw [tg, fn _ _ (by omega) (by omega)]; exact rr.g43, by rw [ln, fn _ _ (by omega) (by omega), rr.n43]; omega, by rw [tg, fn _ _ (by omega) (by omega)]; exact rd.g73, by omega, by rw [ln, fn _ _ (by omega) (by omega), rd.n73]; omega, by omega, by omega, ?_⟩
      refine ih (j + 1) 0 C _ (up N (128 * n + 73) (C - 1) (N0 43 j)) M' (by omega) (by omega) (by rw [Wv_up hc (by omega), hW]) (fun L k a q => by rw [up_ne (by omega)]; exact fn L k a q) (fm.tr r2') r3 ⟨by rw [up_ne (by omega)]; exact dk1, c0, c60, fun i x y => ?_, fun i x y => ?_⟩ (Or.inl rfl) (fun Qr hq => rch Qr (st_encode_51 ⟨fun q => absurd q (by decide), fun _ => ⟨fun q => absurd q ne0, fun _ => ⟨fun q => absurd q (by decide), fun _ => ⟨fun q => absurd mm3 q, fun _ => ⟨by omega, by omega, by omega, by omega, by omega, by omega, fun q => absurd q (by decide), fun _ => r1 _ hq⟩⟩⟩⟩⟩))
      · rw [up_ne (by omega), up_ne (by omega), r2' 10 _ (by omega) (by omega), r2' 14 _ (by omega) (by omega), r2 79 _ (by omega), up_ne (by omega)]
        exact dk4 i x y
      · rw [r2 80 _ (by omega)]
        by_cases y' : i = C - 1
        · subst y'
          rw [up_eq, show 61 * n + (C - 1) = 61 * n + C - 1 from by omega, up_eq, m6]
          exact ⟨rfl, wn⟩
        · rw [up_ne (by omega), up_ne (by omega)]
          exact dk5 i x y
end ENL

