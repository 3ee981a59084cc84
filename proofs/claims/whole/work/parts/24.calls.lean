/-! ===== calls that change a little ===== -/
def bkk (k : Int) : Prop := k = 7 ∨ (10 ≤ k ∧ k ≤ 39) ∨ (52 ≤ k ∧ k ≤ 62)
theorem BkR.fr {c c' : Int → Int} {N N' M M' : Mem} {b : Int} (h : BkR c N M b) (b0 : 0 ≤ b) (hN : ∀ L j, L % 128 < 30 ∨ L = 62 → N' L j = N L j) (hc : ∀ L, L % 128 < 30 → c' L = c L) (hM : ∀ k j, bkk k → M' k j = M k j) : BkR c' N' M' b := by
  have m10 : ∀ j, M' 10 j = M 10 j := fun j => hM 10 j (by unfold bkk; omega)
  have m14 : ∀ j, M' 14 j = M 14 j := fun j => hM 14 j (by unfold bkk; omega)
  have m15 : ∀ j, M' 15 j = M 15 j := fun j => hM 15 j (by unfold bkk; omega)
  have m18 : ∀ j, M' 18 j = M 18 j := fun j => hM 18 j (by unfold bkk; omega)
  refine ⟨?_, fun e e0 e1 => ?_, trivial⟩
  · apply Rbk.fr h.bk <;> intros <;> first | exact hN _ _ (by omega) | exact hM _ _ (by unfold bkk; omega) | exact hc _ (by omega)
  · rw [m10] at e1
    have k := h.be e0 e1
    refine ⟨?_, fun i i0 i1 => ?_, fun i i0 i1 => ?_, fun i i0 i1 => ?_⟩
    · apply Ren.fr k.en <;> intros <;> first | exact hN _ _ (by omega) | exact hM _ _ (by unfold bkk; omega) | exact hc _ (by omega) | exact funext fun _ => hM _ _ (by unfold bkk; omega)
    · rw [m14] at i1
      apply Rcn.fr (k.cn i0 i1) <;> intros <;> first | exact hN _ _ (by omega) | exact hM _ _ (by unfold bkk; omega) | exact hc _ (by omega) | exact funext fun _ => hM _ _ (by unfold bkk; omega)
    · rw [m15] at i1
      apply Rtb.fr (k.tb i0 i1) <;> intros <;> first | exact hN _ _ (by omega) | exact hM _ _ (by unfold bkk; omega) | exact hc _ (by omega)
    · rw [m18] at i1
      apply Rsw.fr (k.sw i0 i1) <;> intros <;> first | exact hN _ _ (by omega) | exact hM _ _ (by unfold bkk; omega) | exact hc _ (by omega)

theorem MR.lab {m : Int} {a c : Int → Int} {S S' : Sh} {V V' M : Mem} (mr : MR m a S V M) (hm : c 80 = m) (ha : ∀ k, mt k ≠ 0 → c (128 * k + 81) = a k) (hS : ∀ L, L = 80 ∨ L % 128 = 81 → S'.1 (c L) = S.1 (c L) ∧ S'.2.1 (c L) = S.2.1 (c L)) (hV : ∀ L j, L = 80 ∨ L % 128 = 81 → V' (c L) j = V (c L) j) : MR m a S' V' M := by
  subst hm
  refine ⟨(hS 80 (by omega)).1.trans mr.1, fun k hk => (hV 80 k (by omega)).trans (mr.2.1 k hk), fun k hk => ?_, mr.2.2.2⟩
  obtain ⟨h1, h2, h3, h4⟩ := mr.2.2.1 k hk
  rw [← ha k hk] at h1 h2 h3 h4 ⊢
  have e := hS (128 * k + 81) (by omega)
  exact ⟨(hV 80 k (by omega)).trans h1, e.1.trans h2, e.2.trans h3, fun j => (hV _ j (by omega)).trans (h4 j)⟩
theorem call_upd {B : BT} {id : Nat} {cas : List AV} {as : List Int} (h : ∀ (l : Launch) (G : GT) (c : Int → Int) (S : Sh) (V M : Mem) (Q : Int → Sh → Mem → Prop), Cn c S → Rel c (Wv c S V) M → (∀ z V' M', RunM 2047 id as M z M' → (∀ L j, L = 80 ∨ L % 128 = 81 → V' (c L) j = V (c L) j) → Rel c (Wv c S V') M' → M' 0 2 ≤ M 0 2 + 2775 → Q z S V') → Ct l G B Q 2047 0 0 (vr (c 60) :: cas) S V) : CallOK CI B id cas as := by
  intro l G x m a S V M mr ci
  obtain ⟨c, hc, hx, hm, ha, hR⟩ := ci
  subst hx
  have e1 : V (c 60) 1 = M 0 2 := hR.top.vtl
  have e2 := hR.top.tl0
  refine ⟨0, 0, by decide, by omega, h l G c S V M _ hc hR (fun z V' M' hrun hV hR' ht => ?_)⟩
  have e3 : V' (c 60) 1 = M' 0 2 := hR'.top.vtl
  exact ⟨M', hrun, mr.lab hm ha (fun _ _ => ⟨rfl, rfl⟩) hV, ⟨c, hc, rfl, hm, ha, hR'⟩, by omega⟩
theorem upc_ne {c : Int → Int} {S : Sh} {V : Mem} {L L' j j' x : Int} (hc : Cn c S) (h : L' ≠ L ∨ j' ≠ j) : up V (c L) j x (c L') j' = V (c L') j' := up_ne (h.elim (fun q => Or.inl (fun e => q (hc.1 _ _ e))) Or.inr)

theorem Rel.cut {c : Int → Int} {N M : Mem} {n : Int} (h : Rel c N M) (n0 : 0 ≤ n) (n1 : n ≤ M 0 2) : Rel c (up N 60 1 n) (up M 0 2 n) := by
  have q := h.top
  have q1 := q.tl1
  refine ⟨?_, ?_, ?_, fun s s0 s1 => ?_, fun s s0 s1 => ?_, fun s s0 s1 => ?_, fun s s0 s1 => ?_, fun s s0 s1 => ?_⟩
  ·
    refine ⟨?_, ?_, ?_, ?_, ?_, ?_, ?_, ?_, ?_, ?_, ?_, ?_, ?_, ?_, ?_, ?_, ?_, ?_, ?_, ?_, ?_, ?_, ?_, ?_, ?_, ?_, ?_, ?_, ?_, ?_, ?_, ?_, ?_, ?_, ?_, ?_, ?_, ?_⟩
    · have w := q.g60
      try simp (disch := omega) only [up_eq, up_ne]
      exact w
    · have w := q.g61
      try simp (disch := omega) only [up_eq, up_ne]
      exact w
    · have w := q.n61
      try simp (disch := omega) only [up_eq, up_ne]
      exact w
    · have w := q.g62
      try simp (disch := omega) only [up_eq, up_ne]
      exact w
    · have w := q.n62
      try simp (disch := omega) only [up_eq, up_ne]
      exact w
    · have w := q.g63
      try simp (disch := omega) only [up_eq, up_ne]
      exact w
    · have w := q.n63
      try simp (disch := omega) only [up_eq, up_ne]
      exact w
    · have w := q.g64
      try simp (disch := omega) only [up_eq, up_ne]
      exact w
    · have w := q.n64
      try simp (disch := omega) only [up_eq, up_ne]
      exact w
    · have w := q.g65
      try simp (disch := omega) only [up_eq, up_ne]
      exact w
    · have w := q.n65
      try simp (disch := omega) only [up_eq, up_ne]
      exact w
    · have w := q.r0
      try simp (disch := omega) only [up_eq, up_ne]
      exact w
    · have w := q.r2
      try simp (disch := omega) only [up_eq, up_ne]
      exact w
    · have w := q.r3
      try simp (disch := omega) only [up_eq, up_ne]
      exact w
    · have w := q.r4
      try simp (disch := omega) only [up_eq, up_ne]
      exact w
    · have w := q.r5
      try simp (disch := omega) only [up_eq, up_ne]
      exact w
    · have w := q.r9
      try simp (disch := omega) only [up_eq, up_ne]
      exact w
    · have w := q.r11
      try simp (disch := omega) only [up_eq, up_ne]
      exact w
    · have w := q.r13
      try simp (disch := omega) only [up_eq, up_ne]
      exact w
    · have w := q.r15
      try simp (disch := omega) only [up_eq, up_ne]
      exact w
    · rw [up_eq, up_eq]
    · rw [up_eq]; exact n0
    · rw [up_eq]; omega
    · intro j j0 j1
      rw [up_eq] at j1
      rw [up_ne (by omega), up_ne (by omega)]
      exact q.tb j j0 (by omega)
    · have w := q.nb
      try simp (disch := omega) only [up_eq, up_ne]
      exact w
    · have w := q.nb0
      try simp (disch := omega) only [up_eq, up_ne]
      exact w
    · have w := q.nb1
      try simp (disch := omega) only [up_eq, up_ne]
      exact w
    · have w := q.lf
      try simp (disch := omega) only [up_eq, up_ne]
      exact w
    · have w := q.lo
      try simp (disch := omega) only [up_eq, up_ne]
      exact w
    · have w := q.ns
      try simp (disch := omega) only [up_eq, up_ne]
      exact w
    · have w := q.ns0
      try simp (disch := omega) only [up_eq, up_ne]
      exact w
    · have w := q.ns1
      try simp (disch := omega) only [up_eq, up_ne]
      exact w
    · have w := q.nm
      try simp (disch := omega) only [up_eq, up_ne]
      exact w
    · have w := q.nm0
      try simp (disch := omega) only [up_eq, up_ne]
      exact w
    · have w := q.nm1
      try simp (disch := omega) only [up_eq, up_ne]
      exact w
    · have w := q.ng
      try simp (disch := omega) only [up_eq, up_ne]
      exact w
    · have w := q.ng0
      try simp (disch := omega) only [up_eq, up_ne]
      exact w
    · have w := q.ng1
      try simp (disch := omega) only [up_eq, up_ne]
      exact w
  · apply Rwk.fr h.wk <;> intros <;> first | rfl | exact up_ne (by omega) | exact funext fun _ => up_ne (by omega)
  · apply Rrd.fr h.rd <;> intros <;> first | rfl | exact up_ne (by omega) | exact funext fun _ => up_ne (by omega)
  · rw [up_ne (by omega)] at s1
    apply Rst.fr (h.st s0 s1) <;> intros <;> first | rfl | exact up_ne (by omega) | exact funext fun _ => up_ne (by omega)
  · rw [up_ne (by omega)] at s1
    apply Rmp.fr (h.mp s0 s1) <;> intros <;> first | rfl | exact up_ne (by omega) | exact funext fun _ => up_ne (by omega)
  · rw [up_ne (by omega)] at s1
    apply Rdr.fr (h.dr s0 s1) <;> intros <;> first | rfl | exact up_ne (by omega) | exact funext fun _ => up_ne (by omega)
  · rw [up_ne (by omega)] at s1
    apply Rms.fr (h.ms s0 s1) <;> intros <;> first | rfl | exact up_ne (by omega) | exact funext fun _ => up_ne (by omega)
  · rw [up_ne (by omega)] at s1
    exact (h.bk s0 s1).fr s0 (fun L j hL => up_ne (by omega)) (fun _ _ => rfl) (fun k j hk => up_ne (by unfold bkk at hk; omega))

theorem call_cut (n : Int) : CallOK CI bX11_cut n_cut_0 [vi n] [n] := call_upd fun l G c S V M Q hc hR hk => qX11_cut fun _ _ => vX11_cut_0 <| by
  have t := hR.top
  have t0 := t.tl0
  have u : ∀ V' M' z, V' = V → M' = M → RunM 2047 n_cut_0 [n] M z M → Q z S V := fun V' M' z _ _ hr => hk z V M hr (fun _ _ _ => rfl) hR (by omega)
  simp only [t.vg60, t.vtl]
  refine ⟨fun _ => u V M _ rfl rfl (fun Q hq => ?_), fun _ => ⟨trivial, fun _ => hk _ _ (up M 0 2 n) (fun Q hq => ?_) (fun L j hL => upc_ne hc (by omega)) ?_ (by rw [up_eq]; omega), fun _ => u V M _ rfl rfl (fun Q hq => ?_)⟩⟩
  rotate_left 2
  · rw [Wv_up hc (by decide)]
    exact hR.cut (by omega) (by omega)
  all_goals
    refine st_cut_0 ?_
    unfold B_cut_0
    repeat' (first | exact hq | assumption | refine ⟨?_, ?_⟩ | intro _ | omega)

