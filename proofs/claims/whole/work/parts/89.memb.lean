/-! ===== book: a member's word and its new name ===== -/
section MBR
variable {l : Launch} {G : GT} {c c0 : Int → Int} {S : Sh} {V N M gm N0 M0 : Mem} {Q : Int → Sh → Mem → Prop} {d mc ms ee : Nat} {ow eo cs K P W E : Int → Int} {nt b B st j ln e nc nu nk nh ns cb pc : Int}
set_option maxHeartbeats 1000000 in
theorem ct_mem {mu : Mem → Mem} (hc : Cn c S) (hW : Wv c S V = N) (h : RDI c N M gm ow eo cs K P W E nt b B st j ln e nc nu nk nh ns cb 0) (k1 : K j ≠ 1) (hd : 4 ≤ d) (he : 12 ≤ ee) (mu0 : ∀ M i, 2 ≤ i ∧ i ≤ 6 → mu M 0 i = M 0 i) (mu1 : ∀ M i, mu M 1 i = M 1 i)
    (hok : ∀ V2 M1 M2, Wv c S V2 = nPs (nNn (nPs N (j + 1) (K (j + 1)) (W (j + 1))) (W (j + 1))) (j + 1 + 1) (K (j + 1 + 1)) (W (j + 1 + 1)) → TS c (nPs (nNn (nPs N (j + 1) (K (j + 1)) (W (j + 1))) (W (j + 1))) (j + 1 + 1) (K (j + 1 + 1)) (W (j + 1 + 1))) M2 K P W E nt (j + 1 + 1) → Lxs M M1 → RunM ee n_next_0 [] M 0 M1 → RunM ee n_tells_0 [] M1 0 M1 → RunM ee n_newName_0 [0] M1 (nmv P E b (j + 1)) M1 → Lxs (mu M1) M2 → RunM ee n_next_0 [] (mu M1) 0 M2 → K (j + 1) = 3 → j + 1 + 1 < nt → NR M (W (j + 1)) (nmv P E b (j + 1)) ∧ nmv P E b (j + 1) / 16 + nmv P E b (j + 1) % 16 ≤ 3000 * (b + 1) → ¬ KNP N M (12 * b + e) (W (j + 1)) → Q 1 S V2)
    (hbad : ∀ V' M1 M' z, (∀ L k, ¬ (L = 50 ∧ 6 ≤ k ∧ k ≤ 11) → Wv c S V' L k = N L k) → (∀ k i, ¬ (k = 0 ∧ ((3 ≤ i ∧ i ≤ 6) ∨ i = 46 ∨ i = 47)) → M' k i = M k i) → FTS (Wv c S V') M' → RunM ee n_next_0 [] M 0 M1 → RunM ee n_tells_0 [] M1 z M1 → RunM ee n_newName_0 [z] M1 (-1) M' → Q 0 S V') : Ct l G bX5_acceptMember Q d mc ms [vr (c 50), vi 1] S V := by
  obtain ⟨e0, e1, b0, b1, B0, B1⟩ := h.bd
  have ls := h.ls
  have ts := ls.ts
  have hE := h.he
  have w0 := ls.w
  obtain ⟨ya, yb, yc, yd, ye, yf, yg⟩ := ts.x hW
  refine qX5_acceptMember fun _ _ => vX5_acceptMember_0 ⟨yf, CT.im (by omega) (fun d1 hd1 => ct_pass (e := ee) hc hW ts k1 (by omega) (by omega) (fun V1 M1 hW1 ts1 lx1 rn1 => ⟨fun y => absurd y (by decide), fun _ => ?_⟩))⟩
  have n1 : ∀ L k, ¬ (L = 50 ∧ 6 ≤ k ∧ k ≤ 8) → nPs N (j + 1) (K (j + 1)) (W (j + 1)) L k = N L k := fun L k q => nPs_ne q
  have m1 : ∀ k i, ¬ (k = 0 ∧ 3 ≤ i ∧ i ≤ 6) → M1 k i = M k i := lx1
  obtain ⟨v1, tg1, ln1⟩ := Wr hW1
  have z4 : V1 (c 50) 4 = c (128 * (12 * b + e) + 3) := by rw [v1 _ _ (by decide), n1 _ _ (by omega)]; exact h.cu
  have zx := ts1.x hW1
  have lt1 := ts.lt k1
  have h1 : RDI c (nPs N (j + 1) (K (j + 1)) (W (j + 1))) M1 gm ow eo cs K P W E nt b B st (j + 1) ln e nc nu nk nh ns cb 0 := h.tk (ls.fr ts1 ((n1 _ _ (by omega)).trans ls.sv) ((n1 _ _ (by omega)).trans ls.lv) (fun i _ _ => n1 _ _ (by omega)) (by omega) (m1 _ _ (by omega)) (m1 _ _ (by omega)) ((m1 _ _ (by omega)).trans w0) ((n1 _ _ (by omega)).trans ls.f) (m1 _ _ (by omega)) (m1 _ _ (by omega))) (fun L k q => n1 L k (by omega)) (fun k i q => m1 k i q)
  have hE1 := h1.he
  have nrj : 3 ≤ K (j + 1) → K (j + 1) ≤ 15 → NR M1 (W (j + 1)) (nmv P E b (j + 1)) ∧ nmv P E b (j + 1) / 16 + nmv P E b (j + 1) % 16 ≤ 3000 * (b + 1) := fun q1 q2 => ts1.nr b0 b1 h1.tx q1 q2
  obtain ⟨z, rt, hz⟩ := rn_tells (e := ee) ts1 h1.ls.g41 (by omega) (by omega) hE1.nc1 hE1.nt1 hE1.nh1 hE1.nw1 h1.ens h1.ls.b9 b0 b1 (fun q1 q2 => (nrj q1 q2).1) (by omega)
  have kn : KNP (nPs N (j + 1) (K (j + 1)) (W (j + 1))) M1 (12 * b + e) (W (j + 1)) ↔ KNP N M (12 * b + e) (W (j + 1)) := by
    have f1 : cnm (nPs N (j + 1) (K (j + 1)) (W (j + 1))) (12 * b + e) = cnm N (12 * b + e) := funext fun i => n1 _ _ (by omega)
    have f2 : tnm (nPs N (j + 1) (K (j + 1)) (W (j + 1))) (12 * b + e) = tnm N (12 * b + e) := funext fun i => n1 _ _ (by omega)
    have f3 : nPs N (j + 1) (K (j + 1)) (W (j + 1)) (128 * (12 * b + e) + 13) = N (128 * (12 * b + e) + 13) := funext fun i => n1 _ _ (by omega)
    have f4 : snm (nPs N (j + 1) (K (j + 1)) (W (j + 1))) (12 * b + e) = snm N (12 * b + e) := funext fun i => n1 _ _ (by omega)
    unfold KNP
    rw [f1, f2, f3, f4, m1 _ _ (by omega), m1 _ _ (by omega), m1 _ _ (by omega), m1 _ _ (by omega)]
  have w1 := h1.ls.w
  -- refused
  have bad : ∀ (kk f : Int), (K (j + 1) ≠ 3 ∧ f = 2) ∨ (K (j + 1) = 3 ∧ kk ≠ 0 ∧ f = 3) → (K (j + 1) = 3 → z ≠ 0) → CT l G bX5_acceptNew d mc ms [vr (c 50), vi kk, vi 1] S V1 (fun z6 S6 V6 mc6 ms6 => (z6 = 0 → Q 0 S6 V6) ∧ (¬ (z6 = 0) → Q 1 S6 V6)) := by
    intro kk f hf hz1
    have fpos : 0 < (if K (j + 1) = 0 then 1 else f) := ftp (by omega)
    have nf : (K (j + 1) ≠ 3 ∧ f = 2) ∨ (K (j + 1) = 3 ∧ z ≠ 0 ∧ f = 3) := by
      rcases hf with q | q
      · exact Or.inl q
      · exact Or.inr ⟨q.1, hz1 q.1, q.2.2⟩
    have hf' : (K (j + 1) ≠ 3 ∧ f = 2) ∨ (K (j + 1) = 3 ∧ kk ≠ 0 ∧ f = 3) ∨ (K (j + 1) = 3 ∧ kk = 0 ∧ (1 : Int) = 0 ∧ f = 5) := by
      rcases hf with q | q
      · exact Or.inl q
      · exact Or.inr (Or.inl q)
    refine CT.im (by omega) (fun d2 hd2 => ct_new0 (f := f) hc hW1 ts1 hf' (by omega) (fun V2 hV2 => ⟨fun _ => ?_, fun y => absurd rfl y⟩))
    refine hbad V2 M1 (mFt M1 (if K (j + 1) = 0 then 1 else f) (P (j + 1))) z (fun L k q => ?_) (fun k i q => (mFt_ne (by omega)).trans (m1 k i (by omega))) ?_ rn1 rt (ts1.new0 nf w1 (by omega))
    · rcases hV2 with hV2 | hV2
      · rw [hV2, nFt_ne (by omega)]; exact n1 L k (by omega)
      · rw [hV2, nFt_ne (by omega), nNn_ne (by omega)]; exact n1 L k (by omega)
    · rcases hV2 with hV2 | hV2
      · rw [hV2]; exact FTS.ft fpos
      · rw [hV2]; exact FTS.ft fpos
  rw [z4, zx.2.1]
  refine ⟨yf, by rw [tg1, n1 _ _ (by omega)]; exact hE.tg, CT.pu (by omega) (fun d2 hd2 => ct_knows hW1 hE1 (by omega) (fun kp => ⟨rfl, rfl, yf, ?_⟩) (fun kp => ⟨rfl, rfl, yf, ?_⟩))⟩
  · by_cases k3 : K (j + 1) = 3
    · exact bad 1 3 (Or.inr ⟨k3, by decide, rfl⟩) (fun q => by rw [((hz q).1 kp)]; decide)
    · exact bad 1 2 (Or.inl ⟨k3, rfl⟩) (fun q => absurd q k3)
  · by_cases k3 : K (j + 1) = 3
    · have z0 := (hz k3).2 kp
      subst z0
      have ts2 : TS c (nPs N (j + 1) (K (j + 1)) (W (j + 1))) (mu M1) K P W E nt (j + 1) := ts1.fr (fun _ _ => rfl) (fun _ _ _ => rfl) (fun i hi => mu0 M1 i hi) (fun i => mu1 M1 i)
      have nr := nrj (by omega) (by omega)
      refine CT.im (by omega) (fun d3 hd3 => ct_new1 (e := ee) hc hW1 ts2 k3 (by omega) (by omega) (fun V2 M2 hW2 ts3 lx3 rn3 => ⟨fun y => absurd y (by decide), fun _ => hok V2 M1 M2 hW2 ts3 lx1 rn1 rt (ts1.new1 k3 w1 h1.ls.b9 b0 b1 (by omega)) lx3 rn3 k3 (ts1.lt (by omega)) ⟨nr.1.m7 (fun i => (m1 _ _ (by omega)).symm), nr.2⟩ (fun q => kp (kn.2 q))⟩))
    · exact bad 0 2 (Or.inl ⟨k3, rfl⟩) (fun q => absurd q k3)
end MBR
