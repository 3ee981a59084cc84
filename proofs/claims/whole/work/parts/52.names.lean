/-! ===== names ===== -/
theorem rnk_bd (s : Int) : 0 ≤ rnk s ∧ rnk s ≤ 62 := by unfold rnk; split <;> (try split) <;> (try split) <;> omega
theorem alp_rnk {s : Int} (h : 1 ≤ rnk s) : alp (rnk s) = s := by
  unfold rnk at *
  split at h
  · rename_i q; rw [if_pos q]; unfold alp; rw [if_pos (by omega)]; omega
  · rename_i q
    split at h
    · rename_i q2; rw [if_neg q, if_pos q2]; unfold alp; rw [if_neg (by omega), if_pos (by omega)]; omega
    · rename_i q2
      split at h
      · rename_i q3; rw [if_neg q, if_neg q2, if_pos q3]; unfold alp; rw [if_neg (by omega), if_neg (by omega)]; omega
      · omega
theorem rnk_rng {s : Int} (h : 1 ≤ rnk s) : 48 ≤ s ∧ s ≤ 122 := by
  unfold rnk at h
  split at h
  · omega
  · split at h
    · omega
    · split at h
      · omega
      · omega
theorem js_alp : ∀ k : Nat, k < 62 → js_b 2 k = alp ((k : Int) + 1) := by decide
theorem pkd_succ {f : Int → Int} {n : Nat} {p : Int} : pkd f (n + 1) p = 64 * pkd f n p + f (p + n) := rfl
theorem pkd_nn {f : Int → Int} {p : Int} : ∀ n : Nat, (∀ k : Int, 0 ≤ k → k < n → 0 ≤ f (p + k)) → 0 ≤ pkd f n p := by
  intro n
  induction n with
  | zero => intro _; exact Int.le_refl _
  | succ n ih =>
    intro h
    rw [pkd_succ]
    have := ih (fun k a b => h k a (by omega))
    have := h n (by omega) (by omega)
    omega
theorem pkd_pos {f : Int → Int} {p : Int} {n : Nat} (h0 : 1 ≤ n) (h : ∀ k : Int, 0 ≤ k → k < n → 1 ≤ f (p + k)) : 1 ≤ pkd f n p := by
  obtain ⟨m, rfl⟩ : ∃ m, n = m + 1 := ⟨n - 1, by omega⟩
  rw [pkd_succ]
  have := pkd_nn (f := f) (p := p) m (fun k a b => by have := h k a (by omega); omega)
  have := h m (by omega) (by omega)
  omega
theorem pkd_bd {f : Int → Int} {p : Int} (hf : ∀ k, f k ≤ 62) : ∀ n : Nat, n ≤ 10 → (n = 0 → pkd f n p ≤ 0) ∧ (n ≤ 1 → pkd f n p < 64) ∧ (n ≤ 2 → pkd f n p < 4096) ∧ (n ≤ 3 → pkd f n p < 262144) ∧ (n ≤ 4 → pkd f n p < 16777216) ∧ (n ≤ 5 → pkd f n p < 1073741824) ∧ (n ≤ 6 → pkd f n p < 68719476736) ∧ (n ≤ 7 → pkd f n p < 4398046511104) ∧ (n ≤ 8 → pkd f n p < 281474976710656) ∧ (n ≤ 9 → pkd f n p < 18014398509481984) ∧ pkd f n p < 1152921504606846976 := by
  intro n
  induction n with
  | zero => intro _; show _ ∧ _; have e : pkd f 0 p = 0 := rfl; rw [e]; omega
  | succ n ih =>
    intro hn
    have k := ih (by omega)
    have := hf (p + n)
    rw [pkd_succ]
    omega
theorem pkd_div {f : Int → Int} {p : Int} {n : Nat} (h : 0 ≤ f (p + n)) (h2 : f (p + n) < 64) : pkd f (n + 1) p / 64 = pkd f n p ∧ pkd f (n + 1) p % 64 = f (p + n) := by
  rw [pkd_succ]
  omega
theorem pkd_sh {f : Int → Int} {p : Int} {j : Nat} : ∀ i : Nat, (∀ k : Int, 0 ≤ k → k < (j + i : Nat) → 0 ≤ f (p + k) ∧ f (p + k) < 64) → pkd f (j + i) p / 2 ^ (6 * i) = pkd f j p := by
  intro i
  induction i with
  | zero =>
    intro _
    show pkd f j p / 2 ^ 0 = _
    simp
  | succ i ih =>
    intro h
    have k := ih (fun k a b => h k a (by omega))
    have q := pkd_div (f := f) (p := p) (n := j + i) (h (j + i : Nat) (by omega) (by omega)).1 (h (j + i : Nat) (by omega) (by omega)).2
    have e : (2 : Int) ^ (6 * (i + 1)) = 64 * 2 ^ (6 * i) := by
      rw [show 6 * (i + 1) = 6 * i + 6 from by omega, Int.pow_add, Int.mul_comm]
      rfl
    rw [e, ← Int.ediv_ediv_of_nonneg (by decide), show j + (i + 1) = j + i + 1 from rfl, q.1]
    exact k
section NAMES
variable {l : Launch} {G : GT} {Q : Int → Sh → Mem → Prop} {S : Sh} {V M : Mem} {d mc ms : Nat} {v n : Int}
theorem len_loop {f : Int → Int} {p : Int} (hf : ∀ k, f k ≤ 62) : ∀ (j : Nat) (i : Int), j ≤ 10 → 0 ≤ i → i + j ≤ 100 → (∀ k : Int, 0 ≤ k → k < j → 1 ≤ f (p + k)) → Q (i + j) S V → XJ l G bX9_lengthOfName Q d 4 [vl v, vu, vi i, vl (pkd f j p), vu] [] S V mc ms := by
  intro j
  induction j with
  | zero =>
    intro i _ i0 i1 h hq
    exact vX9_lengthOfName_4 ⟨fun _ => by simpa using hq, fun z => absurd (Int.le_refl _) z⟩
  | succ j ih =>
    intro i hj i0 i1 h hq
    have pp := pkd_pos (f := f) (p := p) (n := j + 1) (by omega) h
    have bd := (pkd_bd (f := f) (p := p) hf (j + 1) hj).2.2.2.2.2.2.2.2.2.2
    have q := pkd_div (f := f) (p := p) (n := j) (by have := h j (by omega) (by omega); omega) (by have := hf (p + j); omega)
    refine vX9_lengthOfName_4 ⟨fun z => absurd z (by omega), fun _ => ⟨by omega, by omega, ?_⟩⟩
    have e : lUshr (pkd f (j + 1) p) 6 = pkd f j p := by
      rw [lUshr_pos (by omega) (by omega) (by decide) (by decide)]
      exact q.1
    rw [e]
    refine ih (i + 1) (by omega) (by omega) (by omega) (fun k a b => h k a (by omega)) ?_
    rw [show i + 1 + (j : Int) = i + ((j + 1 : Nat) : Int) from by omega]
    exact hq
theorem ct_lengthOfName (hn : NR M v n) (hq : Q (n % 16) S V) : Ct l G bX9_lengthOfName Q d mc ms [vl v] S V := by
  obtain ⟨n0, n1, n10, np, hr, hv⟩ := hn
  refine qX9_lengthOfName fun _ => vX9_lengthOfName_0 ?_
  have k := len_loop (l := l) (G := G) (Q := Q) (S := S) (V := V) (d := d) (mc := mc) (ms := ms) (v := v) (f := fun p => rnk (M 7 p)) (p := n / 16) (fun k => (rnk_bd _).2) (n % 16).toNat 0 (by omega) (by decide) (by omega) (fun k a b => hr k a (by omega)) (by rw [show (0 : Int) + ((n % 16).toNat : Nat) = n % 16 from by omega]; exact hq)
  rw [← hv] at k
  exact k
theorem ct_signOfName {k : Int} (hn : NR M v n) (k0 : 0 ≤ k) (k1 : k < n % 16) (hd : 6 ≤ d) (hq : Q (M 7 (n / 16 + k)) S V) : Ct l G bX9_signOfName Q d mc ms [vl v, vi k] S V := by
  have hn' := hn
  obtain ⟨n0, n1, n10, np, hr, hv⟩ := hn
  refine qX9_signOfName fun _ _ => vX9_signOfName_0 <| CT.pu (by omega) (fun d1 hd1 => ct_lengthOfName hn' ⟨rfl, rfl, by omega, by omega, by omega, by omega, by omega, by omega, ?_⟩)
  have rb := rnk_bd (M 7 (n / 16 + k))
  have rk := hr k k0 k1
  have e : bAnd (wr (lUshr v (6 * (n % 16 - 1 - k)))) 63 = rnk (M 7 (n / 16 + k)) := by
    have nn := pkd_nn (f := fun p => rnk (M 7 p)) (p := n / 16) (n % 16).toNat (fun k a b => (rnk_bd _).1)
    have bd := (pkd_bd (f := fun p => rnk (M 7 p)) (p := n / 16) (fun k => (rnk_bd _).2) (n % 16).toNat (by omega)).2.2.2.2.2.2.2.2.2.2
    rw [← hv] at nn bd
    rw [lUshr_pos nn (by omega) (by omega) (by omega), show (6 * (n % 16 - 1 - k)).toNat = 6 * (n % 16 - 1 - k).toNat from by omega]
    have sh := pkd_sh (f := fun p => rnk (M 7 p)) (p := n / 16) (j := k.toNat + 1) (n % 16 - 1 - k).toNat (fun q a b => ⟨(rnk_bd _).1, by have := (rnk_bd (M 7 (n / 16 + q))).2; omega⟩)
    rw [show k.toNat + 1 + (n % 16 - 1 - k).toNat = (n % 16).toNat from by omega, ← hv] at sh
    rw [sh, bAndM (k := 6) (by decide) (by decide)]
    have q := (pkd_div (f := fun p => rnk (M 7 p)) (p := n / 16) (n := k.toNat) (rnk_bd _).1 (by have := (rnk_bd (M 7 (n / 16 + (k.toNat : Int)))).2; omega)).2
    rw [show ((k.toNat : Nat) : Int) = k from by omega] at q
    unfold wr
    omega
  rw [e]
  refine ⟨fun z => absurd z (by omega), fun _ => CT.of 5 0 0 (cst_length (by decide)) (by omega) (Nat.zero_le _) (Nat.zero_le _) (fun z S' V' hq' => ?_)⟩
  obtain ⟨rfl, rfl, rfl⟩ := hq'
  refine ⟨fun _ => ⟨by omega, by omega, CT.of 5 0 0 (cst_charAt (i := 2) (by decide) (by omega) (by show _ < (62 : Int); omega)) (by omega) (Nat.zero_le _) (Nat.zero_le _) (fun z S' V' hq' => ?_)⟩, fun z => absurd (show rnk (M 7 (n / 16 + k)) ≤ (62 : Int) from rb.2) z⟩
  obtain ⟨rfl, rfl, rfl⟩ := hq'
  have al := js_alp (rnk (M 7 (n / 16 + k)) - 1).toNat (by omega)
  rw [show (((rnk (M 7 (n / 16 + k)) - 1).toNat : Nat) : Int) + 1 = rnk (M 7 (n / 16 + k)) from by omega, alp_rnk rk] at al
  rw [al]
  exact hq
theorem ct_letterOf {k : Int} (hn : NR M v n) (hd : 8 ≤ d) (h1 : 0 ≤ k → k < n % 16 → Q (M 7 (n / 16 + k)) S V) (h2 : ¬ (0 ≤ k ∧ k < n % 16) → Q (-1) S V) : Ct l G bX11_letterOf Q d mc ms [vl v, vi k] S V := by
  refine qX11_letterOf fun _ _ => vX11_letterOf_0 ⟨fun _ => h2 (by omega), fun k0 => CT.pu (by omega) (fun d1 hd1 => ct_lengthOfName hn ⟨rfl, rfl, fun lt => CT.pu (by omega) (fun d2 hd2 => ct_signOfName hn (by omega) lt (by omega) ⟨rfl, rfl, h1 (by omega) lt⟩), fun ge => h2 (by omega)⟩)⟩
end NAMES
theorem call_letter (b e i k : Int) : CallOK CI bX11_letter n_letter_0 [vi b, vi e, vi i, vi k] [b, e, i, k] := call_pure fun l G c S V M Q hc hR hk => qX11_letter fun _ _ _ _ _ => vX11_letter_0 <| by
  have t := hR.top
  have n1 := t.nb1
  have he12 : ∀ b, 0 ≤ b → b < M 0 8 → M 10 b ≤ 12 := fun b b0 b1 => (hR.bk b0 b1).bk.ne1
  refine ⟨t.vg60, CT.pu (by decide) (fun d1 hd1 => ct_enumOf hc hR (by omega) (fun b0 b1 e0 e1 => ⟨rfl, rfl, fun _ => ?_, fun z => absurd (hc.2 _).1 z⟩) (fun h => ⟨rfl, rfl, fun z => absurd rfl z, fun _ => hk (-1) (fun Q hq => st_letter_0 ⟨fun i1 => pm_isConstant n1 he12 (fun a1 a2 a3 a4 _ _ => absurd ⟨a1, a2, a3, a4⟩ h) (fun _ => ⟨fun z => absurd rfl z, fun _ => hq⟩), fun i1 => pm_isEnum n1 (fun a1 a2 a3 a4 => absurd ⟨a1, a2, a3, a4⟩ h) (fun _ => ⟨fun _ => hq, fun z => absurd rfl z⟩)⟩)⟩))⟩
  have ne1 := he12 b b0 b1
  have hE := (hR.bk b0 b1).be e0 e1
  have nc1 := hE.en.nc1
  refine ⟨fun i1 => ⟨hE.en.vg3, CT.pu (by decide) (fun d2 hd2 => ct_constantAt hE (fun i0 i2 => ⟨rfl, rfl, fun _ => ⟨(hE.cn i0 i2).vg5, ?_⟩, fun z => absurd (hc.2 _).1 z⟩) (fun h => ⟨rfl, rfl, fun z => absurd rfl z, fun _ => hk (-1) (fun Q hq => st_letter_0 ⟨fun _ => pm_isConstant n1 he12 (fun _ _ _ _ a5 a6 => absurd ⟨a5, a6⟩ h) (fun _ => ⟨fun z => absurd rfl z, fun _ => hq⟩), fun z => absurd i1 z⟩)⟩))⟩, fun i1 => ⟨hE.en.vg3, ?_⟩⟩
  · have nr := (hE.cn i0 i2).nm
    rw [Wv_el (by decide)] at nr
    have nr' := nr
    obtain ⟨m0, m1, m10, mp, hr, hv⟩ := nr
    have a1 : (M 20 (24 * (12 * b + e) + i)).tmod 16 = M 20 (24 * (12 * b + e) + i) % 16 := Int.tmod_eq_emod_of_nonneg m0
    have a2 : (M 20 (24 * (12 * b + e) + i)).tdiv 16 = M 20 (24 * (12 * b + e) + i) / 16 := Int.tdiv_eq_ediv_of_nonneg m0
    refine CT.pu (by decide) (fun d3 hd3 => ct_letterOf nr' (by omega) (fun k0 k1 => ⟨rfl, rfl, hk _ (fun Q hq => ?_)⟩) (fun h => ⟨rfl, rfl, hk _ (fun Q hq => ?_)⟩))
    all_goals
      refine st_letter_0 ?_
      unfold B_letter_0
      refine ⟨fun _ => pm_isConstant n1 he12 (fun _ _ _ _ _ _ => ⟨fun _ => ⟨by omega, by omega, by omega, by omega, fun _ => ⟨by omega, by omega, by omega, by omega, by omega, by omega, ?_⟩, fun z => absurd i1 z⟩, fun z => absurd (by decide) z⟩) (fun h => absurd ⟨b0, b1, e0, e1, i0, i2⟩ h), fun z => absurd i1 z⟩
      rw [a1, a2]
    · exact ⟨fun z => absurd z (by omega), fun _ => ⟨fun z => absurd z (by omega), fun _ => ⟨by omega, by omega, by omega, by omega, hq⟩⟩⟩
    · exact ⟨fun _ => hq, fun _ => ⟨fun _ => hq, fun z => absurd (by omega) h⟩⟩
  · have i1' : i = -1 := by omega
    subst i1'
    have nr := hE.en.nm
    rw [Wv_el (by decide)] at nr
    have nr' := nr
    obtain ⟨m0, m1, m10, mp, hr, hv⟩ := nr
    have a1 : (M 13 (12 * b + e)).tmod 16 = M 13 (12 * b + e) % 16 := Int.tmod_eq_emod_of_nonneg m0
    have a2 : (M 13 (12 * b + e)).tdiv 16 = M 13 (12 * b + e) / 16 := Int.tdiv_eq_ediv_of_nonneg m0
    refine CT.pu (by decide) (fun d3 hd3 => ct_letterOf nr' (by omega) (fun k0 k1 => ⟨rfl, rfl, hk _ (fun Q hq => ?_)⟩) (fun h => ⟨rfl, rfl, hk _ (fun Q hq => ?_)⟩))
    all_goals
      refine st_letter_0 ?_
      unfold B_letter_0
      refine ⟨fun z => absurd rfl z, fun _ => pm_isEnum n1 (fun _ _ _ _ => ⟨fun z => absurd z (by decide), fun _ => ⟨by omega, by omega, by omega, by omega, fun z => absurd rfl z, fun _ => ⟨by omega, by omega, ?_⟩⟩⟩) (fun h => absurd ⟨b0, b1, e0, e1⟩ h)⟩
      rw [a1, a2]
    · exact ⟨fun z => absurd z (by omega), fun _ => ⟨fun z => absurd z (by omega), fun _ => ⟨by omega, by omega, by omega, by omega, hq⟩⟩⟩
    · exact ⟨fun _ => hq, fun _ => ⟨fun _ => hq, fun z => absurd (by omega) h⟩⟩

