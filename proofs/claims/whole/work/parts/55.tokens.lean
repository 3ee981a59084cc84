/-! ===== tokens ===== -/
def kow (w : Int) : Int := if w = 1369421 then 4 else if w = 4308 then 5 else if w = 335815429 then 6 else if w = 52449483 then 7 else if w = 8844755282 then 8 else if w = 20789412040 then 9 else if w = 791749 then 10 else if w = 1361093 then 11 else if w = 369411397 then 12 else if w = 62596 then 13 else if w = 5019269 then 14 else if w = 17364357 then 15 else 3
def dcm (f : Int → Int) : Nat → Int → Int
  | 0, _ => 0
  | n + 1, p => 10 * dcm f n p + (f (p + n) - 48)
def blk (x : Int) : Prop := x = 32 ∨ x = 10
def sgn (x : Int) : Int := if js_ix 1 (x % 256) < 0 then 0 else x % 256
def dgt (x : Int) : Prop := 48 ≤ x ∧ x ≤ 57
def rowK (f : Int → Int) (p q k v : Int) : Prop := (dgt (f p) ∧ ((q - p ≤ 9 ∧ (∀ i, p ≤ i → i < q → dgt (f i)) ∧ k = 2 ∧ v = dcm f (q - p).toNat p) ∨ (¬ (q - p ≤ 9 ∧ ∀ i, p ≤ i → i < q → dgt (f i)) ∧ k = 0))) ∨ (¬ dgt (f p) ∧ ((q - p ≤ 10 ∧ k = kow v ∧ v = pkd (fun i => rnk (f i)) (q - p).toNat p) ∨ (10 < q - p ∧ k = 0)))
def TokS (f : Int → Int) (len p q k v : Int) : Prop := 0 ≤ p ∧ p < q ∧ q ≤ len ∧ ¬ blk (f p) ∧ ((rnk (f p) = 0 ∧ q = p + 1 ∧ k = sgn (f p)) ∨ ((∀ i, p ≤ i → i < q → 1 ≤ rnk (f i)) ∧ (q < len → rnk (f q) = 0) ∧ rowK f p q k v))
def bef (E : Int → Int) (j : Int) : Int := if j = 0 then 0 else E (j - 1)
/-- tokens 0 .. n - 1 lie ahead of p, blanks alone between them and up to p -/
def Toks (f : Int → Int) (len : Int) (K P W E : Int → Int) (n p : Int) : Prop := (∀ j, 0 ≤ j → j < n → TokS f len (P j) (E j) (K j) (W j) ∧ bef E j ≤ P j ∧ (∀ i, bef E j ≤ i → i < P j → blk (f i))) ∧ 0 ≤ bef E n ∧ bef E n ≤ p ∧ (∀ i, bef E n ≤ i → i < p → blk (f i)) ∧ 0 ≤ n ∧ n ≤ bef E n
/-- a text cut up: the end stands last -/
def TK (f : Int → Int) (len : Int) (K P W E : Int → Int) (n : Int) : Prop := Toks f len K P W E (n - 1) len ∧ 1 ≤ n ∧ K (n - 1) = 1 ∧ P (n - 1) = len ∧ E (n - 1) = len ∧ 0 ≤ len ∧ len ≤ 3000
theorem Toks.add {f : Int → Int} {len p q k v n : Int} {K P W E K' P' W' : Int → Int} (h : Toks f len K P W E n p) (t : TokS f len p q k v) (e1 : ∀ j, j < n → K' j = K j) (e2 : ∀ j, j < n → P' j = P j) (e3 : ∀ j, j < n → W' j = W j) (k1 : K' n = k) (k2 : P' n = p) (k3 : W' n = v) : Toks f len K' P' W' (fun j => if j = n then q else E j) (n + 1) q := by
  obtain ⟨h1, h0, h2, h3, h4, h5⟩ := h
  have t1 := t.2.1
  have b1 : ∀ j, j ≤ n → bef (fun j => if j = n then q else E j) j = bef E j := fun j q => by
    unfold bef
    by_cases z : j = 0
    · rw [if_pos z, if_pos z]
    · rw [if_neg z, if_neg z]
      exact if_neg (by omega)
  have b2 : bef (fun j => if j = n then q else E j) (n + 1) = q := by
    unfold bef
    rw [if_neg (by omega)]
    exact if_pos (by omega)
  refine ⟨fun j j0 j1 => ?_, by rw [b2]; omega, by rw [b2]; omega, fun i i0 i1 => by rw [b2] at i0; omega, by omega, by rw [b2]; omega⟩
  rw [b1 j (by omega)]
  by_cases y : j = n
  · subst y
    simp only [if_true]
    rw [k1, k2, k3]
    exact ⟨t, h2, h3⟩
  · simp only [if_neg y]
    rw [e1 j (by omega), e2 j (by omega), e3 j (by omega)]
    exact h1 j j0 (by omega)
theorem Toks.sk {f : Int → Int} {len p n : Int} {K P W E : Int → Int} (h : Toks f len K P W E n p) (b : blk (f p)) : Toks f len K P W E n (p + 1) := ⟨h.1, h.2.1, by have := h.2.2.1; omega, fun i i0 i1 => by
  by_cases y : i = p
  · rw [y]; exact b
  · exact h.2.2.2.1 i i0 (by omega), h.2.2.2.2⟩
theorem Toks.fin {f : Int → Int} {len n : Int} {K P W E K' P' W' : Int → Int} (h : Toks f len K P W E n len) (l0 : 0 ≤ len) (l1 : len ≤ 3000) (e1 : ∀ j, j < n → K' j = K j) (e2 : ∀ j, j < n → P' j = P j) (e3 : ∀ j, j < n → W' j = W j) (k1 : K' n = 1) (k2 : P' n = len) : TK f len K' P' W' (fun j => if j = n then len else E j) (n + 1) := by
  obtain ⟨h1, h0, h2, h3, h4, h5⟩ := h
  have b1 : ∀ j, j ≤ n → bef (fun j => if j = n then len else E j) j = bef E j := fun j q => by
    unfold bef
    by_cases z : j = 0
    · rw [if_pos z, if_pos z]
    · rw [if_neg z, if_neg z]
      exact if_neg (by omega)
  rw [TK, show n + 1 - 1 = n from by omega]
  refine ⟨⟨fun j j0 j1 => ?_, ?_⟩, by omega, k1, k2, if_pos rfl, l0, l1⟩
  · rw [b1 j (by omega), e1 j j1, e2 j j1, e3 j j1]
    simp only [if_neg (show ¬ j = n from by omega)]
    exact h1 j j0 j1
  · rw [b1 n (by omega)]
    exact ⟨h0, h2, h3, h4, h5⟩
/-! the class's side -/
def nTok (N N' : Mem) : Prop := ∀ L j, ¬ (L = 40 ∧ j = 3) → ¬ ((L = 41 ∨ L = 42 ∨ L = 43) ∧ 0 ≤ j) → N' L j = N L j
theorem nTok.rf {N : Mem} : nTok N N := fun _ _ _ _ => rfl
theorem nTok.tr {N N1 N2 : Mem} (h : nTok N N1) (h2 : nTok N1 N2) : nTok N N2 := fun L j a b => (h2 L j a b).trans (h L j a b)
theorem Rel.tok {c : Int → Int} {N N' M : Mem} (h : Rel c N M) (n : nTok N N') : Rel c N' M := by
  have q := h.rd
  refine ⟨?_, ?_, ?_, fun s s0 s1 => ?_, fun s s0 s1 => ?_, fun s s0 s1 => ?_, fun s s0 s1 => ?_, fun s s0 s1 => ?_⟩
  · apply Rtop.fr h.top <;> intros <;> first | rfl | exact n _ _ (by omega) (by omega)
  · apply Rwk.fr h.wk <;> intros <;> first | rfl | exact n _ _ (by omega) (by omega)
  ·
    refine ⟨?_, ?_, ?_, ?_, ?_, ?_, ?_, ?_, ?_, ?_, ?_, ?_, ?_, ?_, ?_, ?_, ?_, ?_, ?_, ?_, ?_, ?_, ?_, ?_, ?_, ?_, ?_, ?_, ?_, ?_, ?_, ?_, ?_, ?_, ?_, ?_, ?_, ?_⟩
    · rw [n _ _ (by omega) (by omega)]; exact q.g40
    · rw [n _ _ (by omega) (by omega)]; exact q.g41
    · rw [n _ _ (by omega) (by omega)]; exact q.n41
    · rw [n _ _ (by omega) (by omega)]; exact q.g42
    · rw [n _ _ (by omega) (by omega)]; exact q.n42
    · rw [n _ _ (by omega) (by omega)]; exact q.g43
    · rw [n _ _ (by omega) (by omega)]; exact q.n43
    · rw [n _ _ (by omega) (by omega)]; exact q.g44
    · rw [n _ _ (by omega) (by omega)]; exact q.n44
    · rw [n _ _ (by omega) (by omega)]; exact q.g50
    · rw [n _ _ (by omega) (by omega)]; exact q.g51
    · rw [n _ _ (by omega) (by omega)]; exact q.n51
    · rw [n _ _ (by omega) (by omega)]; exact q.g120
    · rw [n _ _ (by omega) (by omega)]; exact q.g121
    · rw [n _ _ (by omega) (by omega)]; exact q.n121
    · rw [n _ _ (by omega) (by omega)]; exact q.g122
    · rw [n _ _ (by omega) (by omega)]; exact q.n122
    · rw [n _ _ (by omega) (by omega)]; exact q.t0
    · rw [n _ _ (by omega) (by omega)]; exact q.t1
    · rw [n _ _ (by omega) (by omega)]; exact q.t2
    · rw [n _ _ (by omega) (by omega)]; exact q.t4
    · rw [n _ _ (by omega) (by omega)]; exact q.r0
    · rw [n _ _ (by omega) (by omega)]; exact q.r1
    · rw [n _ _ (by omega) (by omega)]; exact q.r2
    · rw [n _ _ (by omega) (by omega)]; exact q.c0
    · rw [n _ _ (by omega) (by omega)]; exact q.c1
    · rw [n _ _ (by omega) (by omega)]; exact q.k0
    · rw [n _ _ (by omega) (by omega)]; exact q.k1
    · rw [n _ _ (by omega) (by omega)]; exact q.k2
    · rw [n _ _ (by omega) (by omega)]; exact q.k3
    · rw [n _ _ (by omega) (by omega)]; exact q.k4
    · rw [n _ _ (by omega) (by omega)]; exact q.k5
    · rw [n _ _ (by omega) (by omega)]; exact q.k6
    · rw [n _ _ (by omega) (by omega)]; exact q.k7
    · rw [n _ _ (by omega) (by omega)]; exact q.k8
    · rw [n _ _ (by omega) (by omega)]; exact q.k9
    · rw [n _ _ (by omega) (by omega)]; exact q.k10
    · rw [n _ _ (by omega) (by omega)]; exact q.k11
  · apply Rst.fr (h.st s0 s1) <;> intros <;> first | rfl | exact n _ _ (by omega) (by omega)
  · apply Rmp.fr (h.mp s0 s1) <;> intros <;> first | rfl | exact n _ _ (by omega) (by omega)
  · apply Rdr.fr (h.dr s0 s1) <;> intros <;> first | rfl | exact n _ _ (by omega) (by omega)
  · apply Rms.fr (h.ms s0 s1) <;> intros <;> first | rfl | exact n _ _ (by omega) (by omega)
  · exact (h.bk s0 s1).fr s0 (fun L j hL => n L j (by omega) (by omega)) (fun _ _ => rfl) (fun _ _ _ => rfl)
section CUT
variable {l : Launch} {G : GT} {Q : Int → Sh → Mem → Prop} {c : Int → Int} {S : Sh} {V N M : Mem} {d mc ms : Nat}
theorem ct_isDigitC {x : Int} (h1 : dgt x → Q 1 S V) (h2 : ¬ dgt x → Q 0 S V) : Ct l G bX9_isDigit Q d mc ms [vi x] S V := qX9_isDigit fun _ => vX9_isDigit_0 ⟨fun q => h2 (by unfold dgt; omega), fun q => ⟨fun q2 => h2 (by unfold dgt; omega), fun q2 => h1 (by unfold dgt; omega)⟩⟩
theorem ct_rankOf {x : Int} (hd : 1 ≤ d) (h : Q (rnk x) S V) : Ct l G bX9_rankOf Q d mc ms [vi x] S V := qX9_rankOf fun hi => vX9_rankOf_0 <| by
  unfold inI at hi
  have dg : ¬ (97 ≤ x ∧ x ≤ 122) → ¬ (65 ≤ x ∧ x ≤ 90) → CT l G bX9_isDigit d mc ms [vi x] S V (fun z3 S3 V3 mc3 ms3 => (z3 = 0 → Q 0 S3 V3) ∧ (¬ (z3 = 0) → -2147483648 ≤ x - 48 ∧ x - 48 ≤ 2147483647 ∧ -2147483648 ≤ (x - 48) + 53 ∧ (x - 48) + 53 ≤ 2147483647 ∧ Q ((x - 48) + 53) S3 V3)) := fun n1 n2 => CT.pu hd (fun d1 hd1 => ct_isDigitC (fun y => ⟨rfl, rfl, fun z => absurd z (by decide), fun _ => by
    unfold dgt at y
    have e : rnk x = x - 48 + 53 := by unfold rnk; rw [if_neg n1, if_neg n2, if_pos y]; omega
    have rb := rnk_bd x
    rw [← e]
    exact ⟨by omega, by omega, by omega, by omega, h⟩⟩) (fun y => ⟨rfl, rfl, fun _ => by
    have e : rnk x = 0 := by unfold rnk; unfold dgt at y; rw [if_neg n1, if_neg n2, if_neg y]
    rw [e] at h
    exact h, fun z => absurd rfl z⟩))
  have up1 : 65 ≤ x → x ≤ 90 → Q (x - 65 + 27) S V := fun a b => by
    have e : rnk x = x - 65 + 27 := by unfold rnk; rw [if_neg (by omega), if_pos (by omega)]; omega
    rw [← e]; exact h
  refine ⟨fun a => ⟨fun a1 => dg (by omega) (by omega), fun a1 => ⟨fun a2 => dg (by omega) (by omega), fun a2 => ⟨by omega, by omega, by omega, by omega, up1 (by omega) (by omega)⟩⟩⟩, fun a => ⟨fun a1 => ⟨fun a2 => absurd a2 (by omega), fun a2 => ⟨fun a3 => dg (by omega) (by omega), fun a3 => ⟨by omega, by omega, by omega, by omega, up1 (by omega) (by omega)⟩⟩⟩, fun a1 => ⟨by omega, by omega, by omega, by omega, ?_⟩⟩⟩
  have e : rnk x = x - 97 + 1 := by unfold rnk; rw [if_pos (by omega)]; omega
  rw [← e]; exact h
theorem ct_keep {k p v n : Int} (hc : Cn c S) (hW : Wv c S V = N) (q : Rrd c N M) (hn : N 40 3 = n) (n0 : 0 ≤ n) (n1 : n < 3001) (hk : ∀ V', Wv c S V' = up (up (up (up N 41 n k) 42 n p) 43 n v) 40 3 (n + 1) → Q 0 S V') : Ct l G bX9_keep Q d mc ms [vr (c 40), vi k, vi p, vl v] S V := qX9_keep fun _ _ _ _ => vX9_keep_0 <| by
  obtain ⟨v', tg, ln⟩ := Wr hW
  simp (disch := omega) only [v', tg, ln, q.g40, q.t0, q.t1, q.t2, q.g41, q.n41, q.g42, q.n42, q.g43, q.n43, hn]
  refine ⟨trivial, trivial, fun z => absurd z (by omega), fun _ => ⟨n0, n1, trivial, n1, trivial, n1, by omega, by omega, hk _ ?_⟩⟩
  rw [Wv_up hc (by decide), Wv_up hc n0, Wv_up hc n0, Wv_up hc n0, hW]
theorem ct_kindOfWord {v : Int} (hW : Wv c S V = N) (q : Rrd c N M) (h : Q (kow v) S V) : Ct l G bX9_kindOfWord Q d mc ms [vr (c 40), vl v] S V := qX9_kindOfWord fun _ _ => vX9_kindOfWord_0 <| by
  obtain ⟨v', tg, ln⟩ := Wr hW
  unfold kow at h
  refine vX9_kindOfWord_2 ?_
  simp (disch := omega) only [v', tg, ln, q.g40, q.t4, q.g44, q.n44, q.k0]
  refine ⟨fun z => absurd z (by decide), fun _ => ⟨trivial, trivial, by decide, by decide, fun ne => ⟨by decide, by decide, ?_⟩, fun eq => ⟨by decide, by decide, by rw [if_pos (show v = 1369421 from by omega)] at h; exact h⟩⟩⟩
  rw [if_neg (show ¬ v = 1369421 from fun z => ne z.symm)] at h
  show XJ l G bX9_kindOfWord Q d 2 [vr (c 40), vl v, vu, vi 1] [] S V mc ms
  refine vX9_kindOfWord_2 ?_
  simp (disch := omega) only [v', tg, ln, q.g40, q.t4, q.g44, q.n44, q.k1]
  refine ⟨fun z => absurd z (by decide), fun _ => ⟨trivial, trivial, by decide, by decide, fun ne => ⟨by decide, by decide, ?_⟩, fun eq => ⟨by decide, by decide, by rw [if_pos (show v = 4308 from by omega)] at h; exact h⟩⟩⟩
  rw [if_neg (show ¬ v = 4308 from fun z => ne z.symm)] at h
  show XJ l G bX9_kindOfWord Q d 2 [vr (c 40), vl v, vu, vi 2] [] S V mc ms
  refine vX9_kindOfWord_2 ?_
  simp (disch := omega) only [v', tg, ln, q.g40, q.t4, q.g44, q.n44, q.k2]
  refine ⟨fun z => absurd z (by decide), fun _ => ⟨trivial, trivial, by decide, by decide, fun ne => ⟨by decide, by decide, ?_⟩, fun eq => ⟨by decide, by decide, by rw [if_pos (show v = 335815429 from by omega)] at h; exact h⟩⟩⟩
  rw [if_neg (show ¬ v = 335815429 from fun z => ne z.symm)] at h
  show XJ l G bX9_kindOfWord Q d 2 [vr (c 40), vl v, vu, vi 3] [] S V mc ms
  refine vX9_kindOfWord_2 ?_
  simp (disch := omega) only [v', tg, ln, q.g40, q.t4, q.g44, q.n44, q.k3]
  refine ⟨fun z => absurd z (by decide), fun _ => ⟨trivial, trivial, by decide, by decide, fun ne => ⟨by decide, by decide, ?_⟩, fun eq => ⟨by decide, by decide, by rw [if_pos (show v = 52449483 from by omega)] at h; exact h⟩⟩⟩
  rw [if_neg (show ¬ v = 52449483 from fun z => ne z.symm)] at h
  show XJ l G bX9_kindOfWord Q d 2 [vr (c 40), vl v, vu, vi 4] [] S V mc ms
  refine vX9_kindOfWord_2 ?_
  simp (disch := omega) only [v', tg, ln, q.g40, q.t4, q.g44, q.n44, q.k4]
  refine ⟨fun z => absurd z (by decide), fun _ => ⟨trivial, trivial, by decide, by decide, fun ne => ⟨by decide, by decide, ?_⟩, fun eq => ⟨by decide, by decide, by rw [if_pos (show v = 8844755282 from by omega)] at h; exact h⟩⟩⟩
  rw [if_neg (show ¬ v = 8844755282 from fun z => ne z.symm)] at h
  show XJ l G bX9_kindOfWord Q d 2 [vr (c 40), vl v, vu, vi 5] [] S V mc ms
  refine vX9_kindOfWord_2 ?_
  simp (disch := omega) only [v', tg, ln, q.g40, q.t4, q.g44, q.n44, q.k5]
  refine ⟨fun z => absurd z (by decide), fun _ => ⟨trivial, trivial, by decide, by decide, fun ne => ⟨by decide, by decide, ?_⟩, fun eq => ⟨by decide, by decide, by rw [if_pos (show v = 20789412040 from by omega)] at h; exact h⟩⟩⟩
  rw [if_neg (show ¬ v = 20789412040 from fun z => ne z.symm)] at h
  show XJ l G bX9_kindOfWord Q d 2 [vr (c 40), vl v, vu, vi 6] [] S V mc ms
  refine vX9_kindOfWord_2 ?_
  simp (disch := omega) only [v', tg, ln, q.g40, q.t4, q.g44, q.n44, q.k6]
  refine ⟨fun z => absurd z (by decide), fun _ => ⟨trivial, trivial, by decide, by decide, fun ne => ⟨by decide, by decide, ?_⟩, fun eq => ⟨by decide, by decide, by rw [if_pos (show v = 791749 from by omega)] at h; exact h⟩⟩⟩
  rw [if_neg (show ¬ v = 791749 from fun z => ne z.symm)] at h
  show XJ l G bX9_kindOfWord Q d 2 [vr (c 40), vl v, vu, vi 7] [] S V mc ms
  refine vX9_kindOfWord_2 ?_
  simp (disch := omega) only [v', tg, ln, q.g40, q.t4, q.g44, q.n44, q.k7]
  refine ⟨fun z => absurd z (by decide), fun _ => ⟨trivial, trivial, by decide, by decide, fun ne => ⟨by decide, by decide, ?_⟩, fun eq => ⟨by decide, by decide, by rw [if_pos (show v = 1361093 from by omega)] at h; exact h⟩⟩⟩
  rw [if_neg (show ¬ v = 1361093 from fun z => ne z.symm)] at h
  show XJ l G bX9_kindOfWord Q d 2 [vr (c 40), vl v, vu, vi 8] [] S V mc ms
  refine vX9_kindOfWord_2 ?_
  simp (disch := omega) only [v', tg, ln, q.g40, q.t4, q.g44, q.n44, q.k8]
  refine ⟨fun z => absurd z (by decide), fun _ => ⟨trivial, trivial, by decide, by decide, fun ne => ⟨by decide, by decide, ?_⟩, fun eq => ⟨by decide, by decide, by rw [if_pos (show v = 369411397 from by omega)] at h; exact h⟩⟩⟩
  rw [if_neg (show ¬ v = 369411397 from fun z => ne z.symm)] at h
  show XJ l G bX9_kindOfWord Q d 2 [vr (c 40), vl v, vu, vi 9] [] S V mc ms
  refine vX9_kindOfWord_2 ?_
  simp (disch := omega) only [v', tg, ln, q.g40, q.t4, q.g44, q.n44, q.k9]
  refine ⟨fun z => absurd z (by decide), fun _ => ⟨trivial, trivial, by decide, by decide, fun ne => ⟨by decide, by decide, ?_⟩, fun eq => ⟨by decide, by decide, by rw [if_pos (show v = 62596 from by omega)] at h; exact h⟩⟩⟩
  rw [if_neg (show ¬ v = 62596 from fun z => ne z.symm)] at h
  show XJ l G bX9_kindOfWord Q d 2 [vr (c 40), vl v, vu, vi 10] [] S V mc ms
  refine vX9_kindOfWord_2 ?_
  simp (disch := omega) only [v', tg, ln, q.g40, q.t4, q.g44, q.n44, q.k10]
  refine ⟨fun z => absurd z (by decide), fun _ => ⟨trivial, trivial, by decide, by decide, fun ne => ⟨by decide, by decide, ?_⟩, fun eq => ⟨by decide, by decide, by rw [if_pos (show v = 5019269 from by omega)] at h; exact h⟩⟩⟩
  rw [if_neg (show ¬ v = 5019269 from fun z => ne z.symm)] at h
  show XJ l G bX9_kindOfWord Q d 2 [vr (c 40), vl v, vu, vi 11] [] S V mc ms
  refine vX9_kindOfWord_2 ?_
  simp (disch := omega) only [v', tg, ln, q.g40, q.t4, q.g44, q.n44, q.k11]
  refine ⟨fun z => absurd z (by decide), fun _ => ⟨trivial, trivial, by decide, by decide, fun ne => ⟨by decide, by decide, ?_⟩, fun eq => ⟨by decide, by decide, by rw [if_pos (show v = 17364357 from by omega)] at h; exact h⟩⟩⟩
  rw [if_neg (show ¬ v = 17364357 from fun z => ne z.symm)] at h
  exact vX9_kindOfWord_2 ⟨fun _ => h, fun z => absurd (by decide) z⟩
end CUT
