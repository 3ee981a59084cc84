/-! ===== tokens: the class cuts a tape up ===== -/
theorem rnk_m {x : Int} (h : wb x = x) : rnk (x % 256) = rnk x := by
  have : -128 ≤ x ∧ x ≤ 127 := by unfold wb at h; omega
  by_cases y : 0 ≤ x
  · rw [show x % 256 = x from by omega]
  · have e : x % 256 = x + 256 := by omega
    rw [e]
    unfold rnk
    rw [if_neg (by omega), if_neg (by omega), if_neg (by omega), if_neg (by omega), if_neg (by omega), if_neg (by omega)]
theorem and255i (x : Int) : bAnd x 255 = x % 256 := bAndM (k := 8) (by decide) (by decide) x
theorem dcm_succ {f : Int → Int} {n : Nat} {p : Int} : dcm f (n + 1) p = 10 * dcm f n p + (f (p + n) - 48) := rfl
theorem dcm_bd {f : Int → Int} {p : Int} : ∀ n : Nat, n ≤ 9 → (∀ i, p ≤ i → i < p + n → dgt (f i)) → 0 ≤ dcm f n p ∧ dcm f n p < 10 ^ n := by
  intro n
  induction n with
  | zero => intro _ _; exact ⟨by show (0 : Int) ≤ 0; decide, by show (0 : Int) < 1; decide⟩
  | succ n ih =>
    intro hn h
    have k := ih (by omega) (fun i a b => h i a (by omega))
    have q := h (p + n) (by omega) (by omega)
    unfold dgt at q
    rw [dcm_succ, Int.pow_succ]
    omega
theorem p10_9 : ∀ k : Nat, k ≤ 9 → (10 : Int) ^ k ≤ 1000000000 := by decide
section CUT2
variable {l : Launch} {G : GT} {Q : Int → Sh → Mem → Prop} {c : Int → Int} {S : Sh} {V N M : Mem} {d mc ms : Nat} {len : Int}
theorem row_loop (hW : Wv c S V = N) (t : Rtop c N M) (hl : M 0 2 = len) (hd : 2 ≤ d) {p : Int} (p0 : 0 ≤ p) : ∀ (r : Nat) (q : Int), p ≤ q → len - q = r → (∀ i, p ≤ i → i < q → 1 ≤ rnk (M 1 i)) → (∀ q', q ≤ q' → q' ≤ len → (∀ i, p ≤ i → i < q' → 1 ≤ rnk (M 1 i)) → (q' < len → rnk (M 1 q') = 0) → Q q' S V) → XJ l G bX9_rowEnd Q d 2 [vr (c 61), vi p, vi len, vi q] [] S V mc ms := by
  have tl := t.tl1
  intro r
  induction r with
  | zero =>
    intro q pq hr ha hk
    exact vX9_rowEnd_2 ⟨fun _ => hk q (by omega) (by omega) ha (fun z => by omega), fun z => absurd (by omega) z⟩
  | succ r ih =>
    intro q pq hr ha hk
    obtain ⟨v', tg, ln⟩ := Wr hW
    refine vX9_rowEnd_2 ⟨fun z => absurd z (by omega), fun _ => ⟨by rw [tg]; exact t.g61, by omega, by rw [ln, t.n61]; omega, CT.pu (by omega) (fun d1 hd1 => ct_rankOf (by omega) ⟨rfl, rfl, ?_⟩)⟩⟩
    rw [v' _ _ (by omega), t.tb q (by omega) (by omega)]
    exact ⟨fun z => hk q (by omega) (by omega) ha (fun _ => by have := (rnk_bd (M 1 q)).1; omega), fun z => ⟨by omega, by omega, ih (q + 1) (by omega) (by omega) (fun i a b => by
      by_cases y : i = q
      · rw [y]; omega
      · exact ha i a (by omega)) (fun q' a b => hk q' (by omega) b)⟩⟩
def nKp (N : Mem) (n k p v : Int) : Mem := up (up (up (up N 41 n k) 42 n p) 43 n v) 40 3 (n + 1)
theorem num_row {p q n : Int} (hc : Cn c S) (hW : Wv c S V = N) (R : Rel c N M) (hl : M 0 2 = len) (hn : N 40 3 = n) (n0 : 0 ≤ n) (n1 : n < 3001) (p0 : 0 ≤ p) (pq : p < q) (ql : q ≤ len) (dp : dgt (M 1 p)) (hd : 3 ≤ d) (hk : ∀ k v V', rowK (M 1) p q k v → Wv c S V' = nKp N n k p v → Q 0 S V') : ∀ (r : Nat) (a fits v : Int), p ≤ a → a ≤ q → q - a ≤ r → ((fits = 1 ∧ q - p ≤ 9 ∧ (∀ i, p ≤ i → i < a → dgt (M 1 i)) ∧ v = dcm (M 1) (a - p).toNat p) ∨ (fits = 0 ∧ ¬ (q - p ≤ 9 ∧ ∀ i, p ≤ i → i < q → dgt (M 1 i)))) → XJ l G bX9_keepNumber Q d 21 [vr (c 40), vr (c 61), vi p, vi q, vi fits, vl v, vu, vi a] [] S V mc ms := by
  have t := R.top
  have rd := R.rd
  have tl := t.tl1
  obtain ⟨v', tg, ln⟩ := Wr hW
  have g40 : S.1 (c 40) = 10 := by rw [tg]; exact rd.g40
  have bad : ∀ v, ¬ (q - p ≤ 9 ∧ ∀ i, p ≤ i → i < q → dgt (M 1 i)) → CT l G bX9_keep d mc ms [vr (c 40), vi 0, vi p, vl v] S V (fun _ S3 V3 _ _ => Q 0 S3 V3) := fun v hb => CT.im (by omega) (fun d1 hd1 => ct_keep hc hW rd hn n0 n1 (fun V1 hW1 => hk 0 v V1 (Or.inl ⟨dp, Or.inr ⟨hb, rfl⟩⟩) hW1))
  intro r
  induction r with
  | zero =>
    intro a fits v pa aq hr h
    have ea : a = q := by omega
    subst ea
    rcases h with ⟨rfl, h9, hall, hv⟩ | ⟨rfl, hb⟩
    · refine vX9_keepNumber_21 ⟨fun _ => ⟨fun z => absurd z (by decide), fun _ => ⟨g40, CT.im (by omega) (fun d1 hd1 => ct_keep hc hW rd hn n0 n1 (fun V1 hW1 => hk 2 v V1 (Or.inl ⟨dp, Or.inl ⟨h9, hall, rfl, hv⟩⟩) hW1))⟩⟩, fun z => absurd (Int.le_refl _) z⟩
    · exact vX9_keepNumber_21 ⟨fun _ => ⟨fun _ => ⟨g40, bad v hb⟩, fun z => absurd rfl z⟩, fun z => absurd (Int.le_refl _) z⟩
  | succ r ih =>
    intro a fits v pa aq hr h
    rcases h with ⟨rfl, h9, hall, hv⟩ | ⟨rfl, hb⟩
    · by_cases ea : q ≤ a
      · have ea' : a = q := by omega
        subst ea'
        refine vX9_keepNumber_21 ⟨fun _ => ⟨fun z => absurd z (by decide), fun _ => ⟨g40, CT.im (by omega) (fun d1 hd1 => ct_keep hc hW rd hn n0 n1 (fun V1 hW1 => hk 2 v V1 (Or.inl ⟨dp, Or.inl ⟨h9, hall, rfl, hv⟩⟩) hW1))⟩⟩, fun z => absurd (Int.le_refl _) z⟩
      · have fa : V (c 61) a = M 1 a := by rw [v' _ _ (by omega), t.tb a (by omega) (by omega)]
        have ra : -128 ≤ M 1 a ∧ M 1 a ≤ 127 := by
          have := t.tr a (by omega) (by omega)
          unfold wb at this
          omega
        have db := dcm_bd (f := M 1) (p := p) (a - p).toNat (by omega) (fun i x y => hall i x (by omega))
        have p9 := p10_9 (a - p).toNat (by omega)
        have e : dcm (M 1) (a + 1 - p).toNat p = v * 10 + (M 1 a - 48) := by
          rw [show (a + 1 - p).toNat = (a - p).toNat + 1 from by omega, dcm_succ, ← hv, show p + ((a - p).toNat : Int) = a from by omega]
          omega
        refine vX9_keepNumber_21 ⟨fun z => absurd z ea, fun _ => ⟨fun z => absurd z (by decide), fun _ => ⟨by rw [tg]; exact t.g61, by omega, by rw [ln, t.n61]; omega, CT.pu (by omega) (fun d1 hd1 => ?_)⟩⟩⟩
        rw [fa]
        refine ct_isDigitC (fun y => ⟨rfl, rfl, ?_⟩) (fun y => ⟨rfl, rfl, ?_⟩)
        · refine ⟨by omega, by omega, by rw [tg]; exact t.g61, by omega, by rw [ln, t.n61]; omega, by omega, by omega, by omega, by omega, by omega, by omega, ih (a + 1) 1 _ (by omega) (by omega) (by omega) (Or.inl ⟨rfl, h9, fun i x z => ?_, e.symm⟩)⟩
          by_cases w : i = a
          · rw [w]; exact y
          · exact hall i x (by omega)
        · exact ⟨by omega, by omega, by rw [tg]; exact t.g61, by omega, by rw [ln, t.n61]; omega, by omega, by omega, by omega, by omega, by omega, by omega, ih (a + 1) 0 _ (by omega) (by omega) (by omega) (Or.inr ⟨rfl, fun z => y (z.2 a pa (by omega))⟩)⟩
    · refine vX9_keepNumber_21 ⟨fun _ => ⟨fun _ => ⟨g40, bad v hb⟩, fun z => absurd rfl z⟩, fun _ => ⟨fun _ => ⟨fun _ => ⟨g40, bad v hb⟩, fun z => absurd rfl z⟩, fun z => absurd rfl z⟩⟩
theorem word_row {p q n : Int} (hc : Cn c S) (hW : Wv c S V = N) (R : Rel c N M) (hl : M 0 2 = len) (hn : N 40 3 = n) (n0 : 0 ≤ n) (n1 : n < 3001) (p0 : 0 ≤ p) (pq : p < q) (ql : q ≤ len) (h10 : q - p ≤ 10) (dp : ¬ dgt (M 1 p)) (hd : 3 ≤ d) (hk : ∀ k v V', rowK (M 1) p q k v → Wv c S V' = nKp N n k p v → Q 0 S V') : ∀ (r : Nat) (a v : Int), p ≤ a → q - a = r → v = pkd (fun i => rnk (M 1 i)) (a - p).toNat p → XJ l G bX9_keepWord Q d 22 [vr (c 40), vr (c 61), vi p, vi q, vl v, vu, vi a] [] S V mc ms := by
  have t := R.top
  have rd := R.rd
  have tl := t.tl1
  obtain ⟨v', tg, ln⟩ := Wr hW
  have g40 : S.1 (c 40) = 10 := by rw [tg]; exact rd.g40
  intro r
  induction r with
  | zero =>
    intro a v pa hr hv
    have ea : a = q := by omega
    subst ea
    exact vX9_keepWord_22 ⟨fun _ => ⟨g40, CT.pu (by omega) (fun d1 hd1 => ct_kindOfWord hW rd ⟨rfl, rfl, g40, CT.im (by omega) (fun d2 hd2 => ct_keep hc hW rd hn n0 n1 (fun V1 hW1 => hk _ v V1 (Or.inr ⟨dp, Or.inl ⟨h10, rfl, hv⟩⟩) hW1))⟩)⟩, fun z => absurd (Int.le_refl _) z⟩
  | succ r ih =>
    intro a v pa hr hv
    have fa : V (c 61) a = M 1 a := by rw [v' _ _ (by omega), t.tb a (by omega) (by omega)]
    have rb := rnk_bd (M 1 a)
    have nn := pkd_nn (f := fun i => rnk (M 1 i)) (p := p) (a - p).toNat (fun k x y => (rnk_bd _).1)
    have bd := (pkd_bd (f := fun i => rnk (M 1 i)) (p := p) (fun k => (rnk_bd _).2) (a - p).toNat (by omega)).2.2.2.2.2.2.2.2.2.1 (by omega)
    rw [← hv] at nn bd
    refine vX9_keepWord_22 ⟨fun z => absurd z (by omega), fun _ => ⟨by omega, by omega, by rw [tg]; exact t.g61, by omega, by rw [ln, t.n61]; omega, CT.pu (by omega) (fun d1 hd1 => ?_)⟩⟩
    rw [fa]
    refine ct_rankOf (by omega) ⟨rfl, rfl, by omega, by omega, by omega, by omega, ih (a + 1) _ (by omega) (by omega) ?_⟩
    rw [show (a + 1 - p).toNat = (a - p).toNat + 1 from by omega, pkd_succ, ← hv, show p + ((a - p).toNat : Int) = a from by omega]
    omega
theorem ct_keepRow {p q n : Int} (hc : Cn c S) (hW : Wv c S V = N) (R : Rel c N M) (hl : M 0 2 = len) (hn : N 40 3 = n) (n0 : 0 ≤ n) (n1 : n < 3001) (p0 : 0 ≤ p) (pq : p < q) (ql : q ≤ len) (hd : 6 ≤ d) (hk : ∀ k v V', rowK (M 1) p q k v → Wv c S V' = nKp N n k p v → Q 0 S V') : Ct l G bX9_keepRow Q d 0 0 [vr (c 40), vr (c 61), vi p, vi q] S V := by
  have t := R.top
  have rd := R.rd
  have tl := t.tl1
  obtain ⟨v', tg, ln⟩ := Wr hW
  have g40 : S.1 (c 40) = 10 := by rw [tg]; exact rd.g40
  have fp : V (c 61) p = M 1 p := by rw [v' _ _ (by omega), t.tb p (by omega) (by omega)]
  refine qX9_keepRow fun _ _ _ _ => vX9_keepRow_0 ⟨by rw [tg]; exact t.g61, p0, by rw [ln, t.n61]; omega, CT.pu (by omega) (fun d1 hd1 => ?_)⟩
  rw [fp]
  refine ct_isDigitC (fun y => ⟨rfl, rfl, fun z => absurd z (by decide), fun _ => ⟨g40, CT.im (by omega) (fun d2 hd2 => qX9_keepNumber fun _ _ _ _ => vX9_keepNumber_0 ⟨by omega, by omega, fun gt => ?_, fun le => ?_⟩)⟩⟩) (fun y => ⟨rfl, rfl, fun _ => ⟨g40, CT.im (by omega) (fun d2 hd2 => qX9_keepWord fun _ _ _ _ => vX9_keepWord_0 ⟨by omega, by omega, fun le => ?_, fun gt => ⟨g40, ?_⟩⟩)⟩, fun z => absurd rfl z⟩)
  · exact num_row (Q := fun z S' V' => Q 0 S' V') (d := d2) hc hW R hl hn n0 n1 p0 pq ql y (by omega) hk (q - p).toNat p 0 0 (by omega) (by omega) (by omega) (Or.inr ⟨rfl, fun z => by omega⟩)
  · exact num_row (Q := fun z S' V' => Q 0 S' V') (d := d2) hc hW R hl hn n0 n1 p0 pq ql y (by omega) hk (q - p).toNat p 1 0 (by omega) (by omega) (by omega) (Or.inl ⟨rfl, by omega, fun i a b => by omega, by rw [show (p - p).toNat = 0 from by omega]; rfl⟩)
  · exact word_row (Q := fun z S' V' => Q 0 S' V') (d := d2) hc hW R hl hn n0 n1 p0 pq ql le y (by omega) hk (q - p).toNat p 0 (by omega) (by omega) (by rw [show (p - p).toNat = 0 from by omega]; rfl)
  · exact CT.im (by omega) (fun d3 hd3 => ct_keep hc hW rd hn n0 n1 (fun V1 hW1 => hk 0 0 V1 (Or.inr ⟨y, Or.inr ⟨by omega, rfl⟩⟩) hW1))
theorem nKp_tok {n k p v : Int} (n0 : 0 ≤ n) : nTok N (nKp N n k p v) := fun L j a b => by unfold nKp; rw [up_ne (by omega), up_ne (by omega), up_ne (by omega), up_ne (by omega)]
theorem nKp_41 {n k p v : Int} : nKp N n k p v 41 = fun j => if j = n then k else N 41 j := by
  funext j
  unfold nKp
  by_cases y : j = n
  · rw [if_pos y, y, up_ne (by omega), up_ne (by omega), up_ne (by omega), up_eq]
  · rw [if_neg y, up_ne (by omega), up_ne (by omega), up_ne (by omega), up_ne (by omega)]
theorem nKp_42 {n k p v : Int} : nKp N n k p v 42 = fun j => if j = n then p else N 42 j := by
  funext j
  unfold nKp
  by_cases y : j = n
  · rw [if_pos y, y, up_ne (by omega), up_ne (by omega), up_eq]
  · rw [if_neg y, up_ne (by omega), up_ne (by omega), up_ne (by omega), up_ne (by omega)]
theorem nKp_43 {n k p v : Int} : nKp N n k p v 43 = fun j => if j = n then v else N 43 j := by
  funext j
  unfold nKp
  by_cases y : j = n
  · rw [if_pos y, y, up_ne (by omega), up_eq]
  · rw [if_neg y, up_ne (by omega), up_ne (by omega), up_ne (by omega), up_ne (by omega)]
theorem nKp_40 {n k p v : Int} : nKp N n k p v 40 3 = n + 1 := by unfold nKp; rw [up_eq]
theorem Toks.kp {f E : Int → Int} {p q k v n : Int} (h : Toks f len (N 41) (N 42) (N 43) E n p) (t : TokS f len p q k v) : Toks f len (nKp N n k p v 41) (nKp N n k p v 42) (nKp N n k p v 43) (fun j => if j = n then q else E j) (n + 1) q := by
  rw [nKp_41, nKp_42, nKp_43]
  exact h.add t (fun j q => if_neg (by omega)) (fun j q => if_neg (by omega)) (fun j q => if_neg (by omega)) (if_pos rfl) (if_pos rfl) (if_pos rfl)
theorem wc_id {y : Int} (h0 : 0 ≤ y) (h1 : y < 65536) : wc y = y := by unfold wc; omega
theorem cut_loop {N0 : Mem} (hc : Cn c S) (hl : M 0 2 = len) (hd : 10 ≤ d) (hk : ∀ V' N' E', Wv c S V' = N' → nTok N0 N' → TK (M 1) len (N' 41) (N' 42) (N' 43) E' (N' 40 3) → Q 0 S V') : ∀ (r : Nat) (p n : Int) (V N : Mem) (E : Int → Int), Wv c S V = N → nTok N0 N → Rel c N M → N 40 3 = n → Toks (M 1) len (N 41) (N 42) (N 43) E n p → p ≤ len → len - p ≤ r → XJ l G bX9_cutUp Q d 7 [vr (c 40), vr (c 61), vi len, vi p, vu, vu] [] S V 0 0 := by
  have last : ∀ (n : Int) (V N : Mem) (E : Int → Int), Wv c S V = N → nTok N0 N → Rel c N M → N 40 3 = n → Toks (M 1) len (N 41) (N 42) (N 43) E n len → XJ l G bX9_cutUp Q d 7 [vr (c 40), vr (c 61), vi len, vi len, vu, vu] [] S V 0 0 := by
    intro n V N E hW nt R hn ts
    have rd := R.rd
    have tl := R.top.tl1
    have t0 := R.top.tl0
    obtain ⟨h1, h2, h3, h4, h5, h6⟩ := id ts
    refine vX9_cutUp_7 ⟨fun _ => ⟨by rw [(Wr hW).2.1]; exact rd.g40, CT.im (by omega) (fun d1 hd1 => ct_keep hc hW rd hn h5 (by omega) (fun V1 hW1 => ?_))⟩, fun z => absurd (Int.le_refl _) z⟩
    have fin := ts.fin (K' := fun j => if j = n then 1 else N 41 j) (P' := fun j => if j = n then len else N 42 j) (W' := fun j => if j = n then 0 else N 43 j) (by omega) (by omega) (fun j q => if_neg (by omega)) (fun j q => if_neg (by omega)) (fun j q => if_neg (by omega)) (if_pos rfl) (if_pos rfl)
    refine hk V1 _ (fun j => if j = n then len else E j) hW1 (nt.tr (nKp_tok (k := 1) (p := len) (v := 0) h5)) ?_
    have e40 : nKp N n 1 len 0 40 3 = n + 1 := nKp_40
    rw [← nKp_41 (N := N) (p := len) (v := 0), ← nKp_42 (N := N) (k := 1) (v := 0), ← nKp_43 (N := N) (k := 1) (p := len), ← e40] at fin
    exact fin
  intro r
  induction r with
  | zero =>
    intro p n V N E hW nt R hn ts pl hr
    have ep : p = len := by omega
    subst ep
    exact last n V N E hW nt R hn ts
  | succ r ih =>
    intro p n V N E hW nt R hn ts pl hr
    by_cases ep : len ≤ p
    · have ep' : p = len := by omega
      subst ep'
      exact last n V N E hW nt R hn ts
    · have t := R.top
      have rd := R.rd
      have tl := t.tl1
      have t0 := t.tl0
      obtain ⟨h1, h2, h3, h4, h5, h6⟩ := id ts
      obtain ⟨v', tg, ln⟩ := Wr hW
      have g40 : S.1 (c 40) = 10 := by rw [tg]; exact rd.g40
      have p0 : 0 ≤ p := by omega
      have fp : V (c 61) p = M 1 p := by rw [v' _ _ p0, t.tb p p0 (by omega)]
      have wbp := t.tr p p0 (by omega)
      have rg : -128 ≤ M 1 p ∧ M 1 p ≤ 127 := by unfold wb at wbp; omega
      have rm := rnk_m wbp
      refine vX9_cutUp_7 ⟨fun z => absurd z ep, fun _ => ⟨by rw [tg]; exact t.g61, p0, by rw [ln, t.n61]; omega, CT.pu (by omega) (fun d1 hd1 => ?_)⟩⟩
      rw [fp, and255i]
      refine ct_rankOf (by omega) ⟨rfl, rfl, ?_⟩
      rw [rm]
      refine ⟨fun rz => ⟨fun e32 => ⟨by omega, by omega, ih (p + 1) n V N E hW nt R hn (ts.sk (Or.inl (by omega))) (by omega) (by omega)⟩, fun n32 => ⟨fun e10 => ⟨by omega, by omega, ih (p + 1) n V N E hW nt R hn (ts.sk (Or.inr (by omega))) (by omega) (by omega)⟩, fun n10 => ?_⟩⟩, fun rp => ?_⟩
      · have rz0 : rnk (M 1 p) = 0 := by have := (rnk_bd (M 1 p)).1; omega
        have nb : ¬ blk (M 1 p) := by unfold blk; omega
        have tk : TokS (M 1) len p (p + 1) (sgn (M 1 p)) 0 := ⟨p0, by omega, by omega, nb, Or.inl ⟨rz0, rfl, rfl⟩⟩
        rw [wc_id (by omega) (by omega)]
        refine CT.of 5 0 0 (cst_indexOf (by decide)) (by omega) (Nat.zero_le _) (Nat.zero_le _) (fun z S' V1 hq => ?_)
        obtain ⟨rfl, rfl, rfl⟩ := hq
        refine ⟨fun neg => ⟨g40, CT.im (by omega) (fun d2 hd2 => ct_keep hc hW rd hn h5 (by omega) (fun V2 hW2 => ⟨by omega, by omega, ?_⟩))⟩, fun pos => ⟨g40, CT.im (by omega) (fun d2 hd2 => ct_keep hc hW rd hn h5 (by omega) (fun V2 hW2 => ⟨by omega, by omega, ?_⟩))⟩⟩
        · have e : sgn (M 1 p) = 0 := by unfold sgn; rw [if_pos neg]
          rw [e] at tk
          exact ih (p + 1) (n + 1) V2 _ _ hW2 (nt.tr (nKp_tok h5)) (R.tok (nKp_tok h5)) nKp_40 (ts.kp tk) (by omega) (by omega)
        · have e : sgn (M 1 p) = M 1 p % 256 := by unfold sgn; rw [if_neg pos]
          rw [e] at tk
          exact ih (p + 1) (n + 1) V2 _ _ hW2 (nt.tr (nKp_tok h5)) (R.tok (nKp_tok h5)) nKp_40 (ts.kp tk) (by omega) (by omega)
      · refine CT.pu (by omega) (fun d2 hd2 => qX9_rowEnd fun _ _ _ => vX9_rowEnd_0 (row_loop hW t hl (by omega) p0 (len - p).toNat p (Int.le_refl _) (by omega) (fun i a b => by omega) (fun q pq ql hall hmax => ⟨rfl, rfl, g40, CT.im (by omega) (fun d3 hd3 => ?_)⟩)))
        have pq' : p < q := by
          rcases Int.lt_or_eq_of_le pq with y | y
          · exact y
          · have := hmax (by omega)
            rw [← y] at this
            omega
        have nb : ¬ blk (M 1 p) := by
          have := hall p (by omega) pq'
          have := rnk_rng this
          unfold blk
          omega
        refine ct_keepRow hc hW R hl hn h5 (by omega) p0 pq' ql (by omega) (fun k v V2 rk hW2 => ⟨by omega, by omega, by omega, by omega, ?_⟩)
        rw [show q - 1 + 1 = q from by omega]
        exact ih q (n + 1) V2 _ _ hW2 (nt.tr (nKp_tok h5)) (R.tok (nKp_tok h5)) nKp_40 (ts.kp ⟨p0, pq', ql, nb, Or.inr ⟨hall, hmax, rk⟩⟩) ql (by omega)
theorem ct_cutUp (hc : Cn c S) (hW : Wv c S V = N) (R : Rel c N M) (hd : 12 ≤ d) (hk : ∀ V' N' E', Wv c S V' = N' → nTok N N' → TK (M 1) (M 0 2) (N' 41) (N' 42) (N' 43) E' (N' 40 3) → Q 0 S V') : Ct l G bX9_cutUp Q d 0 0 [vr (c 40), vr (c 61), vi (M 0 2)] S V := by
  have rd := R.rd
  have t0 := R.top.tl0
  obtain ⟨v', tg, ln⟩ := Wr hW
  have hW1 : Wv c S (up V (c 40) 3 0) = up N 40 3 0 := by rw [Wv_up hc (by decide), hW]
  have nt : nTok N (up N 40 3 0) := fun L j a b => up_ne (by omega)
  refine qX9_cutUp fun _ _ _ => vX9_cutUp_0 ⟨by rw [tg]; exact rd.g40, cut_loop (N0 := N) hc rfl (by omega) hk (M 0 2).toNat 0 0 _ _ (fun _ => 0) hW1 nt (R.tok nt) up_eq ?_ t0 (by omega)⟩
  refine ⟨fun j a b => by omega, ?_, ?_, fun i a b => ?_, by decide, ?_⟩
  · show (0 : Int) ≤ bef _ 0
    unfold bef; simp
  · show bef _ 0 ≤ 0
    unfold bef; simp
  · unfold bef at a
    simp at a
    omega
  · unfold bef; simp
end CUT2

