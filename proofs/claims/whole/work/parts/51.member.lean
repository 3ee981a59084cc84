/-! ===== member ===== -/
theorem and_split (k : Nat) (x m : Nat) : x &&& m = 2 ^ k * ((x / 2 ^ k) &&& (m / 2 ^ k)) + ((x % 2 ^ k) &&& (m % 2 ^ k)) := by
  have h1 : (x &&& m) / 2 ^ k = (x / 2 ^ k) &&& (m / 2 ^ k) := Nat.and_div_two_pow
  have h2 : (x &&& m) % 2 ^ k = (x % 2 ^ k) &&& (m % 2 ^ k) := Nat.and_mod_two_pow
  rw [← h1, ← h2]
  exact (Nat.div_add_mod _ _).symm
theorem and3 {a b e m : Nat} (ha : a < 256) (hb : b < 256) (he : e < 256) (hm : m < 128) : (a + 256 * b + 65536 * e) &&& (m + 256 * m + 65536 * m + 16777216 * m) = (a &&& m) + 256 * (b &&& m) + 65536 * (e &&& m) := by
  rw [and_split 8 (a + 256 * b + 65536 * e), show (a + 256 * b + 65536 * e) / 2 ^ 8 = b + 256 * e from by omega, show (a + 256 * b + 65536 * e) % 2 ^ 8 = a from by omega, show (m + 256 * m + 65536 * m + 16777216 * m) / 2 ^ 8 = m + 256 * m + 65536 * m from by omega, show (m + 256 * m + 65536 * m + 16777216 * m) % 2 ^ 8 = m from by omega]
  rw [and_split 8 (b + 256 * e), show (b + 256 * e) / 2 ^ 8 = e from by omega, show (b + 256 * e) % 2 ^ 8 = b from by omega, show (m + 256 * m + 65536 * m) / 2 ^ 8 = m + 256 * m from by omega, show (m + 256 * m + 65536 * m) % 2 ^ 8 = m from by omega]
  rw [and_split 8 e, show e / 2 ^ 8 = 0 from by omega, show e % 2 ^ 8 = e from by omega, show (m + 256 * m) % 2 ^ 8 = m from by omega, Nat.zero_and]
  omega
def bu (a : Nat) : Nat := a - ((a / 2) &&& 85)
def bw (z : Nat) : Nat := (z &&& 51) + ((z / 4) &&& 51)
def bq (z : Nat) : Nat := (z + z / 16) &&& 15
theorem bu_ok : ∀ a, a < 256 → ∀ r, r < 2 → ((a / 2 + 128 * r) &&& 85) = ((a / 2) &&& 85) ∧ ((a / 2) &&& 85) ≤ a ∧ bu a < 256 := by decide +kernel
theorem bw_ok : ∀ z, z < 256 → ∀ r, r < 4 → ((z / 4 + 64 * r) &&& 51) = ((z / 4) &&& 51) := by decide +kernel
theorem bv_ok : ∀ a, a < 256 → bw (bu a) % 16 ≤ 4 ∧ bw (bu a) / 16 ≤ 4 ∧ bq (bw (bu a)) ≤ 8 := by decide +kernel
theorem bq_ok : ∀ z, z < 69 → ∀ r, r < 5 → ((z + z / 16 + 16 * r) &&& 15) = bq z := by decide +kernel
def cnb (x : Nat) : Nat → Int
  | 0 => 0
  | n + 1 => cnb x n + (if x.testBit n then 1 else 0)
theorem cnb_ok : ∀ a, a < 256 → (bq (bw (bu a)) : Int) = cnb a 8 := by decide +kernel
theorem cnb_add {x m : Nat} : ∀ n, cnb x (m + n) = cnb x m + cnb (x / 2 ^ m) n := by
  intro n
  induction n with
  | zero => show cnb x m = cnb x m + 0; omega
  | succ n ih =>
    show cnb x (m + n) + (if x.testBit (m + n) then 1 else 0) = cnb x m + (cnb (x / 2 ^ m) n + (if (x / 2 ^ m).testBit n then 1 else 0))
    rw [ih, Nat.testBit_div_two_pow, Nat.add_comm n m]
    omega
theorem cnb_mod {x m : Nat} : ∀ n, n ≤ m → cnb x n = cnb (x % 2 ^ m) n := by
  intro n
  induction n with
  | zero => intro _; rfl
  | succ n ih =>
    intro h
    show cnb x n + _ = cnb (x % 2 ^ m) n + _
    rw [ih (by omega), Nat.testBit_mod_two_pow]
    simp only [show n < m from by omega, decide_true, Bool.true_and]
theorem cnb_bd {x : Nat} : ∀ n : Nat, 0 ≤ cnb x n ∧ cnb x n ≤ n := by
  intro n
  induction n with
  | zero => exact ⟨Int.le_refl _, Int.le_refl _⟩
  | succ n ih =>
    have e : cnb x (n + 1) = cnb x n + (if x.testBit n then 1 else 0) := rfl
    rw [e]
    split <;> omega
theorem bc_nat {a b e : Nat} (ha : a < 256) (hb : b < 256) (he : e < 256) : ∃ y1 y2 y3 : Nat, (a + 256 * b + 65536 * e) - (((a + 256 * b + 65536 * e) / 2) &&& 1431655765) = y1 ∧ (((a + 256 * b + 65536 * e) / 2) &&& 1431655765) ≤ a + 256 * b + 65536 * e ∧ (y1 &&& 858993459) + ((y1 / 4) &&& 858993459) = y2 ∧ y2 < 16777216 ∧ ((y2 + y2 / 16) &&& 252645135) = y3 ∧ y3 < 16777216 ∧ y3 + y3 / 256 < 33554432 ∧ (((y3 + y3 / 256) + (y3 + y3 / 256) / 65536) &&& 63) = bq (bw (bu a)) + bq (bw (bu b)) + bq (bw (bu e)) := by
  have ua := bu_ok a ha (b % 2) (by omega)
  have ub := bu_ok b hb (e % 2) (by omega)
  have ue := bu_ok e he 0 (by omega)
  have va := bv_ok a ha
  have vb := bv_ok b hb
  have ve := bv_ok e he
  have h1 : ((a + 256 * b + 65536 * e) / 2) &&& 1431655765 = ((a / 2) &&& 85) + 256 * ((b / 2) &&& 85) + 65536 * ((e / 2) &&& 85) := by
    rw [show (a + 256 * b + 65536 * e) / 2 = (a / 2 + 128 * (b % 2)) + 256 * (b / 2 + 128 * (e % 2)) + 65536 * (e / 2 + 128 * 0) from by omega, show (1431655765 : Nat) = 85 + 256 * 85 + 65536 * 85 + 16777216 * 85 from by decide, and3 (by omega) (by omega) (by omega) (by decide), ua.1, ub.1, ue.1]
  have e1 : (a + 256 * b + 65536 * e) - (((a + 256 * b + 65536 * e) / 2) &&& 1431655765) = bu a + 256 * bu b + 65536 * bu e := by
    rw [h1]
    unfold bu
    omega
  have wa := bw_ok (bu a) ua.2.2 (bu b % 4) (by omega)
  have wb := bw_ok (bu b) ub.2.2 (bu e % 4) (by omega)
  have we := bw_ok (bu e) ue.2.2 0 (by omega)
  have e2 : ((bu a + 256 * bu b + 65536 * bu e) &&& 858993459) + (((bu a + 256 * bu b + 65536 * bu e) / 4) &&& 858993459) = bw (bu a) + 256 * bw (bu b) + 65536 * bw (bu e) := by
    rw [show (bu a + 256 * bu b + 65536 * bu e) / 4 = (bu a / 4 + 64 * (bu b % 4)) + 256 * (bu b / 4 + 64 * (bu e % 4)) + 65536 * (bu e / 4 + 64 * 0) from by omega, show (858993459 : Nat) = 51 + 256 * 51 + 65536 * 51 + 16777216 * 51 from by decide, and3 ua.2.2 ub.2.2 ue.2.2 (by decide), and3 (by omega) (by omega) (by omega) (by decide), wa, wb, we]
    unfold bw
    omega
  have xa := bq_ok (bw (bu a)) (by omega) (bw (bu b) % 16) (by omega)
  have xb := bq_ok (bw (bu b)) (by omega) (bw (bu e) % 16) (by omega)
  have xe := bq_ok (bw (bu e)) (by omega) 0 (by omega)
  have e3 : ((bw (bu a) + 256 * bw (bu b) + 65536 * bw (bu e)) + (bw (bu a) + 256 * bw (bu b) + 65536 * bw (bu e)) / 16) &&& 252645135 = bq (bw (bu a)) + 256 * bq (bw (bu b)) + 65536 * bq (bw (bu e)) := by
    rw [show (bw (bu a) + 256 * bw (bu b) + 65536 * bw (bu e)) + (bw (bu a) + 256 * bw (bu b) + 65536 * bw (bu e)) / 16 = (bw (bu a) + bw (bu a) / 16 + 16 * (bw (bu b) % 16)) + 256 * (bw (bu b) + bw (bu b) / 16 + 16 * (bw (bu e) % 16)) + 65536 * (bw (bu e) + bw (bu e) / 16 + 16 * 0) from by omega, show (252645135 : Nat) = 15 + 256 * 15 + 65536 * 15 + 16777216 * 15 from by decide, and3 (by omega) (by omega) (by omega) (by decide), xa, xb, xe]
  refine ⟨_, _, _, e1, ?_, e2, by omega, e3, by omega, by omega, ?_⟩
  · rw [h1]; omega
  · rw [show (63 : Nat) = 2 ^ 6 - 1 from by decide, Nat.and_two_pow_sub_one_eq_mod]
    have ra := va.2.2
    have rb := vb.2.2
    have re := ve.2.2
    generalize bq (bw (bu a)) = p at ra ⊢
    generalize bq (bw (bu b)) = q at rb ⊢
    generalize bq (bw (bu e)) = r at re ⊢
    clear xa xb xe e3 e2 e1 h1 wa wb we ua ub ue va vb ve
    have d1 : (p + 256 * q + 65536 * r) / 256 = q + 256 * r := by omega
    rw [d1]
    have d2 : (p + 256 * q + 65536 * r + (q + 256 * r)) / 65536 = r := by omega
    rw [d2]
    omega
theorem bAndN {z : Int} {m : Nat} (z0 : 0 ≤ z) (z1 : z < 2147483648) (hm : m < 2147483648) : bAnd z (m : Int) = ((z.toNat &&& m : Nat) : Int) := by
  rw [bAnd_nat z0 z1]
  have : (BitVec.ofInt 32 (m : Int)).toNat = m := by
    rw [BitVec.ofInt_natCast, BitVec.toNat_ofNat]
    omega
  rw [this]
theorem wr_idn {z : Int} (h0 : 0 ≤ z) (h1 : z < 2147483648) : wr z = z := by unfold wr; omega
theorem ct_bitCount {l : Launch} {G : GT} {Q : Int → Sh → Mem → Prop} {S : Sh} {V : Mem} {d mc ms : Nat} {x : Int} (x0 : 0 ≤ x) (x1 : x < 16777216) (h : Q (cnb x.toNat 24) S V) : Ct l G bJ6_bitCount_0f7a4 Q d mc ms [vi x] S V := qJ6_bitCount_0f7a4 fun _ => vJ6_bitCount_0f7a4_0 <| by
  obtain ⟨a, b, e, ha, hb, he, hx⟩ : ∃ a b e : Nat, a < 256 ∧ b < 256 ∧ e < 256 ∧ x.toNat = a + 256 * b + 65536 * e := ⟨x.toNat % 256, x.toNat / 256 % 256, x.toNat / 65536, by omega, by omega, by omega, by omega⟩
  obtain ⟨y1, y2, y3, k1, k1', k2, k2', k3, k3', k4, k5⟩ := bc_nat ha hb he
  rw [← hx] at k1 k1'
  have u1 : bUshr x 1 = ((x.toNat / 2 : Nat) : Int) := by
    rw [bUshr_pos x0 (by omega) (by decide) (by decide)]
    show x / 2 = _
    omega
  have a1 : bAnd (bUshr x 1) 1431655765 = (((x.toNat / 2) &&& 1431655765 : Nat) : Int) := by
    rw [u1]
    exact bAndN (m := 1431655765) (by omega) (by omega) (by decide)
  have s1 : wr (x - bAnd (bUshr x 1) 1431655765) = (y1 : Int) := by
    rw [a1, wr_idn (by omega) (by omega)]
    omega
  have b1 : y1 < 16777216 := by omega
  have s2 : wr (bAnd (y1 : Int) 858993459 + bAnd (bUshr (y1 : Int) 2) 858993459) = (y2 : Int) := by
    have u2 : bUshr (y1 : Int) 2 = ((y1 / 4 : Nat) : Int) := by
      rw [bUshr_pos (by omega) (by omega) (by decide) (by decide)]
      show (y1 : Int) / 4 = _
      omega
    have c1 : bAnd (y1 : Int) 858993459 = ((y1 &&& 858993459 : Nat) : Int) := bAndN (m := 858993459) (by omega) (by omega) (by decide)
    have c2 : bAnd (((y1 / 4 : Nat) : Int)) 858993459 = (((y1 / 4) &&& 858993459 : Nat) : Int) := bAndN (m := 858993459) (by omega) (by omega) (by decide)
    rw [u2, c1, c2, wr_idn (by omega) (by omega)]
    omega
  have s3 : bAnd (wr ((y2 : Int) + bUshr (y2 : Int) 4)) 252645135 = (y3 : Int) := by
    have u2 : bUshr (y2 : Int) 4 = ((y2 / 16 : Nat) : Int) := by
      rw [bUshr_pos (by omega) (by omega) (by decide) (by decide)]
      show (y2 : Int) / 16 = _
      omega
    rw [u2, wr_idn (by omega) (by omega), show (y2 : Int) + ((y2 / 16 : Nat) : Int) = ((y2 + y2 / 16 : Nat) : Int) from by omega]
    exact (bAndN (m := 252645135) (by omega) (by omega) (by decide)).trans (by rw [Int.toNat_natCast, k3])
  have s4 : wr ((y3 : Int) + bUshr (y3 : Int) 8) = ((y3 + y3 / 256 : Nat) : Int) := by
    have u2 : bUshr (y3 : Int) 8 = ((y3 / 256 : Nat) : Int) := by
      rw [bUshr_pos (by omega) (by omega) (by decide) (by decide)]
      show (y3 : Int) / 256 = _
      omega
    rw [u2, wr_idn (by omega) (by omega)]
    omega
  have s5 : bAnd (wr (((y3 + y3 / 256 : Nat) : Int) + bUshr ((y3 + y3 / 256 : Nat) : Int) 16)) 63 = cnb x.toNat 24 := by
    have u2 : bUshr ((y3 + y3 / 256 : Nat) : Int) 16 = (((y3 + y3 / 256) / 65536 : Nat) : Int) := by
      rw [bUshr_pos (by omega) (by omega) (by decide) (by decide)]
      show ((y3 + y3 / 256 : Nat) : Int) / 65536 = _
      omega
    rw [u2, wr_idn (by omega) (by omega), show ((y3 + y3 / 256 : Nat) : Int) + (((y3 + y3 / 256) / 65536 : Nat) : Int) = ((y3 + y3 / 256 + (y3 + y3 / 256) / 65536 : Nat) : Int) from by omega]
    refine (bAndN (m := 63) (by omega) (by omega) (by decide)).trans ?_
    rw [Int.toNat_natCast, k5]
    have q1 := cnb_add (x := x.toNat) (m := 8) 16
    have q2 := cnb_add (x := x.toNat / 2 ^ 8) (m := 8) 8
    rw [cnb_mod (x := x.toNat) (m := 8) 8 (by decide)] at q1
    rw [cnb_mod (x := x.toNat / 2 ^ 8) (m := 8) 8 (by decide)] at q2
    rw [show x.toNat % 2 ^ 8 = a from by omega] at q1
    rw [show x.toNat / 2 ^ 8 % 2 ^ 8 = b from by omega, show x.toNat / 2 ^ 8 / 2 ^ 8 = e from by omega] at q2
    rw [show (24 : Nat) = 8 + 16 from rfl, q1, show (16 : Nat) = 8 + 8 from rfl, q2, ← cnb_ok a ha, ← cnb_ok b hb, ← cnb_ok e he]
    omega
  rw [s1, s2, s3, s4, s5]
  exact h
theorem pm_mem {M : Mem} {Q : Int → Mem → Prop} {d : Nat} {s x : Int} (s0 : 0 ≤ s) (s1 : s < 40) (x0 : 0 ≤ M 71 s) (x1 : M 71 s < 16777216) (hq : Q (cnb (M 71 s).toNat 24) M) : ∀ (n : Nat) (i : Int), i = 24 - n → n ≤ 24 → PM (d + 1) n_member_24 [s, -1, cnb (M 71 s).toNat i.toNat, i] M Q := by
  intro n
  induction n with
  | zero =>
    intro i hi _
    have : i = 24 := by omega
    subst this
    exact st_member_24 ⟨fun _ => ⟨fun z => absurd rfl z, fun _ => hq⟩, fun z => absurd (by decide) z⟩
  | succ n ih =>
    intro i hi hn
    have k := ih (i + 1) (by omega) (by omega)
    have bd := cnb_bd (x := (M 71 s).toNat) i.toNat
    have e : cnb (M 71 s).toNat (i + 1).toNat = cnb (M 71 s).toNat i.toNat + (if (M 71 s).toNat.testBit i.toNat then 1 else 0) := by
      rw [show (i + 1).toNat = i.toNat + 1 from by omega]
      rfl
    rw [e] at k
    refine st_member_24 ⟨fun z => absurd z (by omega), fun _ => ⟨s0, s1, ?_⟩⟩
    rw [bitS x0 (by omega) (by omega) (by omega)]
    cases hb : (M 71 s).toNat.testBit i.toNat with
    | true =>
      rw [hb] at k
      exact ⟨fun _ => ⟨fun _ => ⟨by omega, by omega, by omega, by omega, k⟩, fun z => absurd (by omega) z⟩, fun z => absurd (by decide) z⟩
    | false =>
      rw [hb] at k
      refine ⟨fun z => absurd rfl z, fun _ => ⟨by omega, by omega, ?_⟩⟩
      simpa using k
theorem ord_loop {l : Launch} {G : GT} {Q : Int → Sh → Mem → Prop} {c : Int → Int} {S : Sh} {V M : Mem} {s k : Int} {d : Nat} (hR : Rel c (Wv c S V) M) (s0 : 0 ≤ s) (s1 : s < M 0 72) (hi : inI k) (hd : 1 ≤ d) (k1 : k ≠ -1) (hk : ∀ z, (0 ≤ k → RunM 2047 n_member_24 [s, k, 0, 0] M z M) → (k < 0 → z = -1) → Q z S V) : ∀ (n : Nat) (i m : Int), i = 24 - n → n ≤ 24 → 0 ≤ m → m ≤ i → (0 ≤ k → m ≤ k) → (0 ≤ k → ∀ Qr : Int → Mem → Prop, PM 2047 n_member_24 [s, k, m, i] M Qr → PM 2047 n_member_24 [s, k, 0, 0] M Qr) → XJ l G bX6_ordinalAt Q d 4 [vr (c (128 * s + 66)), vi k, vi (wr (k - m)), vi i] [] S V 0 0 := by
  have ks := hR.st s0 s1
  have x0 := ks.bt0
  have x1 := ks.bt1
  have ns1 := hR.top.ns1
  unfold inI at hi
  intro n
  induction n with
  | zero =>
    intro i m hi' _ m0 m1 mk reach
    exact vX6_ordinalAt_4 ⟨fun _ => hk (-1) (fun q Q hq => reach q Q (st_member_24 ⟨fun _ => ⟨fun _ => hq, fun z => absurd k1 z⟩, fun z => absurd (by omega) z⟩)) (fun _ => rfl), fun z => absurd (by omega) z⟩
  | succ n ih =>
    intro i m hi' hn m0 m1 mk reach
    refine vX6_ordinalAt_4 ⟨fun z => absurd z (by omega), fun _ => ⟨ks.vg, CT.pu hd (fun d1 hd1 => ct_contains ks.vg ks.vbt x0 x1 (by omega) (by omega) (fun hb => ⟨rfl, rfl, fun z => absurd z (by decide), fun _ => ⟨fun nz => ⟨by omega, by omega, ?_⟩, fun ez => ?_⟩⟩) (fun hb => ⟨rfl, rfl, fun _ => ⟨by omega, by omega, ?_⟩, fun z => absurd rfl z⟩))⟩⟩
    · have e : wr (wr (k - m) + -1) = wr (k - (m + 1)) := by unfold wr; omega
      rw [e]
      have nk : k ≠ m := fun q => nz (by rw [q]; unfold wr; omega)
      refine ih (i + 1) (m + 1) (by omega) (by omega) (by omega) (by omega) (fun q => by have := mk q; omega) (fun q Qr r => reach q Qr (st_member_24 ⟨fun z => absurd z (by omega), fun _ => ⟨s0, by omega, ?_⟩⟩))
      rw [bitS x0 (by omega) (by omega) (by omega), hb]
      exact ⟨fun _ => ⟨fun _ => ⟨by omega, by omega, by omega, by omega, r⟩, fun z => absurd (by omega) z⟩, fun z => absurd (by decide) z⟩
    · have ek : k = m := by
        have : wr (k - m) = 0 := by omega
        unfold wr at this
        omega
      refine hk i (fun q Q hq => reach q Q (st_member_24 ⟨fun z => absurd z (by omega), fun _ => ⟨s0, by omega, ?_⟩⟩)) (fun q => by omega)
      rw [bitS x0 (by omega) (by omega) (by omega), hb]
      exact ⟨fun _ => ⟨fun z => absurd ek.symm z, fun _ => hq⟩, fun z => absurd (by decide) z⟩
    · refine ih (i + 1) m (by omega) (by omega) m0 (by omega) mk (fun q Qr r => reach q Qr (st_member_24 ⟨fun z => absurd z (by omega), fun _ => ⟨s0, by omega, ?_⟩⟩))
      rw [bitS x0 (by omega) (by omega) (by omega), hb]
      exact ⟨fun z => absurd rfl z, fun _ => ⟨by omega, by omega, r⟩⟩
theorem call_member (s k : Int) : CallOK CI bX11_member n_member_0 [vi s, vi k] [s, k] := call_pure fun l G c S V M Q hc hR hk => qX11_member fun _ _ ik => vX11_member_0 <| by
  have t := hR.top
  have ns1 := t.ns1
  refine ⟨t.vg60, CT.pu (by decide) (fun d1 hd1 => ct_setAt hR (fun s0 s1 => ⟨rfl, rfl, fun _ => ?_, fun z => absurd (hc.2 _).1 z⟩) (fun h => ⟨rfl, rfl, fun z => absurd rfl z, fun _ => hk (-1) (fun Q hq => st_member_0 ⟨fun _ => hq, fun y => ⟨fun _ => hq, fun y2 => absurd (by omega) h⟩⟩)⟩))⟩
  have ks := hR.st s0 s1
  have x0 := ks.bt0
  have x1 := ks.bt1
  refine ⟨fun k1 => ⟨ks.vg, CT.im (by decide) (fun d2 hd2 => qX6_ordinalAt fun _ _ => vX6_ordinalAt_0 ?_)⟩, fun k1 => ⟨ks.vg, ?_⟩⟩
  · have e : k = wr (k - 0) := by unfold inI at ik; unfold wr; omega
    have q := ord_loop (l := l) (G := G) (Q := fun z S' V' => Q z S' V') (d := d2) hR s0 s1 ik (by omega) k1 (fun z r r2 => hk z (fun Q hq => ?_)) 24 0 0 (by decide) (by decide) (by decide) (by decide) (fun q => q) (fun _ Qr q => q)
    · rw [← e] at q
      exact q
    · by_cases k0 : 0 ≤ k
      · exact st_member_0 ⟨fun z => absurd z (by omega), fun _ => ⟨fun z => absurd z (by omega), fun _ => ⟨fun _ => r k0 Q hq, fun z => absurd (by omega) z⟩⟩⟩
      · have := r2 (by omega)
        subst this
        exact st_member_0 ⟨fun z => absurd z (by omega), fun _ => ⟨fun z => absurd z (by omega), fun _ => ⟨fun z => absurd z (by omega), fun _ => hq⟩⟩⟩
  · have k1' : k = -1 := by omega
    subst k1'
    rw [ks.vbt]
    refine CT.pu (by decide) (fun d2 hd2 => ct_bitCount x0 x1 ⟨rfl, rfl, hk _ (fun Q hq => st_member_0 ⟨fun z => absurd z (by omega), fun _ => ⟨fun z => absurd z (by omega), fun _ => ⟨fun _ => ?_, fun z => absurd (by decide) z⟩⟩⟩)⟩)
    exact pm_mem (x := 0) s0 (by omega) x0 x1 hq 24 0 (by decide) (by decide)

