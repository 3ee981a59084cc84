/-! ===== decode ===== -/
theorem Rel.cg {c : Int → Int} {N M M' : Mem} (h : Rel c N M) (h0 : ∀ j, (j = 2 ∨ j = 8 ∨ j = 40 ∨ j = 46 ∨ j = 68 ∨ j = 69 ∨ j = 72 ∨ j = 76 ∨ j = 81) → M' 0 j = M 0 j) (hk : ∀ k j, (k = 7 ∨ (10 ≤ k ∧ k ≤ 39) ∨ (52 ≤ k ∧ k ≤ 62) ∨ k = 66 ∨ k = 67 ∨ (70 ≤ k ∧ k ≤ 80)) → M' k j = M k j) (ht : ∀ j, 0 ≤ j → j < M 0 2 → M' 1 j = M 1 j) : Rel c N M' := by
  refine ⟨?_, ?_, ?_, fun s s0 s1 => ?_, fun s s0 s1 => ?_, fun s s0 s1 => ?_, fun s s0 s1 => ?_, fun s s0 s1 => ?_⟩
  · apply Rtop.fr h.top <;> intros <;> first | rfl | exact h0 _ (by omega) | exact hk _ _ (by omega) | exact ht _ (by omega) (by omega)
  · apply Rwk.fr h.wk <;> intros <;> first | rfl | exact h0 _ (by omega) | exact hk _ _ (by omega) | exact funext fun _ => hk _ _ (by omega)
  · apply Rrd.fr h.rd <;> intros <;> first | rfl | exact h0 _ (by omega) | exact hk _ _ (by omega) | exact funext fun _ => hk _ _ (by omega)
  · rw [h0 _ (by omega)] at s1
    apply Rst.fr (h.st s0 s1) <;> intros <;> first | rfl | exact h0 _ (by omega) | exact hk _ _ (by omega) | exact funext fun _ => hk _ _ (by omega)
  · rw [h0 _ (by omega)] at s1
    apply Rmp.fr (h.mp s0 s1) <;> intros <;> first | rfl | exact h0 _ (by omega) | exact hk _ _ (by omega) | exact funext fun _ => hk _ _ (by omega)
  · rw [h0 _ (by omega)] at s1
    apply Rdr.fr (h.dr s0 s1) <;> intros <;> first | rfl | exact h0 _ (by omega) | exact hk _ _ (by omega) | exact funext fun _ => hk _ _ (by omega)
  · rw [h0 _ (by omega)] at s1
    apply Rms.fr (h.ms s0 s1) <;> intros <;> first | rfl | exact h0 _ (by omega) | exact hk _ _ (by omega) | exact funext fun _ => hk _ _ (by omega)
  · rw [h0 _ (by omega)] at s1
    exact (h.bk s0 s1).fr s0 (fun _ _ _ => rfl) (fun _ _ => rfl) (fun k j q => hk k j (by unfold bkk at q; omega)) (h0 40 (by omega))
def dv (M : Mem) : Mem := fun k j => if k = 1 then M 82 j else if k = 0 ∧ j = 2 then M 0 83 else M k j
theorem dv_1 {M : Mem} {j : Int} : dv M 1 j = M 82 j := by unfold dv; rw [if_pos rfl]
theorem dv_2 {M : Mem} : dv M 0 2 = M 0 83 := by unfold dv; rw [if_neg (by decide), if_pos ⟨rfl, rfl⟩]
theorem dv_ne {M : Mem} {k j : Int} (h : k ≠ 1) (h2 : k ≠ 0 ∨ j ≠ 2) : dv M k j = M k j := by unfold dv; rw [if_neg h, if_neg (by omega)]
def mPut (M : Mem) (x : Int) : Mem := up (up M 82 (M 0 83) (wb (wb x))) 0 83 (M 0 83 + 1)
theorem mPut_ne {M : Mem} {x k j : Int} (h : k ≠ 82) (h2 : k ≠ 0 ∨ j ≠ 83) : mPut M x k j = M k j := by unfold mPut; rw [up_ne (by omega), up_ne (by omega)]
theorem mPut_83 {M : Mem} {x : Int} : mPut M x 0 83 = M 0 83 + 1 := by unfold mPut; rw [up_eq]
theorem mPut_82 {M : Mem} {x j : Int} : mPut M x 82 j = if j = M 0 83 then wb (wb x) else M 82 j := by
  unfold mPut
  rw [up_ne (by omega)]
  by_cases y : j = M 0 83
  · rw [if_pos y, y, up_eq]
  · rw [if_neg y, up_ne (by omega)]
theorem wb_wb (x : Int) : wb (wb x) = wb x := by unfold wb; omega
def DS (c : Int → Int) (S : Sh) (V0 M0 V M : Mem) : Prop := Rel c (Wv c S V) (dv M) ∧ (∀ L j, L = 80 ∨ L % 128 = 81 → V (c L) j = V0 (c L) j) ∧ (∀ k j, k ≠ 82 → (k ≠ 0 ∨ j ≠ 83) → M k j = M0 k j) ∧ (∀ j, 0 ≤ j → j < M 0 83 → wb (M 82 j) = M 82 j) ∧ 0 ≤ M 0 83
theorem pm_put {d : Nat} {M : Mem} {Q : Int → Mem → Prop} {x : Int} (h0 : 0 ≤ M 0 83) (h1 : M 0 83 < 3000) (hq : Q 0 (mPut M x)) : PM (d + 1) n_put__0 [x] M Q := st_put__0 ⟨h0, h1, by omega, by omega, hq⟩
theorem p10 : ∀ r : Nat, (1 : Int) ≤ 10 ^ r := by
  intro r
  induction r with
  | zero => decide
  | succ r ih => rw [Int.pow_succ]; omega
section DEC
variable {l : Launch} {G : GT} {Q : Int → Sh → Mem → Prop} {c : Int → Int} {S : Sh} {V0 M0 V M : Mem} {d mc ms : Nat}
theorem DS.put {x : Int} (hc : Cn c S) (h : DS c S V0 M0 V M) (n1 : M 0 83 < 3000) (hk : ∀ V', DS c S V0 M0 V' (mPut M x) → Q 0 S V') : Ct l G bX11_putByte Q d mc ms [vr (c 60), vi x] S V := by
  obtain ⟨h1, h2, h3, h4, h5⟩ := h
  have e2 : dv M 0 2 = M 0 83 := dv_2
  refine ct_putByte h1 (by omega) (hk _ ⟨?_, fun L j q => (upc_ne hc (by omega)).trans ((upc_ne hc (by omega)).trans (h2 L j q)), fun k j a b => (mPut_ne a b).trans (h3 k j a b), fun j j0 j1 => ?_, by rw [mPut_83]; omega⟩)
  · rw [Wv_tape hc (by omega)]
    refine (h1.tape (b := wb (wb x)) (by omega) (wb2 x)).cg (fun j q => ?_) (fun k j q => ?_) (fun j j0 j1 => ?_)
    · by_cases y : j = 2
      · subst y
        rw [dv_2, mPut_83, up_eq, e2]
      · rw [dv_ne (by decide) (by omega), mPut_ne (by decide) (by omega), up_ne (by omega), up_ne (by omega), dv_ne (by decide) (by omega)]
    · rw [dv_ne (by omega) (by omega), mPut_ne (by omega) (by omega), up_ne (by omega), up_ne (by omega), dv_ne (by omega) (by omega)]
    · rw [dv_1, mPut_82, up_ne (V := up (dv M) 1 (dv M 0 2) (wb (wb x))) (by omega), e2]
      by_cases y : j = M 0 83
      · rw [if_pos y, y, up_eq]
      · rw [if_neg y, up_ne (by omega), dv_1]
  · rw [mPut_83] at j1
    rw [mPut_82]
    by_cases y : j = M 0 83
    · rw [if_pos y, wb_wb, wb_wb]
    · rw [if_neg y]
      exact h4 j j0 (by omega)
theorem name_loop {v n q i : Int} (hc : Cn c S) (q0 : 0 ≤ q) (q1 : q < 1220) (hd : 10 ≤ d) : ∀ (r : Nat) (k : Int) (V M : Mem), DS c S V0 M0 V M → NR M0 v n → 0 ≤ k → n % 16 - k = r → M 0 83 + r ≤ 2900 → (∀ V' M', DS c S V0 M0 V' M' → M' 0 83 = M 0 83 + r → (∀ Qr : Int → Mem → Prop, PM 2047 n_decode_67 [i, q, n, n % 16] M' Qr → PM 2047 n_decode_67 [i, q, n, k] M Qr) → Q 0 S V') → XJ l G bX11_putName Q d 8 [vr (c 60), vl v, vu, vi (n % 16), vi k] [] S V 0 0 := by
  intro r
  induction r with
  | zero =>
    intro k V M h nr k0 hr hb hk
    refine vX11_putName_8 ⟨fun _ => hk V M h (by omega) (fun Qr q => by rw [show k = n % 16 from by omega]; exact q), fun z => absurd (by omega) z⟩
  | succ r ih =>
    intro k V M h nr k0 hr hb hk
    obtain ⟨m0, m1, m10, mp, hrk, hv⟩ := id nr
    have nr' : NR (dv M) v n := by
      have e : ∀ j, dv M 7 j = M0 7 j := fun j => by rw [dv_ne (by decide) (by omega)]; exact h.2.2.1 7 j (by decide) (by omega)
      unfold NR
      simp only [e]
      exact nr
    have e7 : dv M 7 (n / 16 + k) = M 7 (n / 16 + k) := dv_ne (by decide) (by omega)
    refine vX11_putName_8 ⟨fun z => absurd z (by omega), fun _ => CT.pu (by omega) (fun d1 hd1 => ct_signOfName nr' k0 (by omega) (by omega) ⟨rfl, rfl, h.1.top.vg60, CT.im (by omega) (fun d2 hd2 => h.put hc (by omega) (fun V1 h1 => ⟨by omega, by omega, ?_⟩))⟩)⟩
    rw [e7] at h1
    have t1 : n.tmod 16 = n % 16 := Int.tmod_eq_emod_of_nonneg m0
    have t2 : n.tdiv 16 = n / 16 := Int.tdiv_eq_ediv_of_nonneg m0
    refine ih (k + 1) V1 _ h1 nr (by omega) (by omega) (by rw [mPut_83]; omega) (fun V2 M2 h2 e2 reach => hk V2 M2 h2 (by rw [mPut_83] at e2; omega) (fun Qr r => ?_))
    refine st_decode_67 ?_
    unfold B_decode_67
    rw [t1, t2]
    exact ⟨fun z => absurd z (by omega), fun _ => ⟨by omega, by omega, by omega, by omega, pm_put h.2.2.2.2 (by omega) ⟨by omega, by omega, reach Qr r⟩⟩⟩
theorem num_loop {a w q i n : Int} (hc : Cn c S) (q0 : 0 ≤ q) (q1 : q < 1220) (a0 : 0 ≤ a) (a1 : a ≤ 999999999) (hd : 4 ≤ d) : ∀ (r : Nat) (u : Int) (V M : Mem), DS c S V0 M0 V M → M0 80 q = a → (r = 0 → u = 0) → 0 ≤ u → u < 10 ^ r → (1 ≤ r → 10 ^ (r - 1) ≤ u) → M 0 83 + r ≤ 2900 → (∀ V' M', DS c S V0 M0 V' M' → M' 0 83 = M 0 83 + r → (∀ Qr : Int → Mem → Prop, PM 2047 n_decode_24 [i, q + 1] M' Qr → PM 2047 n_decode_143 [i, q, n, u] M Qr) → Q 0 S V') → XJ l G bX11_putNumber Q d 31 [vr (c 60), vi a, vi w, vi u] [] S V 0 0 := by
  intro r
  induction r with
  | zero =>
    intro u V M h ha z0 u0 u1 u2 hb hk
    have := z0 rfl
    subst this
    exact vX11_putNumber_31 ⟨fun _ => hk V M h (by omega) (fun Qr r => st_decode_143 ⟨fun _ => ⟨by omega, by omega, r⟩, fun z => absurd (by omega) z⟩), fun z => absurd (by omega) z⟩
  | succ r ih =>
    intro u V M h ha z0 u0 u1 u2 hb hk
    have up0 : 1 ≤ u := by
      have := u2 (by omega)
      have : (1 : Int) ≤ 10 ^ r := p10 r
      simp at this u2
      omega
    have t1 : u.tdiv 10 = u / 10 := Int.tdiv_eq_ediv_of_nonneg u0
    have t2 : 0 ≤ (a.tdiv u).tmod 10 ∧ (a.tdiv u).tmod 10 < 10 := by
      have : 0 ≤ a.tdiv u := Int.tdiv_nonneg a0 u0
      rw [Int.tmod_eq_emod_of_nonneg this]
      omega
    have ea : M 80 q = a := (h.2.2.1 80 q (by decide) (by omega)).trans ha
    refine vX11_putNumber_31 ⟨fun z => absurd z (by omega), fun _ => ⟨by omega, by omega, by omega, h.1.top.vg60, CT.im (by omega) (fun d2 hd2 => h.put hc (by omega) (fun V1 h1 => ?_))⟩⟩
    rw [t1]
    have e1 : (10 : Int) ^ (r + 1) = 10 * 10 ^ r := by rw [Int.pow_succ, Int.mul_comm]
    refine ih (u / 10) V1 _ h1 ha (fun e => ?_) (by omega) (by omega) (fun e => ?_) (by rw [mPut_83]; omega) (fun V2 M2 h2 e2 reach => hk V2 M2 h2 (by rw [mPut_83] at e2; omega) (fun Qr r => st_decode_143 ⟨fun z => absurd z (by omega), fun _ => ⟨q0, q1, by omega, ?_⟩⟩))
    · subst e
      have : u < 10 := by simpa using u1
      omega
    · have q := u2 (by omega)
      have e3 : (10 : Int) ^ r = 10 * 10 ^ (r - 1) := by
        rw [show r = (r - 1) + 1 from by omega, Int.pow_succ, Int.mul_comm]
        rfl
      simp only [Nat.add_sub_cancel] at q
      omega
    · rw [ea, t1]
      exact ⟨by omega, by omega, pm_put h.2.2.2.2 (by omega) (reach Qr r)⟩
theorem wgt_loop {a q i n : Int} (hc : Cn c S) (q0 : 0 ≤ q) (q1 : q < 1220) (a0 : 0 ≤ a) (a1 : a ≤ 999999999) (hd : 4 ≤ d) (h : DS c S V0 M0 V M) (ha : M0 80 q = a) (hb : M 0 83 ≤ 2890) (hk : ∀ V' M', DS c S V0 M0 V' M' → M' 0 83 ≤ M 0 83 + 9 → M 0 83 ≤ M' 0 83 → (∀ Qr : Int → Mem → Prop, PM 2047 n_decode_24 [i, q + 1] M' Qr → PM 2047 n_decode_119 [i, q, n, 1] M Qr) → Q 0 S V') : ∀ (r : Nat) (D : Nat), D + r = 9 → 1 ≤ D → (∀ Qr : Int → Mem → Prop, PM 2047 n_decode_119 [i, q, n, 10 ^ (D - 1)] M Qr → PM 2047 n_decode_119 [i, q, n, 1] M Qr) → XJ l G bX11_putNumber Q d 4 [vr (c 60), vi a, vi (10 ^ (D - 1)), vi D] [] S V 0 0 := by
  have ea : M 80 q = a := (h.2.2.1 80 q (by decide) (by omega)).trans ha
  intro r
  have go : ∀ D : Nat, 1 ≤ D → D ≤ 9 → (a.tdiv (10 ^ (D - 1)) ≤ 9) → (∀ Qr : Int → Mem → Prop, PM 2047 n_decode_119 [i, q, n, 10 ^ (D - 1)] M Qr → PM 2047 n_decode_119 [i, q, n, 1] M Qr) → XJ l G bX11_putNumber Q d 31 [vr (c 60), vi a, vi (10 ^ (D - 1)), vi (10 ^ (D - 1))] [] S V 0 0 := by
    intro D D1 D9 le reach
    have p1 := p10 (D - 1)
    refine num_loop (w := 10 ^ (D - 1)) (n := n) (i := i) hc q0 q1 a0 a1 hd D (10 ^ (D - 1)) V M h ha (fun e => by omega) (by omega) ?_ (fun _ => Int.le_refl _) (by omega) (fun V' M' h' e' r' => hk V' M' h' (by omega) (by omega) (fun Qr x => reach Qr (st_decode_119 ⟨q0, q1, by omega, ?_⟩)))
    · have : (10 : Int) ^ D = 10 * 10 ^ (D - 1) := by
        rw [show D = (D - 1) + 1 from by omega, Int.pow_succ, Int.mul_comm]
        rfl
      omega
    · rw [ea]
      exact ⟨fun _ => r' Qr x, fun z => absurd le z⟩
  induction r with
  | zero =>
    intro D hD D1 reach
    have : D = 9 := by omega
    subst this
    have le : a.tdiv (10 ^ (9 - 1)) ≤ 9 := by
      show a.tdiv 100000000 ≤ 9
      rw [Int.tdiv_eq_ediv_of_nonneg a0]
      omega
    exact vX11_putNumber_4 ⟨fun _ => go 9 (by decide) (by decide) le reach, fun z => absurd (by decide) z⟩
  | succ r ih =>
    intro D hD D1 reach
    have p1 := p10 (D - 1)
    refine vX11_putNumber_4 ⟨fun z => absurd z (by omega), fun _ => ⟨by omega, fun lt => go D D1 (by omega) (by omega) reach, fun ge => ?_⟩⟩
    have e : (10 : Int) ^ (D - 1) * 10 = 10 ^ (D + 1 - 1) := by
      rw [show D + 1 - 1 = (D - 1) + 1 from by omega, Int.pow_succ]
    have bd : (10 : Int) ^ (D + 1 - 1) ≤ 100000000 := by
      have : ∀ k : Nat, k ≤ 8 → (10 : Int) ^ k ≤ 100000000 := by decide
      exact this _ (by omega)
    have k := ih (D + 1) (by omega) (by omega) (fun Qr x => reach Qr (st_decode_119 ⟨q0, q1, by omega, by
      rw [ea, e]
      exact ⟨fun z => absurd z (by omega), fun _ => ⟨by omega, by omega, x⟩⟩⟩))
    rw [e]
    exact ⟨by omega, by omega, by omega, by omega, k⟩
theorem cpy_loop {m : Int} : ∀ (r : Nat) (k : Int) (M : Mem), 0 ≤ k → M 0 83 - k = r → M 0 83 ≤ 3000 → ∃ M', (∀ Qr : Int → Mem → Prop, Qr (M 0 83) M' → PM 2047 n_decode_193 [m, k] M Qr) ∧ (∀ a j, a ≠ 1 → M' a j = M a j) ∧ (∀ j, j < k → M' 1 j = M 1 j) ∧ (∀ j, k ≤ j → j < M 0 83 → M' 1 j = wb (M 82 j)) := by
  intro r
  induction r with
  | zero =>
    intro k M k0 hr hb
    exact ⟨M, fun Qr q => st_decode_193 ⟨fun _ => q, fun z => absurd (by omega) z⟩, fun _ _ _ => rfl, fun _ _ => rfl, fun j a b => by omega⟩
  | succ r ih =>
    intro k M k0 hr hb
    have e83 : up M 1 k (wb (M 82 k)) 0 83 = M 0 83 := up_ne (by omega)
    obtain ⟨M', h1, h2, h3, h4⟩ := ih (k + 1) (up M 1 k (wb (M 82 k))) (by omega) (by omega) (by omega)
    refine ⟨M', fun Qr q => st_decode_193 ⟨fun z => absurd z (by omega), fun _ => ⟨k0, by omega, by omega, by omega, h1 Qr (by rw [e83]; exact q)⟩⟩, fun a j n => (h2 a j n).trans (up_ne (by omega)), fun j n => (h3 j (by omega)).trans (up_ne (by omega)), fun j a b => ?_⟩
    by_cases y : j = k
    · rw [y, h3 k (by omega), up_eq]
    · rw [h4 j (by omega) (by omega), up_ne (by omega)]
end DEC

