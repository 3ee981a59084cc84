section MORE
variable {l : Launch} {G : GT} {B : BT} {Q : Int → Sh → Mem → Prop} {d pc : Nat} {ls st : List AV} {S : Sh} {V : Mem} {mc ms : Nat}
theorem CT.imp {as : List AV} {K K' : Int → Sh → Mem → Nat → Nat → Prop} (h : CT l G B d mc ms as S V K) (hk : ∀ z S' V' mc' ms', K z S' V' mc' ms' → K' z S' V' mc' ms') : CT l G B d mc ms as S V K' := by
  obtain ⟨d1, mc1, ms1, Q1, a1, a2, a3, a4, a5⟩ := h
  exact ⟨d1, mc1, ms1, Q1, a1, a2, a3, a4, fun z S' V' hq => hk _ _ _ _ _ (a5 z S' V' hq)⟩
/-- a call by a proved contract that makes nothing -/
theorem CT.of {as : List AV} {K : Int → Sh → Mem → Nat → Nat → Prop} {Q1 : Int → Sh → Mem → Prop} (d1 mc1 ms1 : Nat) (h : Ct l G B Q1 d1 mc1 ms1 as S V) (hd : d1 + 1 ≤ d) (h1 : mc1 ≤ mc) (h2 : ms1 ≤ ms) (hk : ∀ z S' V', Q1 z S' V' → K z S' V' (mc - mc1) (ms - ms1)) : CT l G B d mc ms as S V K := ⟨d1, mc1, ms1, Q1, hd, h1, h2, h, hk⟩
def wkm : List AV → List Bool → List AV
  | v :: t, b :: bs => (if b then vu else v) :: wkm t bs
  | t, _ => t
theorem wkm_len : ∀ (t : List AV) (bs : List Bool), (wkm t bs).length = t.length
  | [], [] => rfl
  | [], _ :: _ => rfl
  | _ :: _, [] => rfl
  | v :: t, b :: bs => by show (wkm t bs).length + 1 = t.length + 1; rw [wkm_len t bs]
theorem wkm_at : ∀ {t : List AV} {bs : List Bool} {i : Nat} {v : AV}, (wkm t bs)[i]? = some v → v ≠ vu → t[i]? = some v
  | [], [], _, _, h, _ => h
  | [], _ :: _, _, _, h, _ => h
  | _ :: _, [], _, _, h, _ => h
  | w :: t, b :: bs, 0, v, h, hv => by
    have h' : (if b then vu else w) = v := by simpa [wkm] using h
    cases b with
    | true => exact absurd h'.symm hv
    | false => simpa using h'
  | w :: t, b :: bs, i + 1, v, h, hv => by
    have h' : (wkm t bs)[i]? = some v := by simpa [wkm] using h
    simpa using wkm_at h' hv
theorem wkm_ok : ∀ {t : List AV} {bs : List Bool}, (∀ v ∈ t, vok v) → ∀ v ∈ wkm t bs, vok v
  | [], [], h => h
  | [], _ :: _, h => h
  | _ :: _, [], h => h
  | w :: t, b :: bs, h => by
    show ∀ v ∈ (if b then vu else w) :: wkm t bs, vok v
    refine vok_c ?_ (wkm_ok (vok_t h))
    cases b with
    | true => exact trivial
    | false => exact vok_h h
theorem X_weak (bs : List Bool) (k : XJ l G B Q d pc (wkm ls bs) st S V mc ms) : XJ l G B Q d pc ls st S V mc ms := by
  intro p e R s m args below meth c Z K N C H locs cells slots la X
  exact k p e R s m args below meth c Z K N C H locs cells slots la ⟨X.1, ⟨⟨X.2.1.1.1, X.2.1.1.2.1, by rw [wkm_len]; exact X.2.1.1.2.2.1, fun i v hi hv => X.2.1.1.2.2.2 i v (wkm_at hi hv) hv⟩, wkm_ok X.2.1.2⟩, X.2.2⟩
theorem X_iincN {i : Nat} {n z e : Int} (hd : decode B.2.1 pc = .ok (.iinc i n, 3)) (hz : ls[i]? = some (vi z)) (hn : i < B.2.2.1) (hn2 : nol ls i = true) (he : e = z + n) (h1 : -2147483648 ≤ e) (h2 : e ≤ 2147483647) (k : XJ l G B Q d (pc + 3) (ls.set i (vi e)) st S V mc ms) : XJ l G B Q d pc ls st S V mc ms :=
  X_iinc hd hz hn hn2 (by rw [← he, wr_id ⟨h1, h2⟩]; exact k)
theorem X_iaddN {a b : Int} (hd : decode B.2.1 pc = .ok (.iadd, 1)) (h1 : -2147483648 ≤ a + b) (h2 : a + b ≤ 2147483647) (k : XJ l G B Q d (pc + 1) ls (vi (a + b) :: st) S V mc ms) : XJ l G B Q d pc ls (vi b :: vi a :: st) S V mc ms :=
  X_iadd hd (by rw [wr_id ⟨h1, h2⟩]; exact k)
theorem X_isubN {a b : Int} (hd : decode B.2.1 pc = .ok (.isub, 1)) (h1 : -2147483648 ≤ a - b) (h2 : a - b ≤ 2147483647) (k : XJ l G B Q d (pc + 1) ls (vi (a - b) :: st) S V mc ms) : XJ l G B Q d pc ls (vi b :: vi a :: st) S V mc ms :=
  X_isub hd (by rw [wr_id ⟨h1, h2⟩]; exact k)
theorem X_imulN {a b : Int} (hd : decode B.2.1 pc = .ok (.imul, 1)) (h1 : -2147483648 ≤ a * b) (h2 : a * b ≤ 2147483647) (k : XJ l G B Q d (pc + 1) ls (vi (a * b) :: st) S V mc ms) : XJ l G B Q d pc ls (vi b :: vi a :: st) S V mc ms :=
  X_imul hd (by rw [wr_id ⟨h1, h2⟩]; exact k)
theorem X_laddN {a b : Int} (hd : decode B.2.1 pc = .ok (.ladd, 1)) (h1 : -9223372036854775808 ≤ a + b) (h2 : a + b ≤ 9223372036854775807) (k : XJ l G B Q d (pc + 1) ls (vl (a + b) :: st) S V mc ms) : XJ l G B Q d pc ls (vl b :: vl a :: st) S V mc ms :=
  X_ladd hd (by rw [wl_id ⟨h1, h2⟩]; exact k)
theorem X_lmulN {a b : Int} (hd : decode B.2.1 pc = .ok (.lmul, 1)) (h1 : -9223372036854775808 ≤ a * b) (h2 : a * b ≤ 9223372036854775807) (k : XJ l G B Q d (pc + 1) ls (vl (a * b) :: st) S V mc ms) : XJ l G B Q d pc ls (vl b :: vl a :: st) S V mc ms :=
  X_lmul hd (by rw [wl_id ⟨h1, h2⟩]; exact k)
theorem tdiv_in {a b : Int} (ha : inI a) (hb : 0 < b) : inI (a.tdiv b) := by
  unfold inI at *
  rcases Int.lt_or_le a 0 with h | h
  · have e : a.tdiv b = -((-a).tdiv b) := by rw [Int.neg_tdiv]; omega
    have h1 : 0 ≤ (-a).tdiv b := Int.tdiv_nonneg (by omega) (by omega)
    have h2 : (-a).tdiv b ≤ -a := by
      rw [Int.tdiv_eq_ediv_of_nonneg (by omega)]
      exact Int.ediv_le_self b (by omega)
    omega
  · have h1 : 0 ≤ a.tdiv b := Int.tdiv_nonneg h (by omega)
    have h2 : a.tdiv b ≤ a := by
      rw [Int.tdiv_eq_ediv_of_nonneg h]
      exact Int.ediv_le_self b h
    omega
theorem tmod_in {a b : Int} (ha : inI a) (hb : 0 < b) : inI (a.tmod b) := by
  unfold inI at *
  rcases Int.lt_or_le a 0 with h | h
  · have e : a.tmod b = -((-a).tmod b) := by rw [Int.neg_tmod]; omega
    have h1 : 0 ≤ (-a).tmod b := Int.tmod_nonneg _ (by omega)
    have h2 : (-a).tmod b ≤ -a := by
      rw [Int.tmod_eq_emod_of_nonneg (by omega), Int.emod_def]
      have := Int.mul_nonneg (show 0 ≤ b by omega) (Int.ediv_nonneg (show 0 ≤ -a by omega) (show 0 ≤ b by omega))
      omega
    omega
  · have h1 : 0 ≤ a.tmod b := Int.tmod_nonneg _ h
    have h2 : a.tmod b ≤ a := by
      rw [Int.tmod_eq_emod_of_nonneg h, Int.emod_def]
      have := Int.mul_nonneg (show 0 ≤ b by omega) (Int.ediv_nonneg h (show 0 ≤ b by omega))
      omega
    omega
theorem X_idivP {a b : Int} (hd : decode B.2.1 pc = .ok (.idiv, 1)) (hb : 0 < b) (k : XJ l G B Q d (pc + 1) ls (vi (a.tdiv b) :: st) S V mc ms) : XJ l G B Q d pc ls (vi b :: vi a :: st) S V mc ms :=
  X_range fun _ _ ho => X_idiv hd (by omega) (by rw [wr_id (tdiv_in (vok_h (vok_t ho)) hb)]; exact k)
theorem X_iremP {a b : Int} (hd : decode B.2.1 pc = .ok (.irem, 1)) (hb : 0 < b) (k : XJ l G B Q d (pc + 1) ls (vi (a.tmod b) :: st) S V mc ms) : XJ l G B Q d pc ls (vi b :: vi a :: st) S V mc ms :=
  X_range fun _ _ ho => X_irem hd (by omega) (by rw [wr_id (tmod_in (vok_h (vok_t ho)) hb)]; exact k)
theorem X_lc_eq {a b off : Int} {tgt : Nat} (hd : decode B.2.1 pc = .ok (.lcmp, 1)) (hd2 : decode B.2.1 (pc + 1) = .ok (.ifCond .eq off, 3)) (ht : ((pc + 1 : Nat) : Int) + off = (tgt : Int)) (kt : a = b → XJ l G B Q d tgt ls st S V mc ms) (kf : ¬ (a = b) → XJ l G B Q d (pc + 1 + 3) ls st S V mc ms) : XJ l G B Q d pc ls (vl b :: vl a :: st) S V mc ms :=
  X_lcmp hd (X_if_eq hd2 ht (fun c => kt (by unfold lCmp at c; split at c <;> (try split at c) <;> omega)) (fun c => kf (by unfold lCmp at c; split at c <;> (try split at c) <;> omega)))
theorem X_lc_ne {a b off : Int} {tgt : Nat} (hd : decode B.2.1 pc = .ok (.lcmp, 1)) (hd2 : decode B.2.1 (pc + 1) = .ok (.ifCond .ne off, 3)) (ht : ((pc + 1 : Nat) : Int) + off = (tgt : Int)) (kt : a ≠ b → XJ l G B Q d tgt ls st S V mc ms) (kf : ¬ (a ≠ b) → XJ l G B Q d (pc + 1 + 3) ls st S V mc ms) : XJ l G B Q d pc ls (vl b :: vl a :: st) S V mc ms :=
  X_lcmp hd (X_if_ne hd2 ht (fun c => kt (by unfold lCmp at c; split at c <;> (try split at c) <;> omega)) (fun c => kf (by unfold lCmp at c; split at c <;> (try split at c) <;> omega)))
theorem X_lc_lt {a b off : Int} {tgt : Nat} (hd : decode B.2.1 pc = .ok (.lcmp, 1)) (hd2 : decode B.2.1 (pc + 1) = .ok (.ifCond .lt off, 3)) (ht : ((pc + 1 : Nat) : Int) + off = (tgt : Int)) (kt : a < b → XJ l G B Q d tgt ls st S V mc ms) (kf : ¬ (a < b) → XJ l G B Q d (pc + 1 + 3) ls st S V mc ms) : XJ l G B Q d pc ls (vl b :: vl a :: st) S V mc ms :=
  X_lcmp hd (X_if_lt hd2 ht (fun c => kt (by unfold lCmp at c; split at c <;> (try split at c) <;> omega)) (fun c => kf (by unfold lCmp at c; split at c <;> (try split at c) <;> omega)))
theorem X_lc_le {a b off : Int} {tgt : Nat} (hd : decode B.2.1 pc = .ok (.lcmp, 1)) (hd2 : decode B.2.1 (pc + 1) = .ok (.ifCond .le off, 3)) (ht : ((pc + 1 : Nat) : Int) + off = (tgt : Int)) (kt : a ≤ b → XJ l G B Q d tgt ls st S V mc ms) (kf : ¬ (a ≤ b) → XJ l G B Q d (pc + 1 + 3) ls st S V mc ms) : XJ l G B Q d pc ls (vl b :: vl a :: st) S V mc ms :=
  X_lcmp hd (X_if_le hd2 ht (fun c => kt (by unfold lCmp at c; split at c <;> (try split at c) <;> omega)) (fun c => kf (by unfold lCmp at c; split at c <;> (try split at c) <;> omega)))
theorem X_lc_ge {a b off : Int} {tgt : Nat} (hd : decode B.2.1 pc = .ok (.lcmp, 1)) (hd2 : decode B.2.1 (pc + 1) = .ok (.ifCond .ge off, 3)) (ht : ((pc + 1 : Nat) : Int) + off = (tgt : Int)) (kt : b ≤ a → XJ l G B Q d tgt ls st S V mc ms) (kf : ¬ (b ≤ a) → XJ l G B Q d (pc + 1 + 3) ls st S V mc ms) : XJ l G B Q d pc ls (vl b :: vl a :: st) S V mc ms :=
  X_lcmp hd (X_if_ge hd2 ht (fun c => kt (by unfold lCmp at c; split at c <;> (try split at c) <;> omega)) (fun c => kf (by unfold lCmp at c; split at c <;> (try split at c) <;> omega)))
theorem X_lc_gt {a b off : Int} {tgt : Nat} (hd : decode B.2.1 pc = .ok (.lcmp, 1)) (hd2 : decode B.2.1 (pc + 1) = .ok (.ifCond .gt off, 3)) (ht : ((pc + 1 : Nat) : Int) + off = (tgt : Int)) (kt : b < a → XJ l G B Q d tgt ls st S V mc ms) (kf : ¬ (b < a) → XJ l G B Q d (pc + 1 + 3) ls st S V mc ms) : XJ l G B Q d pc ls (vl b :: vl a :: st) S V mc ms :=
  X_lcmp hd (X_if_gt hd2 ht (fun c => kt (by unfold lCmp at c; split at c <;> (try split at c) <;> omega)) (fun c => kf (by unfold lCmp at c; split at c <;> (try split at c) <;> omega)))
theorem tag_ne {S : Sh} {a b t u : Int} (h1 : S.1 a = t) (h2 : S.1 b = u) (h : t ≠ u) : a ≠ b := fun e => h (by rw [← h1, ← h2, e])
theorem X_top {v w : AV} (h : w = v) (k : XJ l G B Q d pc ls (v :: st) S V mc ms) : XJ l G B Q d pc ls (w :: st) S V mc ms := by rw [h]; exact k
theorem tbl_df {P : Prop} [Decidable P] {α : Type} {a : α} {b : Option α} (h : P) : (if P then some a else b) = some a := if_pos h
theorem X_newT {t : Int} {ci idx : Nat} {q : vw_C} (ht : t = ci + 1) (hd : decode B.2.1 pc = .ok (.new idx, 3)) (hq : am_cl[ci]? = some q) (hw : Cond.classLink B.1.cls idx q.1 ∈ am_ws ∧ Cond.instantiable q.1 q.2.2 ∈ am_ws ∧ Cond.initialized q.1 ∈ am_ws) (hdf : ∀ k, k < q.2.2 → defaultValue (tyOf ci k) = cvt (tyOf ci k) 0) (hmc : 1 ≤ mc) (hms : q.2.2 ≤ ms)
    (kk : XJ l G B Q d (pc + 3) ls (vr (S.2.2 + 1) :: st) (nw S t 0) (clr V (S.2.2 + 1)) (mc - 1) (ms - q.2.2)) : XJ l G B Q d pc ls st S V mc ms := by
  subst ht
  exact X_new hd hq hw hdf hmc hms kk
theorem X_invS8 {B' : BT} {as stk : List AV} {n idx : Nat} (hm : mS B' n) (hd : decode B.2.1 pc = .ok (.invokestatic idx, 3)) (hl : Cond.methodLink B.1.cls idx B'.1 ∈ am_ws) (hs : stk = as.reverse ++ st) (hn : as.length = n) (hst : ((st.map tv).map fun v => v.category).sum ≤ 8)
    (k : CT l G B' d mc ms as S V (fun z S' V' mc' ms' => XJ l G B Q d (pc + 3) ls (rav B'.2.2.2 z ++ st) S' V' mc' ms')) : XJ l G B Q d pc ls stk S V mc ms := by
  subst hs
  intro p e R s m args below meth c Z K N C H locs cells slots la X
  obtain ⟨⟨hx, hb, hml, hown, hts, hnm⟩, hK, hR, hRt⟩ := id C
  obtain ⟨⟨hP, hVS, hc1, hc2⟩, hL, hO⟩ := X
  obtain ⟨d1, mc1, ms1, Q1, hd1, hm1, hm2, hct, kk⟩ := k
  obtain ⟨⟨w1, w2, w3, w4, w5⟩, w6⟩ := hm
  have ho1 : ∀ w ∈ as, vok w := fun w hw => hO w (by simp [hw])
  have ho2 : ∀ w ∈ st, vok w := fun w hw => hO w (by simp [hw])
  have hG : GoodIn am_ws (Cond.code B'.1 B'.2.1 B'.2.2.1 B'.2.2.2 :: am_ws) := am_good fun w hw => by
    rcases List.mem_cons.mp hw with rfl | hw
    · exact w1
    · exact hw
  refine X_after C hVS hc1 hc2 hm1 hm2 hL ho2 (va_runS (As := as.map tv) (rest := st.map tv) ⟨hx, hb, hml, hown, hts⟩ hct ⟨callB_of n hts hG rfl rfl rfl (hts _ w2) (hts _ hl) w3 ⟨by show d1 + 1 ≤ _; omega, by show 8 + _ + 40 * d1 ≤ _; omega⟩, hts _ w6⟩ ⟨Pct_blind, fun U hU hW => Pct_at hK hP hVS ho1 hU hW⟩ rfl (by simpa using hn) hL.1.1 (by simp) (by show 2 * 0 + _ ≤ 8; omega) hd ⟨by omega, by omega⟩) kk
theorem cat_vi (z : Int) : (tv (vi z)).category = 1 := rfl
theorem cat_vr (r : Int) : (tv (vr r)).category = 1 := rv_cat r
theorem X_ldcwS {idx i : Nat} (hd : decode B.2.1 pc = .ok (.ldc_w idx, 3)) (hi : i < 16) (hw : js_own i = B.1.cls ∧ js_idx i = idx) (kk : XJ l G B Q d (pc + 3) ls (vr ((G.2.2.2.1 i : Int) + 1) :: st) S V mc ms) : XJ l G B Q d pc ls st S V mc ms := by
  intro p e R s m args below meth c Z K N C H locs cells slots la X
  have h1 := C.2.1.2.2.1 i hi
  rw [hw.1, hw.2] at h1
  have h0 := kk p e R s m args below meth c Z K N C H locs cells slots la ⟨X.1, X.2.1, vok_c (v := vr ((G.2.2.2.1 i : Int) + 1)) (by show 0 ≤ _; omega) X.2.2⟩
  rw [List.map_cons, show tv (vr ((G.2.2.2.1 i : Int) + 1)) = rv _ from rfl, rv_pos (by omega), show ((G.2.2.2.1 i : Int) + 1 - 1).toNat = G.2.2.2.1 i by omega] at h0
  intro T hT X2
  obtain ⟨t, a1, b1⟩ := h0 T hT X2
  exact ⟨t, X2.ldcStringW C.1.1 C.1.2.2.2.1 (text := js_txt i) (a := G.2.2.2.1 i) h1.1 h1.2 (g := F0 m pc la (st.map tv)) rfl (by rw [C.1.2.1]; exact hd) t a1, b1⟩
def imax (a b : Int) : Int := if a < b then b else a
def imin (a b : Int) : Int := if b < a then b else a
theorem X_mmax {a b : Int} {idx : Nat} (hd : decode B.2.1 pc = .ok (.invokestatic idx, 3)) (hl : Cond.methodLink B.1.cls idx Lib.Math.max.name ∈ am_ws) (hst : st.length ≤ 4) (hd1 : 1 ≤ d) (k : XJ l G B Q d (pc + 3) ls (vi (imax a b) :: st) S V mc ms) : XJ l G B Q d pc ls (vi b :: vi a :: st) S V mc ms := by
  intro p e R s m args below meth c Z K N C H locs cells slots la X
  obtain ⟨⟨hx, hb, hml, hown, hts, hnm⟩, hK, hR, hRt⟩ := id C
  have ha : inI a := vok_h (vok_t X.2.2)
  have hbb : inI b := vok_h X.2.2
  have hc := cat_le st
  have h1 := X.1.2.2.1
  have h2 := X.1.2.2.2
  have h0 := k p e R s m args below meth c Z K N C H locs cells slots la ⟨X.1, X.2.1, vok_c (v := vi (imax a b)) (by show inI (imax a b); unfold imax; split <;> assumption) (vok_t (vok_t X.2.2))⟩
  refine va_mmax hx hb (by rw [hml]; exact X.2.1.1.1.symm) hown (hts _ hl) (hts _ k_max.1) (hts _ k_max.2.1) (hts _ k_max.2.2) (by omega) (by omega) (by omega) (by omega) hd ?_
  have e1 : (if Int32.ofInt a < Int32.ofInt b then Int32.ofInt b else Int32.ofInt a) = Int32.ofInt (imax a b) := by
    unfold imax
    by_cases h : a < b
    · rw [if_pos h, if_pos ((i32_lt ha hbb).mpr h)]
    · rw [if_neg h, if_neg (fun q => h ((i32_lt ha hbb).mp q))]
  rw [e1]
  exact h0
theorem X_mmin {a b : Int} {idx : Nat} (hd : decode B.2.1 pc = .ok (.invokestatic idx, 3)) (hl : Cond.methodLink B.1.cls idx Lib.Math.min.name ∈ am_ws) (hst : st.length ≤ 4) (hd1 : 1 ≤ d) (k : XJ l G B Q d (pc + 3) ls (vi (imin a b) :: st) S V mc ms) : XJ l G B Q d pc ls (vi b :: vi a :: st) S V mc ms := by
  intro p e R s m args below meth c Z K N C H locs cells slots la X
  obtain ⟨⟨hx, hb, hml, hown, hts, hnm⟩, hK, hR, hRt⟩ := id C
  have ha : inI a := vok_h (vok_t X.2.2)
  have hbb : inI b := vok_h X.2.2
  have hc := cat_le st
  have h1 := X.1.2.2.1
  have h2 := X.1.2.2.2
  have h0 := k p e R s m args below meth c Z K N C H locs cells slots la ⟨X.1, X.2.1, vok_c (v := vi (imin a b)) (by show inI (imin a b); unfold imin; split <;> assumption) (vok_t (vok_t X.2.2))⟩
  refine va_mmin hx hb (by rw [hml]; exact X.2.1.1.1.symm) hown (hts _ hl) (hts _ k_min.1) (hts _ k_min.2.1) (hts _ k_min.2.2) (by omega) (by omega) (by omega) (by omega) hd ?_
  have e1 : (if Int32.ofInt b < Int32.ofInt a then Int32.ofInt b else Int32.ofInt a) = Int32.ofInt (imin a b) := by
    unfold imin
    by_cases h : b < a
    · rw [if_pos h, if_pos ((i32_lt hbb ha).mpr h)]
    · rw [if_neg h, if_neg (fun q => h ((i32_lt hbb ha).mp q))]
  rw [e1]
  exact h0
end MORE
