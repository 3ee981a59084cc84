/-! ===== rows that touch the memory ===== -/
theorem Kg.moved {G : GT} {s U : State} (h : Kg G s) (hal : s.vm.Alike U.vm) (hR : ∀ i, i < 16 → vk_R (js_own i) (js_idx i) (js_txt i) (G.2.2.2.1 i) U) (hN : va_Nw (.methodLinkNest RX11 31 yX10_init RX11) U ∧ va_Nw (.methodLinkNest RX11 57 yX4_init RX11) U ∧ va_Nw (.methodLinkNest RX5 40 yX0_init RX11) U) (hz : s.heap.size ≤ U.heap.size) (hk : ∀ q : Nat, q < s.heap.size → ¬ gA G q → U.heap[q]? = s.heap[q]?) : Kg G U := by
  obtain ⟨h1, h2, h3, h4, h5, h6, h7, h8, h9, h10, h11, h12⟩ := h
  refine ⟨h1.moved hal, fun t ht => ⟨arrOfT_moved hal (h2 t ht).1, (h2 t ht).2.moved hal⟩, hR, (h4.moved hal).kept hk, (h5.moved hal).kept hk, hN, fun C hC => (h7 C hC).moved hal, ?_, h9, Nat.le_trans h10 hz, h11, (h12.moved hal).kept hk⟩
  obtain ⟨scr, q1, q2, q3⟩ := va_X.moved hal h8
  exact ⟨scr, by rw [hk _ (Array.getElem?_eq_some_iff.mp q1).1 (by show ¬ G.1 ≤ _; omega)]; exact q1, q2, q3⟩
theorem Kg.warm {G : GT} {s U : State} (h : Kg G s) (hW : s.WarmedH U.vm) (hz : s.heap.size ≤ U.heap.size) (hk : ∀ q : Nat, q < s.heap.size → ¬ gA G q → U.heap[q]? = s.heap[q]?) : Kg G U :=
  h.moved hW.alike (fun i hi => (h.2.2.1 i hi).warm hW) ⟨va_Nw.warmM hW h.2.2.2.2.2.1.1, va_Nw.warmM hW h.2.2.2.2.2.1.2.1, va_Nw.warmM hW h.2.2.2.2.2.1.2.2⟩ hz hk
theorem Kg.same {G : GT} {s U : State} (h : Kg G s) (hv : U.vm = s.vm) (hh : U.heap = s.heap) : Kg G U :=
  h.moved (by rw [hv]; exact Vm.Alike.refl _) (fun i hi => (h.2.2.1 i hi).same hv) ⟨va_Nw.same rfl hv.symm h.2.2.2.2.2.1.1, va_Nw.same rfl hv.symm h.2.2.2.2.2.1.2.1, va_Nw.same rfl hv.symm h.2.2.2.2.2.1.2.2⟩ (by rw [hh]; exact Nat.le_refl _) (fun q _ _ => by rw [hh])
def clsOK (ci : Nat) (q : vw_C) : Prop := (∀ w ∈ u_ws q.1 q.2.1 q.2.2, w ∈ am_ws) ∧ (∀ k, k < q.2.2 → parseFieldDescriptor (q.2.1 k).2.2.1 = some (tyOf ci k)) ∧ ∀ a, a < q.2.2 → ∀ b, b < q.2.2 → a ≠ b → (q.2.1 a).2.1 ≠ (q.2.1 b).2.1
theorem am_ins {ws : List Cond} (h : ∀ w ∈ ws, w ∈ lw_tbl) (hg : ws.all goodWord = true) : ∀ w ∈ ws, w ∈ am_ws := fun w hw => am_in (h w hw) (List.all_eq_true.mp hg w hw)
theorem cls_ok : ∀ (ci : Nat) (q : vw_C), am_cl[ci]? = some q → clsOK ci q
  | 0, _, h => by cases h; exact ⟨am_ins in_wsX00 (by decide +kernel), tyX0_ok, nmX0⟩
  | 1, _, h => by cases h; exact ⟨am_ins in_wsX10 (by decide +kernel), tyX1_ok, nmX1⟩
  | 2, _, h => by cases h; exact ⟨am_ins in_wsX20 (by decide +kernel), tyX2_ok, nmX2⟩
  | 3, _, h => by cases h; exact ⟨am_ins in_wsX30 (by decide +kernel), tyX3_ok, nmX3⟩
  | 4, _, h => by cases h; exact ⟨am_ins in_wsX40 (by decide +kernel), tyX4_ok, nmX4⟩
  | 5, _, h => by cases h; exact ⟨am_ins in_wsX50 (by decide +kernel), tyX5_ok, nmX5⟩
  | 6, _, h => by cases h; exact ⟨am_ins in_wsX60 (by decide +kernel), tyX6_ok, nmX6⟩
  | 7, _, h => by cases h; exact ⟨am_ins in_wsX70 (by decide +kernel), tyX7_ok, nmX7⟩
  | 8, _, h => by cases h; exact ⟨am_ins in_wsX80 (by decide +kernel), tyX8_ok, nmX8⟩
  | 9, _, h => by cases h; exact ⟨am_ins in_wsX90 (by decide +kernel), tyX9_ok, nmX9⟩
  | 10, _, h => by cases h; exact ⟨am_ins in_wsX100 (by decide +kernel), tyX10_ok, nmX10⟩
  | 11, _, h => by cases h; exact ⟨am_ins in_wsX110 (by decide +kernel), tyX11_ok, nmX11⟩
  | 12, _, h => by cases h; exact ⟨am_ins in_wsX120 (by decide +kernel), tyX12_ok, nmX12⟩
  | n + 13, _, h => by simp [am_cl] at h
theorem cl_lt {ci : Nat} {q : vw_C} (h : am_cl[ci]? = some q) : ci < 13 := (List.getElem?_eq_some_iff.mp h).1
theorem ats_ge {t : Int} (h : t ∈ am_ats) : 20 ≤ t := by
  simp [am_ats] at h; omega
def av (ty : FieldType) (z : Int) : AV := match ty with
  | .long => vl z
  | .object _ => vr z
  | .array _ => vr z
  | _ => vi z
theorem tv_av (ty : FieldType) (z : Int) : tv (av ty z) = cvt ty z := by cases ty <;> rfl
theorem vok_av {ty : FieldType} {z : Int} (h : rok ty z) : vok (av ty z) := by
  cases ty <;> simp only [rok] at h <;> simp only [av, vok, inI] <;> first | exact h | omega
theorem rv_pos {r : Int} (h : 0 < r) : rv r = .ref (r - 1).toNat := if_neg (by omega)
theorem RP.pos {G : GT} {S : Sh} {V : Mem} {H : Heap} (h : RP G S V H) {r : Int} (hr : S.1 r ≠ 0) : 0 < r := by
  have := (h.2.1 r hr).1; omega
theorem RP.own {G : GT} {S : Sh} {V : Mem} {H : Heap} (h : RP G S V H) {r : Int} (hr : S.1 r ≠ 0) : gA G (r - 1).toNat := by
  have := (h.2.1 r hr).1
  show G.1 ≤ _
  omega
theorem up_eq {V : Mem} {r j x : Int} : up V r j x r j = x := by simp [up]
theorem up_ne {V : Mem} {r j x a b : Int} (h : a ≠ r ∨ b ≠ j) : up V r j x a b = V a b := by
  unfold up
  rw [if_neg]
  rintro ⟨h1, h2⟩
  rcases h with h | h
  · exact h h1
  · exact h h2
/-- one cell is written -/
theorem RP.put {G : GT} {S : Sh} {V : Mem} {H H' : Heap} (h : RP G S V H) {r : Int} {ci k : Nat} {q : vw_C} (hq : am_cl[ci]? = some q) (hT : S.1 r = ci + 1) (hk : k < q.2.2) {z : Int} (hz : rok (tyOf ci k) z) {cell : Cell} (q2 : cell.cls = G.2.1.1 ci) (q3 : cell.vm = .none) (q4 : ∀ j, j < q.2.2 → cell.slots[G.2.1.2 ci j]? = some (cvt (tyOf ci j) (V r j))) (hap : ∀ a b, a < q.2.2 → b < q.2.2 → a ≠ b → G.2.1.2 ci a ≠ G.2.1.2 ci b)
    (e1 : H'[(r - 1).toNat]? = some (cell.setSlot (G.2.1.2 ci k) (cvt (tyOf ci k) z))) (e2 : H'.size = H.size) (e3 : ∀ x, x ≠ (r - 1).toNat → H'[x]? = H[x]?) : RP G S (up V r k z) H' := by
  have hne : S.1 r ≠ 0 := by rw [hT]; omega
  have hr0 := h.pos hne
  have hc13 := cl_lt hq
  refine ⟨by rw [e2]; exact h.1, h.2.1, fun r' ci' q' hq' hT' => ?_, fun r' t ht hT' => ?_⟩
  · by_cases hrr : r' = r
    · subst hrr
      have hci : ci' = ci := by rw [hT] at hT'; omega
      subst hci
      cases hq.symm.trans hq'
      refine ⟨⟨_, e1, q2, q3, fun j hj => ?_⟩, fun j hj => ?_⟩
      · rw [t_set q4 hap hk _ j hj]
        unfold updV
        by_cases hjk : j = k
        · rw [if_pos hjk, hjk]; dsimp only; rw [up_eq]
        · rw [if_neg hjk]; dsimp only; rw [up_ne (Or.inr (by omega))]
      · by_cases hjk : j = k
        · rw [hjk, up_eq]; exact hz
        · rw [up_ne (Or.inr (by omega))]
          exact (h.2.2.1 r' ci' _ hq hT).2 j hj
    · obtain ⟨o1, o2⟩ := h.2.2.1 r' ci' q' hq' hT'
      have hr1 : 0 < r' := h.pos (by rw [hT']; omega)
      refine ⟨(o1.kept (e3 _ (by omega))).to (fun j _ => by rw [up_ne (Or.inl hrr)]), fun j hj => by rw [up_ne (Or.inl hrr)]; exact o2 j hj⟩
  · have hge := ats_ge ht
    have hrr : r' ≠ r := fun q => by subst q; rw [hT] at hT'; omega
    obtain ⟨o1, o2, o3, o4⟩ := h.2.2.2 r' t ht hT'
    have hr1 : 0 < r' := h.pos (by rw [hT']; omega)
    refine ⟨o1, o2, ?_, fun j => by rw [up_ne (Or.inl hrr)]; exact o4 j⟩
    rw [e3 _ (by omega), o3]
    congr 2
    funext j
    rw [up_ne (Or.inl hrr)]
theorem RP.arr {G : GT} {S : Sh} {V : Mem} {H H' : Heap} (h : RP G S V H) {r t : Int} (ht : t ∈ am_ats) (hT : S.1 r = t) {i z : Int} (hi0 : 0 ≤ i) (hz : rok (aty t) z)
    (e1 : H'[(r - 1).toNat]? = some ((arrV (G.2.2.1 t) (S.2.1 r).toNat (fun j => cvt (aty t) (V r j))).setSlot i.toNat (cvt (aty t) z))) (e2 : H'.size = H.size) (e3 : ∀ x, x ≠ (r - 1).toNat → H'[x]? = H[x]?) : RP G S (up V r i z) H' := by
  have hge := ats_ge ht
  have hr0 := h.pos (r := r) (by rw [hT]; omega)
  refine ⟨by rw [e2]; exact h.1, h.2.1, fun r' ci' q' hq' hT' => ?_, fun r' t' ht' hT' => ?_⟩
  · have hc13 := cl_lt hq'
    have hrr : r' ≠ r := fun q => by subst q; rw [hT] at hT'; omega
    obtain ⟨o1, o2⟩ := h.2.2.1 r' ci' q' hq' hT'
    have hr1 : 0 < r' := h.pos (by rw [hT']; omega)
    refine ⟨(o1.kept (e3 _ (by omega))).to (fun j _ => by rw [up_ne (Or.inl hrr)]), fun j hj => by rw [up_ne (Or.inl hrr)]; exact o2 j hj⟩
  · have hge' := ats_ge ht'
    obtain ⟨o1, o2, o3, o4⟩ := h.2.2.2 r' t' ht' hT'
    have hr1 : 0 < r' := h.pos (by rw [hT']; omega)
    by_cases hrr : r' = r
    · subst hrr
      have htt : t' = t := hT'.symm.trans hT
      subst htt
      refine ⟨o1, o2, ?_, fun j => ?_⟩
      · rw [e1, arrV_store]
        congr 2
        funext j
        unfold updV
        by_cases hj : j = i.toNat
        · rw [if_pos hj, hj, show ((i.toNat : Nat) : Int) = i by omega, up_eq]
        · rw [if_neg hj, up_ne (Or.inr (by omega))]
      · by_cases hj : j = i
        · rw [hj, up_eq]; exact hz
        · rw [up_ne (Or.inr hj)]; exact o4 j
    · refine ⟨o1, o2, ?_, fun j => by rw [up_ne (Or.inl hrr)]; exact o4 j⟩
      rw [e3 _ (by omega), o3]
      congr 2
      funext j
      rw [up_ne (Or.inl hrr)]
theorem nw_new {S : Sh} {t n : Int} : (nw S t n).1 (S.2.2 + 1) = t ∧ (nw S t n).2.1 (S.2.2 + 1) = n ∧ (nw S t n).2.2 = S.2.2 + 1 := by simp [nw]
theorem nw_old {S : Sh} {t n r : Int} (h : r ≠ S.2.2 + 1) : (nw S t n).1 r = S.1 r ∧ (nw S t n).2.1 r = S.2.1 r := by simp [nw, h]
theorem clr_new {V : Mem} {r j : Int} : clr V r r j = 0 := by simp [clr]
theorem clr_old {V : Mem} {r a j : Int} (h : a ≠ r) : clr V r a j = V a j := by simp [clr, h]
theorem RP.fresh {G : GT} {S : Sh} {V : Mem} {H : Heap} (h : RP G S V H) : S.1 (S.2.2 + 1) = 0 := by
  by_cases q : S.1 (S.2.2 + 1) = 0
  · exact q
  · have := (h.2.1 _ q).2; omega
/-- a cell is made -/
theorem RP.grow {G : GT} {S : Sh} {V : Mem} {H H' : Heap} (h : RP G S V H) {t n : Int} (hb : G.1 ≤ H.size) (e2 : H'.size = H.size + 1) (e3 : ∀ x, x < H.size → H'[x]? = H[x]?)
    (ho : ∀ (ci : Nat) (q : vw_C), am_cl[ci]? = some q → t = ci + 1 → t_OB H.size (G.2.1.1 ci) q.2.2 (G.2.1.2 ci) H' (fun k => cvt (tyOf ci k) 0))
    (ha : t ∈ am_ats → 0 ≤ n ∧ n ≤ 2147483647 ∧ H'[H.size]? = some (arrV (G.2.2.1 t) n.toNat (fun _ => cvt (aty t) 0))) : RP G (nw S t n) (clr V (S.2.2 + 1)) H' := by
  obtain ⟨n1, n2, n3⟩ := nw_new (S := S) (t := t) (n := n)
  have hsz := h.1
  have hz : ((S.2.2 + 1 - 1).toNat : Nat) = H.size := by omega
  have r0 : ∀ ty : FieldType, rok ty 0 := fun ty => by cases ty <;> simp [rok, inI, inL]
  refine ⟨by rw [n3, e2]; omega, fun r hr => ?_, fun r ci q hq hT => ?_, fun r t' ht' hT => ?_⟩
  · by_cases hrr : r = S.2.2 + 1
    · rw [n3, hrr]; omega
    · rw [(nw_old hrr).1] at hr
      have := h.2.1 r hr
      rw [n3]; omega
  · by_cases hrr : r = S.2.2 + 1
    · subst hrr
      rw [n1] at hT
      refine ⟨?_, fun j hj => by rw [clr_new]; exact r0 _⟩
      rw [hz]
      exact (ho ci q hq hT).to (fun j _ => by rw [clr_new])
    · rw [(nw_old hrr).1] at hT
      obtain ⟨o1, o2⟩ := h.2.2.1 r ci q hq hT
      have hb2 := h.2.1 r (by rw [hT]; omega)
      refine ⟨(o1.kept (e3 _ (by omega))).to (fun j _ => by rw [clr_old hrr]), fun j hj => by rw [clr_old hrr]; exact o2 j hj⟩
  · have hge := ats_ge ht'
    by_cases hrr : r = S.2.2 + 1
    · subst hrr
      rw [n1] at hT
      subst hT
      obtain ⟨a1, a2, a3⟩ := ha ht'
      rw [n2]
      refine ⟨a1, a2, ?_, fun j => by rw [clr_new]; exact r0 _⟩
      rw [hz, a3]
      congr 2
      funext j
      rw [clr_new]
    · rw [(nw_old hrr).1] at hT
      rw [(nw_old hrr).2]
      obtain ⟨o1, o2, o3, o4⟩ := h.2.2.2 r t' ht' hT
      have hb2 := h.2.1 r (by rw [hT]; omega)
      refine ⟨o1, o2, ?_, fun j => by rw [clr_old hrr]; exact o4 j⟩
      rw [e3 _ (by omega), o3]
      congr 2
      funext j
      rw [clr_old hrr]
