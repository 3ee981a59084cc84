/-! ===== labels: every owned ref is c L, L = 128 * index + kind ===== -/
def Cn (c : Int → Int) (S : Sh) : Prop := (∀ L L', c L = c L' → L = L') ∧ ∀ L, c L ≠ 0 ∧ c L ≤ S.2.2
def Wv (c : Int → Int) (S : Sh) (V : Mem) : Mem := fun L j => if j = -1 then S.1 (c L) else if j = -2 then S.2.1 (c L) else V (c L) (if j < 0 then j + 2 else j)
def upl (c : Int → Int) (L r : Int) : Int → Int := fun L' => if L' = L then r else c L'
def nwl (N : Mem) (L t n : Int) : Mem := fun L' j => if L' = L then (if j = -1 then t else if j = -2 then n else 0) else N L' j
theorem Wv_tag {c : Int → Int} {S : Sh} {V : Mem} {L : Int} : Wv c S V L (-1) = S.1 (c L) := by simp [Wv]
theorem Wv_len {c : Int → Int} {S : Sh} {V : Mem} {L : Int} : Wv c S V L (-2) = S.2.1 (c L) := by simp [Wv]
theorem Wv_el {c : Int → Int} {S : Sh} {V : Mem} {L j : Int} (h : 0 ≤ j) : Wv c S V L j = V (c L) j := by
  unfold Wv
  rw [if_neg (by omega), if_neg (by omega), if_neg (by omega)]
theorem Wv_neg {c : Int → Int} {S : Sh} {V : Mem} {L j : Int} (h : j < 0) : Wv c S V L (j - 2) = V (c L) j := by
  unfold Wv
  rw [if_neg (by omega), if_neg (by omega), if_pos (by omega), show j - 2 + 2 = j from by omega]
theorem Wv_inj {c : Int → Int} {S : Sh} {V V' : Mem} {L : Int} (h : ∀ j, Wv c S V' L j = Wv c S V L j) (j : Int) : V' (c L) j = V (c L) j := by
  by_cases q : j < 0
  · have := h (j - 2)
    rwa [Wv_neg q, Wv_neg q] at this
  · have := h j
    rwa [Wv_el (by omega), Wv_el (by omega)] at this
theorem Wv_up {c : Int → Int} {S : Sh} {V : Mem} {L j x : Int} (hc : Cn c S) (h : 0 ≤ j) : Wv c S (up V (c L) j x) = up (Wv c S V) L j x := by
  funext L' j'
  unfold Wv up
  by_cases q : L' = L ∧ j' = j
  · rw [if_pos q, if_neg (by omega), if_neg (by omega), if_neg (c := j' < 0) (by omega), if_pos ⟨by rw [q.1], q.2⟩]
  · rw [if_neg q]
    show _ = (if j' = -1 then S.1 (c L') else if j' = -2 then S.2.1 (c L') else V (c L') (if j' < 0 then j' + 2 else j'))
    by_cases a1 : j' = -1
    · rw [if_pos a1, if_pos a1]
    · rw [if_neg a1, if_neg a1]
      by_cases a2 : j' = -2
      · rw [if_pos a2, if_pos a2]
      · rw [if_neg a2, if_neg a2, if_neg]
        rintro ⟨e1, e2⟩
        split at e2
        · omega
        · exact q ⟨hc.1 _ _ e1, e2⟩
theorem Wv_nw {c : Int → Int} {S : Sh} {V : Mem} {L t n : Int} (hc : Cn c S) : Wv (upl c L (S.2.2 + 1)) (nw S t n) (clr V (S.2.2 + 1)) = nwl (Wv c S V) L t n := by
  funext L' j'
  unfold Wv upl nwl nw clr
  by_cases q : L' = L
  · simp [q]
  · have := (hc.2 L').2
    have q2 : c L' ≠ S.2.2 + 1 := by omega
    simp [q, q2]
theorem Cn_nw {c : Int → Int} {S : Sh} {L t n : Int} (hc : Cn c S) (h0 : 0 ≤ S.2.2) : Cn (upl c L (S.2.2 + 1)) (nw S t n) := by
  constructor
  · intro A B e
    unfold upl at e
    have hA := (hc.2 A).2
    have hB := (hc.2 B).2
    split at e <;> split at e
    · omega
    · omega
    · omega
    · exact hc.1 _ _ e
  · intro A
    have hA := hc.2 A
    unfold upl
    show _ ∧ _ ≤ S.2.2 + 1
    split
    · omega
    · exact ⟨hA.1, by omega⟩
theorem Wv_nw0 {c : Int → Int} {S : Sh} {V : Mem} {t n : Int} (hc : Cn c S) : Wv c (nw S t n) (clr V (S.2.2 + 1)) = Wv c S V := by
  funext L' j'
  have := (hc.2 L').2
  have q2 : c L' ≠ S.2.2 + 1 := by omega
  unfold Wv nw clr
  simp [q2]
theorem Cn_nw0 {c : Int → Int} {S : Sh} {t n : Int} (hc : Cn c S) : Cn c (nw S t n) := ⟨hc.1, fun L => ⟨(hc.2 L).1, by show c L ≤ S.2.2 + 1; have := (hc.2 L).2; omega⟩⟩
theorem upl_eq {c : Int → Int} {L r : Int} : upl c L r L = r := by simp [upl]
theorem upl_ne {c : Int → Int} {L r L' : Int} (h : L' ≠ L) : upl c L r L' = c L' := by simp [upl, h]

/-- what the reference has made so far: expressions and names of the books that are there -/
def Xe (M : Mem) : Prop := 0 ≤ M 0 40 ∧ M 0 40 ≤ 3000 * M 0 8 ∧ (∀ x, 0 ≤ x → x < M 0 40 → M 39 x < 12 * M 0 8) ∧ (∀ b e, 0 ≤ b → b < M 0 8 → 0 ≤ e → e < M 10 b → M 13 (12 * b + e) / 16 + M 13 (12 * b + e) % 16 ≤ 3000 * M 0 8 ∧ ∀ i, 0 ≤ i → i < M 14 (12 * b + e) → M 20 (24 * (12 * b + e) + i) / 16 + M 20 (24 * (12 * b + e) + i) % 16 ≤ 3000 * M 0 8)
theorem Xe.fr {M M' : Mem} (h : Xe M) (m40 : M' 0 40 = M 0 40) (m8 : M' 0 8 = M 0 8) (m : ∀ k j, k = 10 ∨ k = 13 ∨ k = 14 ∨ k = 20 ∨ k = 39 → M' k j = M k j) : Xe M' := by
  unfold Xe at *
  simp only [m40, m8, m 10 _ (by omega), m 13 _ (by omega), m 14 _ (by omega), m 20 _ (by omega), m 39 _ (by omega)]
  exact h
def Rtop (c : Int → Int) (N M : Mem) : Prop := (N (60) (-1) = 12) ∧ (N (61) (-1) = 21) ∧ (N (61) (-2) = 3000) ∧ (N (62) (-1) = 30) ∧ (N (62) (-2) = 10) ∧ (N (63) (-1) = 36) ∧ (N (63) (-2) = 40) ∧ (N (64) (-1) = 36) ∧ (N (64) (-2) = 10) ∧ (N (65) (-1) = 34) ∧ (N (65) (-2) = 20) ∧ (N 60 0 = c 61) ∧ (N 60 2 = c 40) ∧ (N 60 3 = c 50) ∧ (N 60 4 = c 30) ∧ (N 60 5 = c 62) ∧ (N 60 9 = c 63) ∧ (N 60 11 = c 64) ∧ (N 60 13 = c 65) ∧ (N 60 15 = c (128 * M 0 81 + 70)) ∧ (N 60 1 = M 0 2) ∧ (0 ≤ M 0 2) ∧ (M 0 2 ≤ 3000) ∧ (∀ j, 0 ≤ j → j < M 0 2 → N 61 j = M 1 j) ∧ (∀ j, 0 ≤ j → j < M 0 2 → wb (M 1 j) = M 1 j) ∧ (N 60 6 = M 0 8) ∧ (0 ≤ M 0 8) ∧ (M 0 8 ≤ 10) ∧ (N 60 7 = M 0 46) ∧ (N 60 8 = M 0 69) ∧ (N 60 10 = M 0 72) ∧ (0 ≤ M 0 72) ∧ (M 0 72 ≤ 40) ∧ (N 60 12 = M 0 76) ∧ (0 ≤ M 0 76) ∧ (M 0 76 ≤ 10) ∧ (N 60 14 = M 0 81) ∧ (0 ≤ M 0 81) ∧ (M 0 81 ≤ 20 ∧ Xe M)
theorem Rtop.g60 {c : Int → Int} {N M : Mem} (h : Rtop c N M) : N (60) (-1) = 12 := h.1
theorem Rtop.vg60 {c : Int → Int} {S : Sh} {V M : Mem} (h : Rtop c (Wv c S V) M) : S.1 (c (60)) = 12 := by
  have q := h.g60
  exact q
theorem Rtop.g61 {c : Int → Int} {N M : Mem} (h : Rtop c N M) : N (61) (-1) = 21 := h.2.1
theorem Rtop.vg61 {c : Int → Int} {S : Sh} {V M : Mem} (h : Rtop c (Wv c S V) M) : S.1 (c (61)) = 21 := by
  have q := h.g61
  exact q
theorem Rtop.n61 {c : Int → Int} {N M : Mem} (h : Rtop c N M) : N (61) (-2) = 3000 := h.2.2.1
theorem Rtop.vn61 {c : Int → Int} {S : Sh} {V M : Mem} (h : Rtop c (Wv c S V) M) : S.2.1 (c (61)) = 3000 := by
  have q := h.n61
  exact q
theorem Rtop.g62 {c : Int → Int} {N M : Mem} (h : Rtop c N M) : N (62) (-1) = 30 := h.2.2.2.1
theorem Rtop.vg62 {c : Int → Int} {S : Sh} {V M : Mem} (h : Rtop c (Wv c S V) M) : S.1 (c (62)) = 30 := by
  have q := h.g62
  exact q
theorem Rtop.n62 {c : Int → Int} {N M : Mem} (h : Rtop c N M) : N (62) (-2) = 10 := h.2.2.2.2.1
theorem Rtop.vn62 {c : Int → Int} {S : Sh} {V M : Mem} (h : Rtop c (Wv c S V) M) : S.2.1 (c (62)) = 10 := by
  have q := h.n62
  exact q
theorem Rtop.g63 {c : Int → Int} {N M : Mem} (h : Rtop c N M) : N (63) (-1) = 36 := h.2.2.2.2.2.1
theorem Rtop.vg63 {c : Int → Int} {S : Sh} {V M : Mem} (h : Rtop c (Wv c S V) M) : S.1 (c (63)) = 36 := by
  have q := h.g63
  exact q
theorem Rtop.n63 {c : Int → Int} {N M : Mem} (h : Rtop c N M) : N (63) (-2) = 40 := h.2.2.2.2.2.2.1
theorem Rtop.vn63 {c : Int → Int} {S : Sh} {V M : Mem} (h : Rtop c (Wv c S V) M) : S.2.1 (c (63)) = 40 := by
  have q := h.n63
  exact q
theorem Rtop.g64 {c : Int → Int} {N M : Mem} (h : Rtop c N M) : N (64) (-1) = 36 := h.2.2.2.2.2.2.2.1
theorem Rtop.vg64 {c : Int → Int} {S : Sh} {V M : Mem} (h : Rtop c (Wv c S V) M) : S.1 (c (64)) = 36 := by
  have q := h.g64
  exact q
theorem Rtop.n64 {c : Int → Int} {N M : Mem} (h : Rtop c N M) : N (64) (-2) = 10 := h.2.2.2.2.2.2.2.2.1
theorem Rtop.vn64 {c : Int → Int} {S : Sh} {V M : Mem} (h : Rtop c (Wv c S V) M) : S.2.1 (c (64)) = 10 := by
  have q := h.n64
  exact q
theorem Rtop.g65 {c : Int → Int} {N M : Mem} (h : Rtop c N M) : N (65) (-1) = 34 := h.2.2.2.2.2.2.2.2.2.1
theorem Rtop.vg65 {c : Int → Int} {S : Sh} {V M : Mem} (h : Rtop c (Wv c S V) M) : S.1 (c (65)) = 34 := by
  have q := h.g65
  exact q
theorem Rtop.n65 {c : Int → Int} {N M : Mem} (h : Rtop c N M) : N (65) (-2) = 20 := h.2.2.2.2.2.2.2.2.2.2.1
theorem Rtop.vn65 {c : Int → Int} {S : Sh} {V M : Mem} (h : Rtop c (Wv c S V) M) : S.2.1 (c (65)) = 20 := by
  have q := h.n65
  exact q
theorem Rtop.r0 {c : Int → Int} {N M : Mem} (h : Rtop c N M) : N 60 0 = c 61 := h.2.2.2.2.2.2.2.2.2.2.2.1
theorem Rtop.vr0 {c : Int → Int} {S : Sh} {V M : Mem} (h : Rtop c (Wv c S V) M) : V (c 60) 0 = c 61 := by
  have q := h.r0
  exact q
theorem Rtop.r2 {c : Int → Int} {N M : Mem} (h : Rtop c N M) : N 60 2 = c 40 := h.2.2.2.2.2.2.2.2.2.2.2.2.1
theorem Rtop.vr2 {c : Int → Int} {S : Sh} {V M : Mem} (h : Rtop c (Wv c S V) M) : V (c 60) 2 = c 40 := by
  have q := h.r2
  exact q
theorem Rtop.r3 {c : Int → Int} {N M : Mem} (h : Rtop c N M) : N 60 3 = c 50 := h.2.2.2.2.2.2.2.2.2.2.2.2.2.1
theorem Rtop.vr3 {c : Int → Int} {S : Sh} {V M : Mem} (h : Rtop c (Wv c S V) M) : V (c 60) 3 = c 50 := by
  have q := h.r3
  exact q
theorem Rtop.r4 {c : Int → Int} {N M : Mem} (h : Rtop c N M) : N 60 4 = c 30 := h.2.2.2.2.2.2.2.2.2.2.2.2.2.2.1
theorem Rtop.vr4 {c : Int → Int} {S : Sh} {V M : Mem} (h : Rtop c (Wv c S V) M) : V (c 60) 4 = c 30 := by
  have q := h.r4
  exact q
theorem Rtop.r5 {c : Int → Int} {N M : Mem} (h : Rtop c N M) : N 60 5 = c 62 := h.2.2.2.2.2.2.2.2.2.2.2.2.2.2.2.1
theorem Rtop.vr5 {c : Int → Int} {S : Sh} {V M : Mem} (h : Rtop c (Wv c S V) M) : V (c 60) 5 = c 62 := by
  have q := h.r5
  exact q
theorem Rtop.r9 {c : Int → Int} {N M : Mem} (h : Rtop c N M) : N 60 9 = c 63 := h.2.2.2.2.2.2.2.2.2.2.2.2.2.2.2.2.1
theorem Rtop.vr9 {c : Int → Int} {S : Sh} {V M : Mem} (h : Rtop c (Wv c S V) M) : V (c 60) 9 = c 63 := by
  have q := h.r9
  exact q
theorem Rtop.r11 {c : Int → Int} {N M : Mem} (h : Rtop c N M) : N 60 11 = c 64 := h.2.2.2.2.2.2.2.2.2.2.2.2.2.2.2.2.2.1
theorem Rtop.vr11 {c : Int → Int} {S : Sh} {V M : Mem} (h : Rtop c (Wv c S V) M) : V (c 60) 11 = c 64 := by
  have q := h.r11
  exact q
theorem Rtop.r13 {c : Int → Int} {N M : Mem} (h : Rtop c N M) : N 60 13 = c 65 := h.2.2.2.2.2.2.2.2.2.2.2.2.2.2.2.2.2.2.1
theorem Rtop.vr13 {c : Int → Int} {S : Sh} {V M : Mem} (h : Rtop c (Wv c S V) M) : V (c 60) 13 = c 65 := by
  have q := h.r13
  exact q
theorem Rtop.r15 {c : Int → Int} {N M : Mem} (h : Rtop c N M) : N 60 15 = c (128 * M 0 81 + 70) := h.2.2.2.2.2.2.2.2.2.2.2.2.2.2.2.2.2.2.2.1
theorem Rtop.vr15 {c : Int → Int} {S : Sh} {V M : Mem} (h : Rtop c (Wv c S V) M) : V (c 60) 15 = c (128 * M 0 81 + 70) := by
  have q := h.r15
  exact q
theorem Rtop.tl {c : Int → Int} {N M : Mem} (h : Rtop c N M) : N 60 1 = M 0 2 := h.2.2.2.2.2.2.2.2.2.2.2.2.2.2.2.2.2.2.2.2.1
theorem Rtop.vtl {c : Int → Int} {S : Sh} {V M : Mem} (h : Rtop c (Wv c S V) M) : V (c 60) 1 = M 0 2 := by
  have q := h.tl
  exact q
theorem Rtop.tl0 {c : Int → Int} {N M : Mem} (h : Rtop c N M) : 0 ≤ M 0 2 := h.2.2.2.2.2.2.2.2.2.2.2.2.2.2.2.2.2.2.2.2.2.1
theorem Rtop.tl1 {c : Int → Int} {N M : Mem} (h : Rtop c N M) : M 0 2 ≤ 3000 := h.2.2.2.2.2.2.2.2.2.2.2.2.2.2.2.2.2.2.2.2.2.2.1
theorem Rtop.tb {c : Int → Int} {N M : Mem} (h : Rtop c N M) : ∀ j, 0 ≤ j → j < M 0 2 → N 61 j = M 1 j := h.2.2.2.2.2.2.2.2.2.2.2.2.2.2.2.2.2.2.2.2.2.2.2.1
theorem Rtop.vtb {c : Int → Int} {S : Sh} {V M : Mem} (h : Rtop c (Wv c S V) M) : ∀ j, 0 ≤ j → j < M 0 2 → V (c 61) j = M 1 j := by
  have q := h.tb
  simp (config := { contextual := true }) (disch := omega) only [Wv_el] at q
  exact q
theorem Rtop.tr {c : Int → Int} {N M : Mem} (h : Rtop c N M) : ∀ j, 0 ≤ j → j < M 0 2 → wb (M 1 j) = M 1 j := h.2.2.2.2.2.2.2.2.2.2.2.2.2.2.2.2.2.2.2.2.2.2.2.2.1
theorem Rtop.nb {c : Int → Int} {N M : Mem} (h : Rtop c N M) : N 60 6 = M 0 8 := h.2.2.2.2.2.2.2.2.2.2.2.2.2.2.2.2.2.2.2.2.2.2.2.2.2.1
theorem Rtop.vnb {c : Int → Int} {S : Sh} {V M : Mem} (h : Rtop c (Wv c S V) M) : V (c 60) 6 = M 0 8 := by
  have q := h.nb
  exact q
theorem Rtop.nb0 {c : Int → Int} {N M : Mem} (h : Rtop c N M) : 0 ≤ M 0 8 := h.2.2.2.2.2.2.2.2.2.2.2.2.2.2.2.2.2.2.2.2.2.2.2.2.2.2.1
theorem Rtop.nb1 {c : Int → Int} {N M : Mem} (h : Rtop c N M) : M 0 8 ≤ 10 := h.2.2.2.2.2.2.2.2.2.2.2.2.2.2.2.2.2.2.2.2.2.2.2.2.2.2.2.1
theorem Rtop.lf {c : Int → Int} {N M : Mem} (h : Rtop c N M) : N 60 7 = M 0 46 := h.2.2.2.2.2.2.2.2.2.2.2.2.2.2.2.2.2.2.2.2.2.2.2.2.2.2.2.2.1
theorem Rtop.vlf {c : Int → Int} {S : Sh} {V M : Mem} (h : Rtop c (Wv c S V) M) : V (c 60) 7 = M 0 46 := by
  have q := h.lf
  exact q
theorem Rtop.lo {c : Int → Int} {N M : Mem} (h : Rtop c N M) : N 60 8 = M 0 69 := h.2.2.2.2.2.2.2.2.2.2.2.2.2.2.2.2.2.2.2.2.2.2.2.2.2.2.2.2.2.1
theorem Rtop.vlo {c : Int → Int} {S : Sh} {V M : Mem} (h : Rtop c (Wv c S V) M) : V (c 60) 8 = M 0 69 := by
  have q := h.lo
  exact q
theorem Rtop.ns {c : Int → Int} {N M : Mem} (h : Rtop c N M) : N 60 10 = M 0 72 := h.2.2.2.2.2.2.2.2.2.2.2.2.2.2.2.2.2.2.2.2.2.2.2.2.2.2.2.2.2.2.1
theorem Rtop.vns {c : Int → Int} {S : Sh} {V M : Mem} (h : Rtop c (Wv c S V) M) : V (c 60) 10 = M 0 72 := by
  have q := h.ns
  exact q
theorem Rtop.ns0 {c : Int → Int} {N M : Mem} (h : Rtop c N M) : 0 ≤ M 0 72 := h.2.2.2.2.2.2.2.2.2.2.2.2.2.2.2.2.2.2.2.2.2.2.2.2.2.2.2.2.2.2.2.1
theorem Rtop.ns1 {c : Int → Int} {N M : Mem} (h : Rtop c N M) : M 0 72 ≤ 40 := h.2.2.2.2.2.2.2.2.2.2.2.2.2.2.2.2.2.2.2.2.2.2.2.2.2.2.2.2.2.2.2.2.1
theorem Rtop.nm {c : Int → Int} {N M : Mem} (h : Rtop c N M) : N 60 12 = M 0 76 := h.2.2.2.2.2.2.2.2.2.2.2.2.2.2.2.2.2.2.2.2.2.2.2.2.2.2.2.2.2.2.2.2.2.1
theorem Rtop.vnm {c : Int → Int} {S : Sh} {V M : Mem} (h : Rtop c (Wv c S V) M) : V (c 60) 12 = M 0 76 := by
  have q := h.nm
  exact q
theorem Rtop.nm0 {c : Int → Int} {N M : Mem} (h : Rtop c N M) : 0 ≤ M 0 76 := h.2.2.2.2.2.2.2.2.2.2.2.2.2.2.2.2.2.2.2.2.2.2.2.2.2.2.2.2.2.2.2.2.2.2.1
theorem Rtop.nm1 {c : Int → Int} {N M : Mem} (h : Rtop c N M) : M 0 76 ≤ 10 := h.2.2.2.2.2.2.2.2.2.2.2.2.2.2.2.2.2.2.2.2.2.2.2.2.2.2.2.2.2.2.2.2.2.2.2.1
theorem Rtop.ng {c : Int → Int} {N M : Mem} (h : Rtop c N M) : N 60 14 = M 0 81 := h.2.2.2.2.2.2.2.2.2.2.2.2.2.2.2.2.2.2.2.2.2.2.2.2.2.2.2.2.2.2.2.2.2.2.2.2.1
theorem Rtop.vng {c : Int → Int} {S : Sh} {V M : Mem} (h : Rtop c (Wv c S V) M) : V (c 60) 14 = M 0 81 := by
  have q := h.ng
  exact q
theorem Rtop.ng0 {c : Int → Int} {N M : Mem} (h : Rtop c N M) : 0 ≤ M 0 81 := h.2.2.2.2.2.2.2.2.2.2.2.2.2.2.2.2.2.2.2.2.2.2.2.2.2.2.2.2.2.2.2.2.2.2.2.2.2.1
theorem Rtop.ngx {c : Int → Int} {N M : Mem} (h : Rtop c N M) : M 0 81 ≤ 20 ∧ Xe M := h.2.2.2.2.2.2.2.2.2.2.2.2.2.2.2.2.2.2.2.2.2.2.2.2.2.2.2.2.2.2.2.2.2.2.2.2.2.2
theorem Rtop.ng1 {c : Int → Int} {N M : Mem} (h : Rtop c N M) : M 0 81 ≤ 20 := h.ngx.1
theorem Rtop.xe {c : Int → Int} {N M : Mem} (h : Rtop c N M) : Xe M := h.ngx.2
def Rwk (c : Int → Int) (N M : Mem) : Prop := (N (30) (-1) = 11) ∧ (N (31) (-1) = 20) ∧ (N (31) (-2) = 1000) ∧ (N (32) (-1) = 20) ∧ (N (32) (-2) = 12) ∧ (N (33) (-1) = 20) ∧ (N (33) (-2) = 13) ∧ (N (34) (-1) = 20) ∧ (N (34) (-2) = 13) ∧ (N 30 2 = c 31) ∧ (N 30 4 = c 32) ∧ (N 30 6 = c 33) ∧ (N 30 7 = c 34) ∧ (N 30 8 = M 0 68) ∧ (0 ≤ M 0 68) ∧ (M 0 68 ≤ 13) ∧ (∀ j, 0 ≤ j → j < M 0 68 → N 33 j = M 66 j) ∧ (∀ j, 0 ≤ j → j < M 0 68 → N 34 j = M 67 j)
theorem Rwk.g30 {c : Int → Int} {N M : Mem} (h : Rwk c N M) : N (30) (-1) = 11 := h.1
theorem Rwk.vg30 {c : Int → Int} {S : Sh} {V M : Mem} (h : Rwk c (Wv c S V) M) : S.1 (c (30)) = 11 := by
  have q := h.g30
  exact q
theorem Rwk.g31 {c : Int → Int} {N M : Mem} (h : Rwk c N M) : N (31) (-1) = 20 := h.2.1
theorem Rwk.vg31 {c : Int → Int} {S : Sh} {V M : Mem} (h : Rwk c (Wv c S V) M) : S.1 (c (31)) = 20 := by
  have q := h.g31
  exact q
theorem Rwk.n31 {c : Int → Int} {N M : Mem} (h : Rwk c N M) : N (31) (-2) = 1000 := h.2.2.1
theorem Rwk.vn31 {c : Int → Int} {S : Sh} {V M : Mem} (h : Rwk c (Wv c S V) M) : S.2.1 (c (31)) = 1000 := by
  have q := h.n31
  exact q
theorem Rwk.g32 {c : Int → Int} {N M : Mem} (h : Rwk c N M) : N (32) (-1) = 20 := h.2.2.2.1
theorem Rwk.vg32 {c : Int → Int} {S : Sh} {V M : Mem} (h : Rwk c (Wv c S V) M) : S.1 (c (32)) = 20 := by
  have q := h.g32
  exact q
theorem Rwk.n32 {c : Int → Int} {N M : Mem} (h : Rwk c N M) : N (32) (-2) = 12 := h.2.2.2.2.1
theorem Rwk.vn32 {c : Int → Int} {S : Sh} {V M : Mem} (h : Rwk c (Wv c S V) M) : S.2.1 (c (32)) = 12 := by
  have q := h.n32
  exact q
theorem Rwk.g33 {c : Int → Int} {N M : Mem} (h : Rwk c N M) : N (33) (-1) = 20 := h.2.2.2.2.2.1
theorem Rwk.vg33 {c : Int → Int} {S : Sh} {V M : Mem} (h : Rwk c (Wv c S V) M) : S.1 (c (33)) = 20 := by
  have q := h.g33
  exact q
theorem Rwk.n33 {c : Int → Int} {N M : Mem} (h : Rwk c N M) : N (33) (-2) = 13 := h.2.2.2.2.2.2.1
theorem Rwk.vn33 {c : Int → Int} {S : Sh} {V M : Mem} (h : Rwk c (Wv c S V) M) : S.2.1 (c (33)) = 13 := by
  have q := h.n33
  exact q
theorem Rwk.g34 {c : Int → Int} {N M : Mem} (h : Rwk c N M) : N (34) (-1) = 20 := h.2.2.2.2.2.2.2.1
theorem Rwk.vg34 {c : Int → Int} {S : Sh} {V M : Mem} (h : Rwk c (Wv c S V) M) : S.1 (c (34)) = 20 := by
  have q := h.g34
  exact q
theorem Rwk.n34 {c : Int → Int} {N M : Mem} (h : Rwk c N M) : N (34) (-2) = 13 := h.2.2.2.2.2.2.2.2.1
theorem Rwk.vn34 {c : Int → Int} {S : Sh} {V M : Mem} (h : Rwk c (Wv c S V) M) : S.2.1 (c (34)) = 13 := by
  have q := h.n34
  exact q
theorem Rwk.r2 {c : Int → Int} {N M : Mem} (h : Rwk c N M) : N 30 2 = c 31 := h.2.2.2.2.2.2.2.2.2.1
theorem Rwk.vr2 {c : Int → Int} {S : Sh} {V M : Mem} (h : Rwk c (Wv c S V) M) : V (c 30) 2 = c 31 := by
  have q := h.r2
  exact q
theorem Rwk.r4 {c : Int → Int} {N M : Mem} (h : Rwk c N M) : N 30 4 = c 32 := h.2.2.2.2.2.2.2.2.2.2.1
theorem Rwk.vr4 {c : Int → Int} {S : Sh} {V M : Mem} (h : Rwk c (Wv c S V) M) : V (c 30) 4 = c 32 := by
  have q := h.r4
  exact q
theorem Rwk.r6 {c : Int → Int} {N M : Mem} (h : Rwk c N M) : N 30 6 = c 33 := h.2.2.2.2.2.2.2.2.2.2.2.1
theorem Rwk.vr6 {c : Int → Int} {S : Sh} {V M : Mem} (h : Rwk c (Wv c S V) M) : V (c 30) 6 = c 33 := by
  have q := h.r6
  exact q
theorem Rwk.r7 {c : Int → Int} {N M : Mem} (h : Rwk c N M) : N 30 7 = c 34 := h.2.2.2.2.2.2.2.2.2.2.2.2.1
theorem Rwk.vr7 {c : Int → Int} {S : Sh} {V M : Mem} (h : Rwk c (Wv c S V) M) : V (c 30) 7 = c 34 := by
  have q := h.r7
  exact q
theorem Rwk.cc {c : Int → Int} {N M : Mem} (h : Rwk c N M) : N 30 8 = M 0 68 := h.2.2.2.2.2.2.2.2.2.2.2.2.2.1
theorem Rwk.vcc {c : Int → Int} {S : Sh} {V M : Mem} (h : Rwk c (Wv c S V) M) : V (c 30) 8 = M 0 68 := by
  have q := h.cc
  exact q
theorem Rwk.cc0 {c : Int → Int} {N M : Mem} (h : Rwk c N M) : 0 ≤ M 0 68 := h.2.2.2.2.2.2.2.2.2.2.2.2.2.2.1
theorem Rwk.cc1 {c : Int → Int} {N M : Mem} (h : Rwk c N M) : M 0 68 ≤ 13 := h.2.2.2.2.2.2.2.2.2.2.2.2.2.2.2.1
theorem Rwk.ck {c : Int → Int} {N M : Mem} (h : Rwk c N M) : ∀ j, 0 ≤ j → j < M 0 68 → N 33 j = M 66 j := h.2.2.2.2.2.2.2.2.2.2.2.2.2.2.2.2.1
theorem Rwk.vck {c : Int → Int} {S : Sh} {V M : Mem} (h : Rwk c (Wv c S V) M) : ∀ j, 0 ≤ j → j < M 0 68 → V (c 33) j = M 66 j := by
  have q := h.ck
  simp (config := { contextual := true }) (disch := omega) only [Wv_el] at q
  exact q
theorem Rwk.ci {c : Int → Int} {N M : Mem} (h : Rwk c N M) : ∀ j, 0 ≤ j → j < M 0 68 → N 34 j = M 67 j := h.2.2.2.2.2.2.2.2.2.2.2.2.2.2.2.2.2
theorem Rwk.vci {c : Int → Int} {S : Sh} {V M : Mem} (h : Rwk c (Wv c S V) M) : ∀ j, 0 ≤ j → j < M 0 68 → V (c 34) j = M 67 j := by
  have q := h.ci
  simp (config := { contextual := true }) (disch := omega) only [Wv_el] at q
  exact q
def Rrd (c : Int → Int) (N M : Mem) : Prop := (N (40) (-1) = 10) ∧ (N (41) (-1) = 20) ∧ (N (41) (-2) = 3001) ∧ (N (42) (-1) = 20) ∧ (N (42) (-2) = 3001) ∧ (N (43) (-1) = 22) ∧ (N (43) (-2) = 3001) ∧ (N (44) (-1) = 22) ∧ (N (44) (-2) = 12) ∧ (N (50) (-1) = 6) ∧ (N (51) (-1) = 22) ∧ (N (51) (-2) = 4) ∧ (N (120) (-1) = 2) ∧ (N (121) (-1) = 20) ∧ (N (121) (-2) = 3000) ∧ (N (122) (-1) = 20) ∧ (N (122) (-2) = 3000) ∧ (N 40 0 = c 41) ∧ (N 40 1 = c 42) ∧ (N 40 2 = c 43) ∧ (N 40 4 = c 44) ∧ (N 50 0 = c 40) ∧ (N 50 1 = c 120) ∧ (N 50 2 = c 51) ∧ (N 120 0 = c 121) ∧ (N 120 1 = c 122) ∧ (N 44 0 = 1369421) ∧ (N 44 1 = 4308) ∧ (N 44 2 = 335815429) ∧ (N 44 3 = 52449483) ∧ (N 44 4 = 8844755282) ∧ (N 44 5 = 20789412040) ∧ (N 44 6 = 791749) ∧ (N 44 7 = 1361093) ∧ (N 44 8 = 369411397) ∧ (N 44 9 = 62596) ∧ (N 44 10 = 5019269) ∧ (N 44 11 = 17364357)
theorem Rrd.g40 {c : Int → Int} {N M : Mem} (h : Rrd c N M) : N (40) (-1) = 10 := h.1
theorem Rrd.vg40 {c : Int → Int} {S : Sh} {V M : Mem} (h : Rrd c (Wv c S V) M) : S.1 (c (40)) = 10 := by
  have q := h.g40
  exact q
theorem Rrd.g41 {c : Int → Int} {N M : Mem} (h : Rrd c N M) : N (41) (-1) = 20 := h.2.1
theorem Rrd.vg41 {c : Int → Int} {S : Sh} {V M : Mem} (h : Rrd c (Wv c S V) M) : S.1 (c (41)) = 20 := by
  have q := h.g41
  exact q
theorem Rrd.n41 {c : Int → Int} {N M : Mem} (h : Rrd c N M) : N (41) (-2) = 3001 := h.2.2.1
theorem Rrd.vn41 {c : Int → Int} {S : Sh} {V M : Mem} (h : Rrd c (Wv c S V) M) : S.2.1 (c (41)) = 3001 := by
  have q := h.n41
  exact q
theorem Rrd.g42 {c : Int → Int} {N M : Mem} (h : Rrd c N M) : N (42) (-1) = 20 := h.2.2.2.1
theorem Rrd.vg42 {c : Int → Int} {S : Sh} {V M : Mem} (h : Rrd c (Wv c S V) M) : S.1 (c (42)) = 20 := by
  have q := h.g42
  exact q
theorem Rrd.n42 {c : Int → Int} {N M : Mem} (h : Rrd c N M) : N (42) (-2) = 3001 := h.2.2.2.2.1
theorem Rrd.vn42 {c : Int → Int} {S : Sh} {V M : Mem} (h : Rrd c (Wv c S V) M) : S.2.1 (c (42)) = 3001 := by
  have q := h.n42
  exact q
theorem Rrd.g43 {c : Int → Int} {N M : Mem} (h : Rrd c N M) : N (43) (-1) = 22 := h.2.2.2.2.2.1
theorem Rrd.vg43 {c : Int → Int} {S : Sh} {V M : Mem} (h : Rrd c (Wv c S V) M) : S.1 (c (43)) = 22 := by
  have q := h.g43
  exact q
theorem Rrd.n43 {c : Int → Int} {N M : Mem} (h : Rrd c N M) : N (43) (-2) = 3001 := h.2.2.2.2.2.2.1
theorem Rrd.vn43 {c : Int → Int} {S : Sh} {V M : Mem} (h : Rrd c (Wv c S V) M) : S.2.1 (c (43)) = 3001 := by
  have q := h.n43
  exact q
theorem Rrd.g44 {c : Int → Int} {N M : Mem} (h : Rrd c N M) : N (44) (-1) = 22 := h.2.2.2.2.2.2.2.1
theorem Rrd.vg44 {c : Int → Int} {S : Sh} {V M : Mem} (h : Rrd c (Wv c S V) M) : S.1 (c (44)) = 22 := by
  have q := h.g44
  exact q
theorem Rrd.n44 {c : Int → Int} {N M : Mem} (h : Rrd c N M) : N (44) (-2) = 12 := h.2.2.2.2.2.2.2.2.1
theorem Rrd.vn44 {c : Int → Int} {S : Sh} {V M : Mem} (h : Rrd c (Wv c S V) M) : S.2.1 (c (44)) = 12 := by
  have q := h.n44
  exact q
theorem Rrd.g50 {c : Int → Int} {N M : Mem} (h : Rrd c N M) : N (50) (-1) = 6 := h.2.2.2.2.2.2.2.2.2.1
theorem Rrd.vg50 {c : Int → Int} {S : Sh} {V M : Mem} (h : Rrd c (Wv c S V) M) : S.1 (c (50)) = 6 := by
  have q := h.g50
  exact q
theorem Rrd.g51 {c : Int → Int} {N M : Mem} (h : Rrd c N M) : N (51) (-1) = 22 := h.2.2.2.2.2.2.2.2.2.2.1
theorem Rrd.vg51 {c : Int → Int} {S : Sh} {V M : Mem} (h : Rrd c (Wv c S V) M) : S.1 (c (51)) = 22 := by
  have q := h.g51
  exact q
theorem Rrd.n51 {c : Int → Int} {N M : Mem} (h : Rrd c N M) : N (51) (-2) = 4 := h.2.2.2.2.2.2.2.2.2.2.2.1
theorem Rrd.vn51 {c : Int → Int} {S : Sh} {V M : Mem} (h : Rrd c (Wv c S V) M) : S.2.1 (c (51)) = 4 := by
  have q := h.n51
  exact q
theorem Rrd.g120 {c : Int → Int} {N M : Mem} (h : Rrd c N M) : N (120) (-1) = 2 := h.2.2.2.2.2.2.2.2.2.2.2.2.1
theorem Rrd.vg120 {c : Int → Int} {S : Sh} {V M : Mem} (h : Rrd c (Wv c S V) M) : S.1 (c (120)) = 2 := by
  have q := h.g120
  exact q
theorem Rrd.g121 {c : Int → Int} {N M : Mem} (h : Rrd c N M) : N (121) (-1) = 20 := h.2.2.2.2.2.2.2.2.2.2.2.2.2.1
theorem Rrd.vg121 {c : Int → Int} {S : Sh} {V M : Mem} (h : Rrd c (Wv c S V) M) : S.1 (c (121)) = 20 := by
  have q := h.g121
  exact q
theorem Rrd.n121 {c : Int → Int} {N M : Mem} (h : Rrd c N M) : N (121) (-2) = 3000 := h.2.2.2.2.2.2.2.2.2.2.2.2.2.2.1
theorem Rrd.vn121 {c : Int → Int} {S : Sh} {V M : Mem} (h : Rrd c (Wv c S V) M) : S.2.1 (c (121)) = 3000 := by
  have q := h.n121
  exact q
theorem Rrd.g122 {c : Int → Int} {N M : Mem} (h : Rrd c N M) : N (122) (-1) = 20 := h.2.2.2.2.2.2.2.2.2.2.2.2.2.2.2.1
theorem Rrd.vg122 {c : Int → Int} {S : Sh} {V M : Mem} (h : Rrd c (Wv c S V) M) : S.1 (c (122)) = 20 := by
  have q := h.g122
  exact q
theorem Rrd.n122 {c : Int → Int} {N M : Mem} (h : Rrd c N M) : N (122) (-2) = 3000 := h.2.2.2.2.2.2.2.2.2.2.2.2.2.2.2.2.1
theorem Rrd.vn122 {c : Int → Int} {S : Sh} {V M : Mem} (h : Rrd c (Wv c S V) M) : S.2.1 (c (122)) = 3000 := by
  have q := h.n122
  exact q
theorem Rrd.t0 {c : Int → Int} {N M : Mem} (h : Rrd c N M) : N 40 0 = c 41 := h.2.2.2.2.2.2.2.2.2.2.2.2.2.2.2.2.2.1
theorem Rrd.vt0 {c : Int → Int} {S : Sh} {V M : Mem} (h : Rrd c (Wv c S V) M) : V (c 40) 0 = c 41 := by
  have q := h.t0
  exact q
theorem Rrd.t1 {c : Int → Int} {N M : Mem} (h : Rrd c N M) : N 40 1 = c 42 := h.2.2.2.2.2.2.2.2.2.2.2.2.2.2.2.2.2.2.1
theorem Rrd.vt1 {c : Int → Int} {S : Sh} {V M : Mem} (h : Rrd c (Wv c S V) M) : V (c 40) 1 = c 42 := by
  have q := h.t1
  exact q
theorem Rrd.t2 {c : Int → Int} {N M : Mem} (h : Rrd c N M) : N 40 2 = c 43 := h.2.2.2.2.2.2.2.2.2.2.2.2.2.2.2.2.2.2.2.1
theorem Rrd.vt2 {c : Int → Int} {S : Sh} {V M : Mem} (h : Rrd c (Wv c S V) M) : V (c 40) 2 = c 43 := by
  have q := h.t2
  exact q
theorem Rrd.t4 {c : Int → Int} {N M : Mem} (h : Rrd c N M) : N 40 4 = c 44 := h.2.2.2.2.2.2.2.2.2.2.2.2.2.2.2.2.2.2.2.2.1
theorem Rrd.vt4 {c : Int → Int} {S : Sh} {V M : Mem} (h : Rrd c (Wv c S V) M) : V (c 40) 4 = c 44 := by
  have q := h.t4
  exact q
theorem Rrd.r0 {c : Int → Int} {N M : Mem} (h : Rrd c N M) : N 50 0 = c 40 := h.2.2.2.2.2.2.2.2.2.2.2.2.2.2.2.2.2.2.2.2.2.1
theorem Rrd.vr0 {c : Int → Int} {S : Sh} {V M : Mem} (h : Rrd c (Wv c S V) M) : V (c 50) 0 = c 40 := by
  have q := h.r0
  exact q
theorem Rrd.r1 {c : Int → Int} {N M : Mem} (h : Rrd c N M) : N 50 1 = c 120 := h.2.2.2.2.2.2.2.2.2.2.2.2.2.2.2.2.2.2.2.2.2.2.1
theorem Rrd.vr1 {c : Int → Int} {S : Sh} {V M : Mem} (h : Rrd c (Wv c S V) M) : V (c 50) 1 = c 120 := by
  have q := h.r1
  exact q
theorem Rrd.r2 {c : Int → Int} {N M : Mem} (h : Rrd c N M) : N 50 2 = c 51 := h.2.2.2.2.2.2.2.2.2.2.2.2.2.2.2.2.2.2.2.2.2.2.2.1
theorem Rrd.vr2 {c : Int → Int} {S : Sh} {V M : Mem} (h : Rrd c (Wv c S V) M) : V (c 50) 2 = c 51 := by
  have q := h.r2
  exact q
theorem Rrd.c0 {c : Int → Int} {N M : Mem} (h : Rrd c N M) : N 120 0 = c 121 := h.2.2.2.2.2.2.2.2.2.2.2.2.2.2.2.2.2.2.2.2.2.2.2.2.1
theorem Rrd.vc0 {c : Int → Int} {S : Sh} {V M : Mem} (h : Rrd c (Wv c S V) M) : V (c 120) 0 = c 121 := by
  have q := h.c0
  exact q
theorem Rrd.c1 {c : Int → Int} {N M : Mem} (h : Rrd c N M) : N 120 1 = c 122 := h.2.2.2.2.2.2.2.2.2.2.2.2.2.2.2.2.2.2.2.2.2.2.2.2.2.1
theorem Rrd.vc1 {c : Int → Int} {S : Sh} {V M : Mem} (h : Rrd c (Wv c S V) M) : V (c 120) 1 = c 122 := by
  have q := h.c1
  exact q
theorem Rrd.k0 {c : Int → Int} {N M : Mem} (h : Rrd c N M) : N 44 0 = 1369421 := h.2.2.2.2.2.2.2.2.2.2.2.2.2.2.2.2.2.2.2.2.2.2.2.2.2.2.1
theorem Rrd.vk0 {c : Int → Int} {S : Sh} {V M : Mem} (h : Rrd c (Wv c S V) M) : V (c 44) 0 = 1369421 := by
  have q := h.k0
  exact q
theorem Rrd.k1 {c : Int → Int} {N M : Mem} (h : Rrd c N M) : N 44 1 = 4308 := h.2.2.2.2.2.2.2.2.2.2.2.2.2.2.2.2.2.2.2.2.2.2.2.2.2.2.2.1
theorem Rrd.vk1 {c : Int → Int} {S : Sh} {V M : Mem} (h : Rrd c (Wv c S V) M) : V (c 44) 1 = 4308 := by
  have q := h.k1
  exact q
theorem Rrd.k2 {c : Int → Int} {N M : Mem} (h : Rrd c N M) : N 44 2 = 335815429 := h.2.2.2.2.2.2.2.2.2.2.2.2.2.2.2.2.2.2.2.2.2.2.2.2.2.2.2.2.1
theorem Rrd.vk2 {c : Int → Int} {S : Sh} {V M : Mem} (h : Rrd c (Wv c S V) M) : V (c 44) 2 = 335815429 := by
  have q := h.k2
  exact q
theorem Rrd.k3 {c : Int → Int} {N M : Mem} (h : Rrd c N M) : N 44 3 = 52449483 := h.2.2.2.2.2.2.2.2.2.2.2.2.2.2.2.2.2.2.2.2.2.2.2.2.2.2.2.2.2.1
theorem Rrd.vk3 {c : Int → Int} {S : Sh} {V M : Mem} (h : Rrd c (Wv c S V) M) : V (c 44) 3 = 52449483 := by
  have q := h.k3
  exact q
theorem Rrd.k4 {c : Int → Int} {N M : Mem} (h : Rrd c N M) : N 44 4 = 8844755282 := h.2.2.2.2.2.2.2.2.2.2.2.2.2.2.2.2.2.2.2.2.2.2.2.2.2.2.2.2.2.2.1
theorem Rrd.vk4 {c : Int → Int} {S : Sh} {V M : Mem} (h : Rrd c (Wv c S V) M) : V (c 44) 4 = 8844755282 := by
  have q := h.k4
  exact q
theorem Rrd.k5 {c : Int → Int} {N M : Mem} (h : Rrd c N M) : N 44 5 = 20789412040 := h.2.2.2.2.2.2.2.2.2.2.2.2.2.2.2.2.2.2.2.2.2.2.2.2.2.2.2.2.2.2.2.1
theorem Rrd.vk5 {c : Int → Int} {S : Sh} {V M : Mem} (h : Rrd c (Wv c S V) M) : V (c 44) 5 = 20789412040 := by
  have q := h.k5
  exact q
theorem Rrd.k6 {c : Int → Int} {N M : Mem} (h : Rrd c N M) : N 44 6 = 791749 := h.2.2.2.2.2.2.2.2.2.2.2.2.2.2.2.2.2.2.2.2.2.2.2.2.2.2.2.2.2.2.2.2.1
theorem Rrd.vk6 {c : Int → Int} {S : Sh} {V M : Mem} (h : Rrd c (Wv c S V) M) : V (c 44) 6 = 791749 := by
  have q := h.k6
  exact q
theorem Rrd.k7 {c : Int → Int} {N M : Mem} (h : Rrd c N M) : N 44 7 = 1361093 := h.2.2.2.2.2.2.2.2.2.2.2.2.2.2.2.2.2.2.2.2.2.2.2.2.2.2.2.2.2.2.2.2.2.1
theorem Rrd.vk7 {c : Int → Int} {S : Sh} {V M : Mem} (h : Rrd c (Wv c S V) M) : V (c 44) 7 = 1361093 := by
  have q := h.k7
  exact q
theorem Rrd.k8 {c : Int → Int} {N M : Mem} (h : Rrd c N M) : N 44 8 = 369411397 := h.2.2.2.2.2.2.2.2.2.2.2.2.2.2.2.2.2.2.2.2.2.2.2.2.2.2.2.2.2.2.2.2.2.2.1
theorem Rrd.vk8 {c : Int → Int} {S : Sh} {V M : Mem} (h : Rrd c (Wv c S V) M) : V (c 44) 8 = 369411397 := by
  have q := h.k8
  exact q
theorem Rrd.k9 {c : Int → Int} {N M : Mem} (h : Rrd c N M) : N 44 9 = 62596 := h.2.2.2.2.2.2.2.2.2.2.2.2.2.2.2.2.2.2.2.2.2.2.2.2.2.2.2.2.2.2.2.2.2.2.2.1
theorem Rrd.vk9 {c : Int → Int} {S : Sh} {V M : Mem} (h : Rrd c (Wv c S V) M) : V (c 44) 9 = 62596 := by
  have q := h.k9
  exact q
theorem Rrd.k10 {c : Int → Int} {N M : Mem} (h : Rrd c N M) : N 44 10 = 5019269 := h.2.2.2.2.2.2.2.2.2.2.2.2.2.2.2.2.2.2.2.2.2.2.2.2.2.2.2.2.2.2.2.2.2.2.2.2.1
theorem Rrd.vk10 {c : Int → Int} {S : Sh} {V M : Mem} (h : Rrd c (Wv c S V) M) : V (c 44) 10 = 5019269 := by
  have q := h.k10
  exact q
theorem Rrd.k11 {c : Int → Int} {N M : Mem} (h : Rrd c N M) : N 44 11 = 17364357 := h.2.2.2.2.2.2.2.2.2.2.2.2.2.2.2.2.2.2.2.2.2.2.2.2.2.2.2.2.2.2.2.2.2.2.2.2.2
theorem Rrd.vk11 {c : Int → Int} {S : Sh} {V M : Mem} (h : Rrd c (Wv c S V) M) : V (c 44) 11 = 17364357 := by
  have q := h.k11
  exact q
def Rst (c : Int → Int) (N M : Mem) (s : Int) : Prop := (0 ≤ s) ∧ (N 63 s = c (128 * s + 66)) ∧ (N (128 * s + 66) (-1) = 7) ∧ (12 * N (128 * s + 66) 0 + N (128 * s + 66) 1 = M 70 s) ∧ (0 ≤ N (128 * s + 66) 0) ∧ (N (128 * s + 66) 0 < M 0 8) ∧ (0 ≤ N (128 * s + 66) 1) ∧ (N (128 * s + 66) 1 < M 10 (N (128 * s + 66) 0)) ∧ (N (128 * s + 66) 2 = M 71 s) ∧ (0 ≤ M 71 s) ∧ (M 71 s < 16777216)
theorem Rst.i0 {c : Int → Int} {N M : Mem} {s : Int} (h : Rst c N M s) : 0 ≤ s := h.1
theorem Rst.r {c : Int → Int} {N M : Mem} {s : Int} (h : Rst c N M s) : N 63 s = c (128 * s + 66) := h.2.1
theorem Rst.vr {c : Int → Int} {S : Sh} {V M : Mem} {s : Int} (h : Rst c (Wv c S V) M s) : V (c 63) s = c (128 * s + 66) := by
  have q := h.r
  rw [Wv_el h.i0] at q
  exact q
theorem Rst.g {c : Int → Int} {N M : Mem} {s : Int} (h : Rst c N M s) : N (128 * s + 66) (-1) = 7 := h.2.2.1
theorem Rst.vg {c : Int → Int} {S : Sh} {V M : Mem} {s : Int} (h : Rst c (Wv c S V) M s) : S.1 (c (128 * s + 66)) = 7 := by
  have q := h.g
  exact q
theorem Rst.en {c : Int → Int} {N M : Mem} {s : Int} (h : Rst c N M s) : 12 * N (128 * s + 66) 0 + N (128 * s + 66) 1 = M 70 s := h.2.2.2.1
theorem Rst.ven {c : Int → Int} {S : Sh} {V M : Mem} {s : Int} (h : Rst c (Wv c S V) M s) : 12 * V (c (128 * s + 66)) 0 + V (c (128 * s + 66)) 1 = M 70 s := by
  have q := h.en
  exact q
theorem Rst.b0 {c : Int → Int} {N M : Mem} {s : Int} (h : Rst c N M s) : 0 ≤ N (128 * s + 66) 0 := h.2.2.2.2.1
theorem Rst.vb0 {c : Int → Int} {S : Sh} {V M : Mem} {s : Int} (h : Rst c (Wv c S V) M s) : 0 ≤ V (c (128 * s + 66)) 0 := by
  have q := h.b0
  exact q
theorem Rst.b1 {c : Int → Int} {N M : Mem} {s : Int} (h : Rst c N M s) : N (128 * s + 66) 0 < M 0 8 := h.2.2.2.2.2.1
theorem Rst.vb1 {c : Int → Int} {S : Sh} {V M : Mem} {s : Int} (h : Rst c (Wv c S V) M s) : V (c (128 * s + 66)) 0 < M 0 8 := by
  have q := h.b1
  exact q
theorem Rst.e0 {c : Int → Int} {N M : Mem} {s : Int} (h : Rst c N M s) : 0 ≤ N (128 * s + 66) 1 := h.2.2.2.2.2.2.1
theorem Rst.ve0 {c : Int → Int} {S : Sh} {V M : Mem} {s : Int} (h : Rst c (Wv c S V) M s) : 0 ≤ V (c (128 * s + 66)) 1 := by
  have q := h.e0
  exact q
theorem Rst.e1 {c : Int → Int} {N M : Mem} {s : Int} (h : Rst c N M s) : N (128 * s + 66) 1 < M 10 (N (128 * s + 66) 0) := h.2.2.2.2.2.2.2.1
theorem Rst.ve1 {c : Int → Int} {S : Sh} {V M : Mem} {s : Int} (h : Rst c (Wv c S V) M s) : V (c (128 * s + 66)) 1 < M 10 (V (c (128 * s + 66)) 0) := by
  have q := h.e1
  exact q
theorem Rst.bt {c : Int → Int} {N M : Mem} {s : Int} (h : Rst c N M s) : N (128 * s + 66) 2 = M 71 s := h.2.2.2.2.2.2.2.2.1
theorem Rst.vbt {c : Int → Int} {S : Sh} {V M : Mem} {s : Int} (h : Rst c (Wv c S V) M s) : V (c (128 * s + 66)) 2 = M 71 s := by
  have q := h.bt
  exact q
theorem Rst.bt0 {c : Int → Int} {N M : Mem} {s : Int} (h : Rst c N M s) : 0 ≤ M 71 s := h.2.2.2.2.2.2.2.2.2.1
theorem Rst.bt1 {c : Int → Int} {N M : Mem} {s : Int} (h : Rst c N M s) : M 71 s < 16777216 := h.2.2.2.2.2.2.2.2.2.2
def Rmp (c : Int → Int) (N M : Mem) (s : Int) : Prop := (0 ≤ s) ∧ (N 64 s = c (128 * s + 67)) ∧ (N (128 * s + 67) (-1) = 7) ∧ (12 * N (128 * s + 67) 0 + N (128 * s + 67) 1 = M 73 s) ∧ (0 ≤ N (128 * s + 67) 0) ∧ (N (128 * s + 67) 0 < M 0 8) ∧ (0 ≤ N (128 * s + 67) 1) ∧ (N (128 * s + 67) 1 < M 10 (N (128 * s + 67) 0)) ∧ (N (128 * s + 67) 2 = M 74 s) ∧ (0 ≤ M 74 s) ∧ (M 74 s < 16777216) ∧ (N (128 * s + 67) 3 = c (128 * s + 68)) ∧ (N (128 * s + 68) (-1) = 20) ∧ (N (128 * s + 68) (-2) = 24) ∧ (∀ i, 0 ≤ i → i < 24 → (M 74 s).toNat.testBit i.toNat = true → N (128 * s + 68) i = M 75 (24 * s + i))
theorem Rmp.i0 {c : Int → Int} {N M : Mem} {s : Int} (h : Rmp c N M s) : 0 ≤ s := h.1
theorem Rmp.r {c : Int → Int} {N M : Mem} {s : Int} (h : Rmp c N M s) : N 64 s = c (128 * s + 67) := h.2.1
theorem Rmp.vr {c : Int → Int} {S : Sh} {V M : Mem} {s : Int} (h : Rmp c (Wv c S V) M s) : V (c 64) s = c (128 * s + 67) := by
  have q := h.r
  rw [Wv_el h.i0] at q
  exact q
theorem Rmp.g {c : Int → Int} {N M : Mem} {s : Int} (h : Rmp c N M s) : N (128 * s + 67) (-1) = 7 := h.2.2.1
theorem Rmp.vg {c : Int → Int} {S : Sh} {V M : Mem} {s : Int} (h : Rmp c (Wv c S V) M s) : S.1 (c (128 * s + 67)) = 7 := by
  have q := h.g
  exact q
theorem Rmp.en {c : Int → Int} {N M : Mem} {s : Int} (h : Rmp c N M s) : 12 * N (128 * s + 67) 0 + N (128 * s + 67) 1 = M 73 s := h.2.2.2.1
theorem Rmp.ven {c : Int → Int} {S : Sh} {V M : Mem} {s : Int} (h : Rmp c (Wv c S V) M s) : 12 * V (c (128 * s + 67)) 0 + V (c (128 * s + 67)) 1 = M 73 s := by
  have q := h.en
  exact q
theorem Rmp.b0 {c : Int → Int} {N M : Mem} {s : Int} (h : Rmp c N M s) : 0 ≤ N (128 * s + 67) 0 := h.2.2.2.2.1
theorem Rmp.vb0 {c : Int → Int} {S : Sh} {V M : Mem} {s : Int} (h : Rmp c (Wv c S V) M s) : 0 ≤ V (c (128 * s + 67)) 0 := by
  have q := h.b0
  exact q
theorem Rmp.b1 {c : Int → Int} {N M : Mem} {s : Int} (h : Rmp c N M s) : N (128 * s + 67) 0 < M 0 8 := h.2.2.2.2.2.1
theorem Rmp.vb1 {c : Int → Int} {S : Sh} {V M : Mem} {s : Int} (h : Rmp c (Wv c S V) M s) : V (c (128 * s + 67)) 0 < M 0 8 := by
  have q := h.b1
  exact q
theorem Rmp.e0 {c : Int → Int} {N M : Mem} {s : Int} (h : Rmp c N M s) : 0 ≤ N (128 * s + 67) 1 := h.2.2.2.2.2.2.1
theorem Rmp.ve0 {c : Int → Int} {S : Sh} {V M : Mem} {s : Int} (h : Rmp c (Wv c S V) M s) : 0 ≤ V (c (128 * s + 67)) 1 := by
  have q := h.e0
  exact q
theorem Rmp.e1 {c : Int → Int} {N M : Mem} {s : Int} (h : Rmp c N M s) : N (128 * s + 67) 1 < M 10 (N (128 * s + 67) 0) := h.2.2.2.2.2.2.2.1
theorem Rmp.ve1 {c : Int → Int} {S : Sh} {V M : Mem} {s : Int} (h : Rmp c (Wv c S V) M s) : V (c (128 * s + 67)) 1 < M 10 (V (c (128 * s + 67)) 0) := by
  have q := h.e1
  exact q
theorem Rmp.bt {c : Int → Int} {N M : Mem} {s : Int} (h : Rmp c N M s) : N (128 * s + 67) 2 = M 74 s := h.2.2.2.2.2.2.2.2.1
theorem Rmp.vbt {c : Int → Int} {S : Sh} {V M : Mem} {s : Int} (h : Rmp c (Wv c S V) M s) : V (c (128 * s + 67)) 2 = M 74 s := by
  have q := h.bt
  exact q
theorem Rmp.bt0 {c : Int → Int} {N M : Mem} {s : Int} (h : Rmp c N M s) : 0 ≤ M 74 s := h.2.2.2.2.2.2.2.2.2.1
theorem Rmp.bt1 {c : Int → Int} {N M : Mem} {s : Int} (h : Rmp c N M s) : M 74 s < 16777216 := h.2.2.2.2.2.2.2.2.2.2.1
theorem Rmp.rv {c : Int → Int} {N M : Mem} {s : Int} (h : Rmp c N M s) : N (128 * s + 67) 3 = c (128 * s + 68) := h.2.2.2.2.2.2.2.2.2.2.2.1
theorem Rmp.vrv {c : Int → Int} {S : Sh} {V M : Mem} {s : Int} (h : Rmp c (Wv c S V) M s) : V (c (128 * s + 67)) 3 = c (128 * s + 68) := by
  have q := h.rv
  exact q
theorem Rmp.gv {c : Int → Int} {N M : Mem} {s : Int} (h : Rmp c N M s) : N (128 * s + 68) (-1) = 20 := h.2.2.2.2.2.2.2.2.2.2.2.2.1
theorem Rmp.vgv {c : Int → Int} {S : Sh} {V M : Mem} {s : Int} (h : Rmp c (Wv c S V) M s) : S.1 (c (128 * s + 68)) = 20 := by
  have q := h.gv
  exact q
theorem Rmp.nv {c : Int → Int} {N M : Mem} {s : Int} (h : Rmp c N M s) : N (128 * s + 68) (-2) = 24 := h.2.2.2.2.2.2.2.2.2.2.2.2.2.1
theorem Rmp.vnv {c : Int → Int} {S : Sh} {V M : Mem} {s : Int} (h : Rmp c (Wv c S V) M s) : S.2.1 (c (128 * s + 68)) = 24 := by
  have q := h.nv
  exact q
theorem Rmp.v {c : Int → Int} {N M : Mem} {s : Int} (h : Rmp c N M s) : ∀ i, 0 ≤ i → i < 24 → (M 74 s).toNat.testBit i.toNat = true → N (128 * s + 68) i = M 75 (24 * s + i) := h.2.2.2.2.2.2.2.2.2.2.2.2.2.2
theorem Rmp.vv {c : Int → Int} {S : Sh} {V M : Mem} {s : Int} (h : Rmp c (Wv c S V) M s) : ∀ i, 0 ≤ i → i < 24 → (M 74 s).toNat.testBit i.toNat = true → V (c (128 * s + 68)) i = M 75 (24 * s + i) := by
  have q := h.v
  simp (config := { contextual := true }) (disch := omega) only [Wv_el] at q
  exact q
def Rdr (c : Int → Int) (N M : Mem) (n : Int) : Prop := (N (128 * n + 70) (-1) = 5) ∧ (N (128 * n + 70) 2 = c (128 * n + 71)) ∧ (N (128 * n + 70) 3 = c (128 * n + 72)) ∧ (N (128 * n + 70) 4 = c (128 * n + 73)) ∧ (N (128 * n + 71) (-1) = 20) ∧ (N (128 * n + 71) (-2) = 60) ∧ (N (128 * n + 72) (-1) = 20) ∧ (N (128 * n + 72) (-2) = 60) ∧ (N (128 * n + 73) (-1) = 20) ∧ (N (128 * n + 73) (-2) = 60)
theorem Rdr.g {c : Int → Int} {N M : Mem} {n : Int} (h : Rdr c N M n) : N (128 * n + 70) (-1) = 5 := h.1
theorem Rdr.vg {c : Int → Int} {S : Sh} {V M : Mem} {n : Int} (h : Rdr c (Wv c S V) M n) : S.1 (c (128 * n + 70)) = 5 := by
  have q := h.g
  exact q
theorem Rdr.r2 {c : Int → Int} {N M : Mem} {n : Int} (h : Rdr c N M n) : N (128 * n + 70) 2 = c (128 * n + 71) := h.2.1
theorem Rdr.vr2 {c : Int → Int} {S : Sh} {V M : Mem} {n : Int} (h : Rdr c (Wv c S V) M n) : V (c (128 * n + 70)) 2 = c (128 * n + 71) := by
  have q := h.r2
  exact q
theorem Rdr.r3 {c : Int → Int} {N M : Mem} {n : Int} (h : Rdr c N M n) : N (128 * n + 70) 3 = c (128 * n + 72) := h.2.2.1
theorem Rdr.vr3 {c : Int → Int} {S : Sh} {V M : Mem} {n : Int} (h : Rdr c (Wv c S V) M n) : V (c (128 * n + 70)) 3 = c (128 * n + 72) := by
  have q := h.r3
  exact q
theorem Rdr.r4 {c : Int → Int} {N M : Mem} {n : Int} (h : Rdr c N M n) : N (128 * n + 70) 4 = c (128 * n + 73) := h.2.2.2.1
theorem Rdr.vr4 {c : Int → Int} {S : Sh} {V M : Mem} {n : Int} (h : Rdr c (Wv c S V) M n) : V (c (128 * n + 70)) 4 = c (128 * n + 73) := by
  have q := h.r4
  exact q
theorem Rdr.g71 {c : Int → Int} {N M : Mem} {n : Int} (h : Rdr c N M n) : N (128 * n + 71) (-1) = 20 := h.2.2.2.2.1
theorem Rdr.vg71 {c : Int → Int} {S : Sh} {V M : Mem} {n : Int} (h : Rdr c (Wv c S V) M n) : S.1 (c (128 * n + 71)) = 20 := by
  have q := h.g71
  exact q
theorem Rdr.n71 {c : Int → Int} {N M : Mem} {n : Int} (h : Rdr c N M n) : N (128 * n + 71) (-2) = 60 := h.2.2.2.2.2.1
theorem Rdr.vn71 {c : Int → Int} {S : Sh} {V M : Mem} {n : Int} (h : Rdr c (Wv c S V) M n) : S.2.1 (c (128 * n + 71)) = 60 := by
  have q := h.n71
  exact q
theorem Rdr.g72 {c : Int → Int} {N M : Mem} {n : Int} (h : Rdr c N M n) : N (128 * n + 72) (-1) = 20 := h.2.2.2.2.2.2.1
theorem Rdr.vg72 {c : Int → Int} {S : Sh} {V M : Mem} {n : Int} (h : Rdr c (Wv c S V) M n) : S.1 (c (128 * n + 72)) = 20 := by
  have q := h.g72
  exact q
theorem Rdr.n72 {c : Int → Int} {N M : Mem} {n : Int} (h : Rdr c N M n) : N (128 * n + 72) (-2) = 60 := h.2.2.2.2.2.2.2.1
theorem Rdr.vn72 {c : Int → Int} {S : Sh} {V M : Mem} {n : Int} (h : Rdr c (Wv c S V) M n) : S.2.1 (c (128 * n + 72)) = 60 := by
  have q := h.n72
  exact q
theorem Rdr.g73 {c : Int → Int} {N M : Mem} {n : Int} (h : Rdr c N M n) : N (128 * n + 73) (-1) = 20 := h.2.2.2.2.2.2.2.2.1
theorem Rdr.vg73 {c : Int → Int} {S : Sh} {V M : Mem} {n : Int} (h : Rdr c (Wv c S V) M n) : S.1 (c (128 * n + 73)) = 20 := by
  have q := h.g73
  exact q
theorem Rdr.n73 {c : Int → Int} {N M : Mem} {n : Int} (h : Rdr c N M n) : N (128 * n + 73) (-2) = 60 := h.2.2.2.2.2.2.2.2.2
theorem Rdr.vn73 {c : Int → Int} {S : Sh} {V M : Mem} {n : Int} (h : Rdr c (Wv c S V) M n) : S.2.1 (c (128 * n + 73)) = 60 := by
  have q := h.n73
  exact q
def Rms (c : Int → Int) (N M : Mem) (n : Int) : Prop := (0 ≤ n) ∧ (N 65 n = c (128 * n + 70)) ∧ (N (128 * n + 70) 0 = M 77 n) ∧ (0 ≤ M 77 n) ∧ (M 77 n < M 0 8) ∧ (N (128 * n + 70) 1 = M 78 n) ∧ (0 ≤ M 78 n) ∧ (M 78 n ≤ 60) ∧ (∀ i, 0 ≤ i → i < M 78 n → 24 * (12 * M 77 n + N (128 * n + 71) i) + N (128 * n + 72) i = M 79 (61 * n + i) ∧ 0 ≤ N (128 * n + 71) i ∧ N (128 * n + 71) i < M 10 (M 77 n) ∧ 0 ≤ N (128 * n + 72) i ∧ N (128 * n + 72) i < M 14 (12 * M 77 n + N (128 * n + 71) i)) ∧ (∀ i, 0 ≤ i → i < M 78 n → N (128 * n + 73) i = M 80 (61 * n + i) ∧ 0 ≤ M 80 (61 * n + i) ∧ M 80 (61 * n + i) ≤ 999999999)
theorem Rms.i0 {c : Int → Int} {N M : Mem} {n : Int} (h : Rms c N M n) : 0 ≤ n := h.1
theorem Rms.r {c : Int → Int} {N M : Mem} {n : Int} (h : Rms c N M n) : N 65 n = c (128 * n + 70) := h.2.1
theorem Rms.vr {c : Int → Int} {S : Sh} {V M : Mem} {n : Int} (h : Rms c (Wv c S V) M n) : V (c 65) n = c (128 * n + 70) := by
  have q := h.r
  rw [Wv_el h.i0] at q
  exact q
theorem Rms.b {c : Int → Int} {N M : Mem} {n : Int} (h : Rms c N M n) : N (128 * n + 70) 0 = M 77 n := h.2.2.1
theorem Rms.vb {c : Int → Int} {S : Sh} {V M : Mem} {n : Int} (h : Rms c (Wv c S V) M n) : V (c (128 * n + 70)) 0 = M 77 n := by
  have q := h.b
  exact q
theorem Rms.b0 {c : Int → Int} {N M : Mem} {n : Int} (h : Rms c N M n) : 0 ≤ M 77 n := h.2.2.2.1
theorem Rms.b1 {c : Int → Int} {N M : Mem} {n : Int} (h : Rms c N M n) : M 77 n < M 0 8 := h.2.2.2.2.1
theorem Rms.z {c : Int → Int} {N M : Mem} {n : Int} (h : Rms c N M n) : N (128 * n + 70) 1 = M 78 n := h.2.2.2.2.2.1
theorem Rms.vz {c : Int → Int} {S : Sh} {V M : Mem} {n : Int} (h : Rms c (Wv c S V) M n) : V (c (128 * n + 70)) 1 = M 78 n := by
  have q := h.z
  exact q
theorem Rms.z0 {c : Int → Int} {N M : Mem} {n : Int} (h : Rms c N M n) : 0 ≤ M 78 n := h.2.2.2.2.2.2.1
theorem Rms.z1 {c : Int → Int} {N M : Mem} {n : Int} (h : Rms c N M n) : M 78 n ≤ 60 := h.2.2.2.2.2.2.2.1
theorem Rms.q {c : Int → Int} {N M : Mem} {n : Int} (h : Rms c N M n) : ∀ i, 0 ≤ i → i < M 78 n → 24 * (12 * M 77 n + N (128 * n + 71) i) + N (128 * n + 72) i = M 79 (61 * n + i) ∧ 0 ≤ N (128 * n + 71) i ∧ N (128 * n + 71) i < M 10 (M 77 n) ∧ 0 ≤ N (128 * n + 72) i ∧ N (128 * n + 72) i < M 14 (12 * M 77 n + N (128 * n + 71) i) := h.2.2.2.2.2.2.2.2.1
theorem Rms.vq {c : Int → Int} {S : Sh} {V M : Mem} {n : Int} (h : Rms c (Wv c S V) M n) : ∀ i, 0 ≤ i → i < M 78 n → 24 * (12 * M 77 n + V (c (128 * n + 71)) i) + V (c (128 * n + 72)) i = M 79 (61 * n + i) ∧ 0 ≤ V (c (128 * n + 71)) i ∧ V (c (128 * n + 71)) i < M 10 (M 77 n) ∧ 0 ≤ V (c (128 * n + 72)) i ∧ V (c (128 * n + 72)) i < M 14 (12 * M 77 n + V (c (128 * n + 71)) i) := by
  have q := h.q
  simp (config := { contextual := true }) (disch := omega) only [Wv_el] at q
  exact q
theorem Rms.a {c : Int → Int} {N M : Mem} {n : Int} (h : Rms c N M n) : ∀ i, 0 ≤ i → i < M 78 n → N (128 * n + 73) i = M 80 (61 * n + i) ∧ 0 ≤ M 80 (61 * n + i) ∧ M 80 (61 * n + i) ≤ 999999999 := h.2.2.2.2.2.2.2.2.2
theorem Rms.va {c : Int → Int} {S : Sh} {V M : Mem} {n : Int} (h : Rms c (Wv c S V) M n) : ∀ i, 0 ≤ i → i < M 78 n → V (c (128 * n + 73)) i = M 80 (61 * n + i) ∧ 0 ≤ M 80 (61 * n + i) ∧ M 80 (61 * n + i) ≤ 999999999 := by
  have q := h.a
  simp (config := { contextual := true }) (disch := omega) only [Wv_el] at q
  exact q
def Rbk (c : Int → Int) (N M : Mem) (b : Int) : Prop := (0 ≤ b) ∧ (N 62 b = c (128 * b + 1)) ∧ (N (128 * b + 1) (-1) = 1) ∧ (N (128 * b + 1) 0 = c (128 * b + 2)) ∧ (N (128 * b + 2) (-1) = 33) ∧ (N (128 * b + 2) (-2) = 12) ∧ (N (128 * b + 1) 1 = M 10 b) ∧ (1 ≤ M 10 b) ∧ (M 10 b ≤ 12) ∧ (N (128 * b + 1) 2 = M 11 b) ∧ (0 ≤ M 11 b) ∧ (M 11 b ≤ 4) ∧ (N (128 * b + 1) 3 = c (128 * b + 20)) ∧ (N (128 * b + 20) (-1) = 2) ∧ (N (128 * b + 20) 0 = c (128 * b + 21)) ∧ (N (128 * b + 20) 1 = c (128 * b + 22)) ∧ (N (128 * b + 21) (-1) = 20) ∧ (N (128 * b + 21) (-2) = N (128 * b + 20) 2) ∧ (N (128 * b + 22) (-1) = 20) ∧ (N (128 * b + 22) (-2) = N (128 * b + 20) 2) ∧ (0 ≤ N (128 * b + 20) 2) ∧ (N (128 * b + 20) 2 ≤ 3000) ∧ (N (128 * b + 1) 4 = c (128 * b + 23)) ∧ (N (128 * b + 23) (-1) = 20) ∧ (N (128 * b + 23) (-2) = 148) ∧ (N (128 * b + 1) 5 = c (128 * b + 24)) ∧ (N (128 * b + 24) (-1) = 20) ∧ (N (128 * b + 24) (-2) = 60) ∧ (N (128 * b + 1) 7 = c (128 * b + 25)) ∧ (N (128 * b + 25) (-1) = 20) ∧ (N (128 * b + 25) (-2) = N (128 * b + 20) 2) ∧ (N (128 * b + 1) 8 = c (128 * b + 26)) ∧ (N (128 * b + 26) (-1) = 20) ∧ (N (128 * b + 26) (-2) = N (128 * b + 20) 2) ∧ (∀ i, 0 ≤ i → i < 148 → N (128 * b + 23) i = M 52 (160 * b + i)) ∧ (N (128 * b + 1) 6 = M 59 b) ∧ (0 ≤ M 59 b) ∧ (M 59 b ≤ 60) ∧ (∀ i, 0 ≤ i → i < M 59 b → N (128 * b + 24) i = M 58 (160 * b + i)) ∧ (N (128 * b + 1) 9 = M 62 b) ∧ (0 ≤ M 62 b) ∧ (M 62 b ≤ N (128 * b + 20) 2) ∧ (∀ i, 0 ≤ i → i < M 62 b → N (128 * b + 25) i = M 60 (3100 * b + i)) ∧ (∀ i, 0 ≤ i → i < M 62 b → N (128 * b + 26) i = M 61 (3100 * b + i)) ∧ (∀ e, 0 ≤ e → e < M 10 b → N (128 * b + 2) e = c (128 * (12 * b + e) + 3))
theorem Rbk.i0 {c : Int → Int} {N M : Mem} {b : Int} (h : Rbk c N M b) : 0 ≤ b := h.1
theorem Rbk.r {c : Int → Int} {N M : Mem} {b : Int} (h : Rbk c N M b) : N 62 b = c (128 * b + 1) := h.2.1
theorem Rbk.vr {c : Int → Int} {S : Sh} {V M : Mem} {b : Int} (h : Rbk c (Wv c S V) M b) : V (c 62) b = c (128 * b + 1) := by
  have q := h.r
  rw [Wv_el h.i0] at q
  exact q
theorem Rbk.g1 {c : Int → Int} {N M : Mem} {b : Int} (h : Rbk c N M b) : N (128 * b + 1) (-1) = 1 := h.2.2.1
theorem Rbk.vg1 {c : Int → Int} {S : Sh} {V M : Mem} {b : Int} (h : Rbk c (Wv c S V) M b) : S.1 (c (128 * b + 1)) = 1 := by
  have q := h.g1
  exact q
theorem Rbk.r0 {c : Int → Int} {N M : Mem} {b : Int} (h : Rbk c N M b) : N (128 * b + 1) 0 = c (128 * b + 2) := h.2.2.2.1
theorem Rbk.vr0 {c : Int → Int} {S : Sh} {V M : Mem} {b : Int} (h : Rbk c (Wv c S V) M b) : V (c (128 * b + 1)) 0 = c (128 * b + 2) := by
  have q := h.r0
  exact q
theorem Rbk.g2 {c : Int → Int} {N M : Mem} {b : Int} (h : Rbk c N M b) : N (128 * b + 2) (-1) = 33 := h.2.2.2.2.1
theorem Rbk.vg2 {c : Int → Int} {S : Sh} {V M : Mem} {b : Int} (h : Rbk c (Wv c S V) M b) : S.1 (c (128 * b + 2)) = 33 := by
  have q := h.g2
  exact q
theorem Rbk.n2 {c : Int → Int} {N M : Mem} {b : Int} (h : Rbk c N M b) : N (128 * b + 2) (-2) = 12 := h.2.2.2.2.2.1
theorem Rbk.vn2 {c : Int → Int} {S : Sh} {V M : Mem} {b : Int} (h : Rbk c (Wv c S V) M b) : S.2.1 (c (128 * b + 2)) = 12 := by
  have q := h.n2
  exact q
theorem Rbk.ne {c : Int → Int} {N M : Mem} {b : Int} (h : Rbk c N M b) : N (128 * b + 1) 1 = M 10 b := h.2.2.2.2.2.2.1
theorem Rbk.vne {c : Int → Int} {S : Sh} {V M : Mem} {b : Int} (h : Rbk c (Wv c S V) M b) : V (c (128 * b + 1)) 1 = M 10 b := by
  have q := h.ne
  exact q
theorem Rbk.ne0 {c : Int → Int} {N M : Mem} {b : Int} (h : Rbk c N M b) : 1 ≤ M 10 b := h.2.2.2.2.2.2.2.1
theorem Rbk.ne1 {c : Int → Int} {N M : Mem} {b : Int} (h : Rbk c N M b) : M 10 b ≤ 12 := h.2.2.2.2.2.2.2.2.1
theorem Rbk.na {c : Int → Int} {N M : Mem} {b : Int} (h : Rbk c N M b) : N (128 * b + 1) 2 = M 11 b := h.2.2.2.2.2.2.2.2.2.1
theorem Rbk.vna {c : Int → Int} {S : Sh} {V M : Mem} {b : Int} (h : Rbk c (Wv c S V) M b) : V (c (128 * b + 1)) 2 = M 11 b := by
  have q := h.na
  exact q
theorem Rbk.na0 {c : Int → Int} {N M : Mem} {b : Int} (h : Rbk c N M b) : 0 ≤ M 11 b := h.2.2.2.2.2.2.2.2.2.2.1
theorem Rbk.na1 {c : Int → Int} {N M : Mem} {b : Int} (h : Rbk c N M b) : M 11 b ≤ 4 := h.2.2.2.2.2.2.2.2.2.2.2.1
theorem Rbk.r3 {c : Int → Int} {N M : Mem} {b : Int} (h : Rbk c N M b) : N (128 * b + 1) 3 = c (128 * b + 20) := h.2.2.2.2.2.2.2.2.2.2.2.2.1
theorem Rbk.vr3 {c : Int → Int} {S : Sh} {V M : Mem} {b : Int} (h : Rbk c (Wv c S V) M b) : V (c (128 * b + 1)) 3 = c (128 * b + 20) := by
  have q := h.r3
  exact q
theorem Rbk.g20 {c : Int → Int} {N M : Mem} {b : Int} (h : Rbk c N M b) : N (128 * b + 20) (-1) = 2 := h.2.2.2.2.2.2.2.2.2.2.2.2.2.1
theorem Rbk.vg20 {c : Int → Int} {S : Sh} {V M : Mem} {b : Int} (h : Rbk c (Wv c S V) M b) : S.1 (c (128 * b + 20)) = 2 := by
  have q := h.g20
  exact q
theorem Rbk.r20 {c : Int → Int} {N M : Mem} {b : Int} (h : Rbk c N M b) : N (128 * b + 20) 0 = c (128 * b + 21) := h.2.2.2.2.2.2.2.2.2.2.2.2.2.2.1
theorem Rbk.vr20 {c : Int → Int} {S : Sh} {V M : Mem} {b : Int} (h : Rbk c (Wv c S V) M b) : V (c (128 * b + 20)) 0 = c (128 * b + 21) := by
  have q := h.r20
  exact q
theorem Rbk.r21 {c : Int → Int} {N M : Mem} {b : Int} (h : Rbk c N M b) : N (128 * b + 20) 1 = c (128 * b + 22) := h.2.2.2.2.2.2.2.2.2.2.2.2.2.2.2.1
theorem Rbk.vr21 {c : Int → Int} {S : Sh} {V M : Mem} {b : Int} (h : Rbk c (Wv c S V) M b) : V (c (128 * b + 20)) 1 = c (128 * b + 22) := by
  have q := h.r21
  exact q
theorem Rbk.g21 {c : Int → Int} {N M : Mem} {b : Int} (h : Rbk c N M b) : N (128 * b + 21) (-1) = 20 := h.2.2.2.2.2.2.2.2.2.2.2.2.2.2.2.2.1
theorem Rbk.vg21 {c : Int → Int} {S : Sh} {V M : Mem} {b : Int} (h : Rbk c (Wv c S V) M b) : S.1 (c (128 * b + 21)) = 20 := by
  have q := h.g21
  exact q
theorem Rbk.n21 {c : Int → Int} {N M : Mem} {b : Int} (h : Rbk c N M b) : N (128 * b + 21) (-2) = N (128 * b + 20) 2 := h.2.2.2.2.2.2.2.2.2.2.2.2.2.2.2.2.2.1
theorem Rbk.vn21 {c : Int → Int} {S : Sh} {V M : Mem} {b : Int} (h : Rbk c (Wv c S V) M b) : S.2.1 (c (128 * b + 21)) = V (c (128 * b + 20)) 2 := by
  have q := h.n21
  exact q
theorem Rbk.g22 {c : Int → Int} {N M : Mem} {b : Int} (h : Rbk c N M b) : N (128 * b + 22) (-1) = 20 := h.2.2.2.2.2.2.2.2.2.2.2.2.2.2.2.2.2.2.1
theorem Rbk.vg22 {c : Int → Int} {S : Sh} {V M : Mem} {b : Int} (h : Rbk c (Wv c S V) M b) : S.1 (c (128 * b + 22)) = 20 := by
  have q := h.g22
  exact q
theorem Rbk.n22 {c : Int → Int} {N M : Mem} {b : Int} (h : Rbk c N M b) : N (128 * b + 22) (-2) = N (128 * b + 20) 2 := h.2.2.2.2.2.2.2.2.2.2.2.2.2.2.2.2.2.2.2.1
theorem Rbk.vn22 {c : Int → Int} {S : Sh} {V M : Mem} {b : Int} (h : Rbk c (Wv c S V) M b) : S.2.1 (c (128 * b + 22)) = V (c (128 * b + 20)) 2 := by
  have q := h.n22
  exact q
theorem Rbk.cl0 {c : Int → Int} {N M : Mem} {b : Int} (h : Rbk c N M b) : 0 ≤ N (128 * b + 20) 2 := h.2.2.2.2.2.2.2.2.2.2.2.2.2.2.2.2.2.2.2.2.1
theorem Rbk.vcl0 {c : Int → Int} {S : Sh} {V M : Mem} {b : Int} (h : Rbk c (Wv c S V) M b) : 0 ≤ V (c (128 * b + 20)) 2 := by
  have q := h.cl0
  exact q
theorem Rbk.cl1 {c : Int → Int} {N M : Mem} {b : Int} (h : Rbk c N M b) : N (128 * b + 20) 2 ≤ 3000 := h.2.2.2.2.2.2.2.2.2.2.2.2.2.2.2.2.2.2.2.2.2.1
theorem Rbk.vcl1 {c : Int → Int} {S : Sh} {V M : Mem} {b : Int} (h : Rbk c (Wv c S V) M b) : V (c (128 * b + 20)) 2 ≤ 3000 := by
  have q := h.cl1
  exact q
theorem Rbk.r4 {c : Int → Int} {N M : Mem} {b : Int} (h : Rbk c N M b) : N (128 * b + 1) 4 = c (128 * b + 23) := h.2.2.2.2.2.2.2.2.2.2.2.2.2.2.2.2.2.2.2.2.2.2.1
theorem Rbk.vr4 {c : Int → Int} {S : Sh} {V M : Mem} {b : Int} (h : Rbk c (Wv c S V) M b) : V (c (128 * b + 1)) 4 = c (128 * b + 23) := by
  have q := h.r4
  exact q
theorem Rbk.g23 {c : Int → Int} {N M : Mem} {b : Int} (h : Rbk c N M b) : N (128 * b + 23) (-1) = 20 := h.2.2.2.2.2.2.2.2.2.2.2.2.2.2.2.2.2.2.2.2.2.2.2.1
theorem Rbk.vg23 {c : Int → Int} {S : Sh} {V M : Mem} {b : Int} (h : Rbk c (Wv c S V) M b) : S.1 (c (128 * b + 23)) = 20 := by
  have q := h.g23
  exact q
theorem Rbk.n23 {c : Int → Int} {N M : Mem} {b : Int} (h : Rbk c N M b) : N (128 * b + 23) (-2) = 148 := h.2.2.2.2.2.2.2.2.2.2.2.2.2.2.2.2.2.2.2.2.2.2.2.2.1
theorem Rbk.vn23 {c : Int → Int} {S : Sh} {V M : Mem} {b : Int} (h : Rbk c (Wv c S V) M b) : S.2.1 (c (128 * b + 23)) = 148 := by
  have q := h.n23
  exact q
theorem Rbk.r5 {c : Int → Int} {N M : Mem} {b : Int} (h : Rbk c N M b) : N (128 * b + 1) 5 = c (128 * b + 24) := h.2.2.2.2.2.2.2.2.2.2.2.2.2.2.2.2.2.2.2.2.2.2.2.2.2.1
theorem Rbk.vr5 {c : Int → Int} {S : Sh} {V M : Mem} {b : Int} (h : Rbk c (Wv c S V) M b) : V (c (128 * b + 1)) 5 = c (128 * b + 24) := by
  have q := h.r5
  exact q
theorem Rbk.g24 {c : Int → Int} {N M : Mem} {b : Int} (h : Rbk c N M b) : N (128 * b + 24) (-1) = 20 := h.2.2.2.2.2.2.2.2.2.2.2.2.2.2.2.2.2.2.2.2.2.2.2.2.2.2.1
theorem Rbk.vg24 {c : Int → Int} {S : Sh} {V M : Mem} {b : Int} (h : Rbk c (Wv c S V) M b) : S.1 (c (128 * b + 24)) = 20 := by
  have q := h.g24
  exact q
theorem Rbk.n24 {c : Int → Int} {N M : Mem} {b : Int} (h : Rbk c N M b) : N (128 * b + 24) (-2) = 60 := h.2.2.2.2.2.2.2.2.2.2.2.2.2.2.2.2.2.2.2.2.2.2.2.2.2.2.2.1
theorem Rbk.vn24 {c : Int → Int} {S : Sh} {V M : Mem} {b : Int} (h : Rbk c (Wv c S V) M b) : S.2.1 (c (128 * b + 24)) = 60 := by
  have q := h.n24
  exact q
theorem Rbk.r7 {c : Int → Int} {N M : Mem} {b : Int} (h : Rbk c N M b) : N (128 * b + 1) 7 = c (128 * b + 25) := h.2.2.2.2.2.2.2.2.2.2.2.2.2.2.2.2.2.2.2.2.2.2.2.2.2.2.2.2.1
theorem Rbk.vr7 {c : Int → Int} {S : Sh} {V M : Mem} {b : Int} (h : Rbk c (Wv c S V) M b) : V (c (128 * b + 1)) 7 = c (128 * b + 25) := by
  have q := h.r7
  exact q
theorem Rbk.g25 {c : Int → Int} {N M : Mem} {b : Int} (h : Rbk c N M b) : N (128 * b + 25) (-1) = 20 := h.2.2.2.2.2.2.2.2.2.2.2.2.2.2.2.2.2.2.2.2.2.2.2.2.2.2.2.2.2.1
theorem Rbk.vg25 {c : Int → Int} {S : Sh} {V M : Mem} {b : Int} (h : Rbk c (Wv c S V) M b) : S.1 (c (128 * b + 25)) = 20 := by
  have q := h.g25
  exact q
theorem Rbk.n25 {c : Int → Int} {N M : Mem} {b : Int} (h : Rbk c N M b) : N (128 * b + 25) (-2) = N (128 * b + 20) 2 := h.2.2.2.2.2.2.2.2.2.2.2.2.2.2.2.2.2.2.2.2.2.2.2.2.2.2.2.2.2.2.1
theorem Rbk.vn25 {c : Int → Int} {S : Sh} {V M : Mem} {b : Int} (h : Rbk c (Wv c S V) M b) : S.2.1 (c (128 * b + 25)) = V (c (128 * b + 20)) 2 := by
  have q := h.n25
  exact q
theorem Rbk.r8 {c : Int → Int} {N M : Mem} {b : Int} (h : Rbk c N M b) : N (128 * b + 1) 8 = c (128 * b + 26) := h.2.2.2.2.2.2.2.2.2.2.2.2.2.2.2.2.2.2.2.2.2.2.2.2.2.2.2.2.2.2.2.1
theorem Rbk.vr8 {c : Int → Int} {S : Sh} {V M : Mem} {b : Int} (h : Rbk c (Wv c S V) M b) : V (c (128 * b + 1)) 8 = c (128 * b + 26) := by
  have q := h.r8
  exact q
theorem Rbk.g26 {c : Int → Int} {N M : Mem} {b : Int} (h : Rbk c N M b) : N (128 * b + 26) (-1) = 20 := h.2.2.2.2.2.2.2.2.2.2.2.2.2.2.2.2.2.2.2.2.2.2.2.2.2.2.2.2.2.2.2.2.1
theorem Rbk.vg26 {c : Int → Int} {S : Sh} {V M : Mem} {b : Int} (h : Rbk c (Wv c S V) M b) : S.1 (c (128 * b + 26)) = 20 := by
  have q := h.g26
  exact q
theorem Rbk.n26 {c : Int → Int} {N M : Mem} {b : Int} (h : Rbk c N M b) : N (128 * b + 26) (-2) = N (128 * b + 20) 2 := h.2.2.2.2.2.2.2.2.2.2.2.2.2.2.2.2.2.2.2.2.2.2.2.2.2.2.2.2.2.2.2.2.2.1
theorem Rbk.vn26 {c : Int → Int} {S : Sh} {V M : Mem} {b : Int} (h : Rbk c (Wv c S V) M b) : S.2.1 (c (128 * b + 26)) = V (c (128 * b + 20)) 2 := by
  have q := h.n26
  exact q
theorem Rbk.st {c : Int → Int} {N M : Mem} {b : Int} (h : Rbk c N M b) : ∀ i, 0 ≤ i → i < 148 → N (128 * b + 23) i = M 52 (160 * b + i) := h.2.2.2.2.2.2.2.2.2.2.2.2.2.2.2.2.2.2.2.2.2.2.2.2.2.2.2.2.2.2.2.2.2.2.1
theorem Rbk.vst {c : Int → Int} {S : Sh} {V M : Mem} {b : Int} (h : Rbk c (Wv c S V) M b) : ∀ i, 0 ≤ i → i < 148 → V (c (128 * b + 23)) i = M 52 (160 * b + i) := by
  have q := h.st
  simp (config := { contextual := true }) (disch := omega) only [Wv_el] at q
  exact q
theorem Rbk.nt {c : Int → Int} {N M : Mem} {b : Int} (h : Rbk c N M b) : N (128 * b + 1) 6 = M 59 b := h.2.2.2.2.2.2.2.2.2.2.2.2.2.2.2.2.2.2.2.2.2.2.2.2.2.2.2.2.2.2.2.2.2.2.2.1
theorem Rbk.vnt {c : Int → Int} {S : Sh} {V M : Mem} {b : Int} (h : Rbk c (Wv c S V) M b) : V (c (128 * b + 1)) 6 = M 59 b := by
  have q := h.nt
  exact q
theorem Rbk.nt0 {c : Int → Int} {N M : Mem} {b : Int} (h : Rbk c N M b) : 0 ≤ M 59 b := h.2.2.2.2.2.2.2.2.2.2.2.2.2.2.2.2.2.2.2.2.2.2.2.2.2.2.2.2.2.2.2.2.2.2.2.2.1
theorem Rbk.nt1 {c : Int → Int} {N M : Mem} {b : Int} (h : Rbk c N M b) : M 59 b ≤ 60 := h.2.2.2.2.2.2.2.2.2.2.2.2.2.2.2.2.2.2.2.2.2.2.2.2.2.2.2.2.2.2.2.2.2.2.2.2.2.1
theorem Rbk.ts {c : Int → Int} {N M : Mem} {b : Int} (h : Rbk c N M b) : ∀ i, 0 ≤ i → i < M 59 b → N (128 * b + 24) i = M 58 (160 * b + i) := h.2.2.2.2.2.2.2.2.2.2.2.2.2.2.2.2.2.2.2.2.2.2.2.2.2.2.2.2.2.2.2.2.2.2.2.2.2.2.1
theorem Rbk.vts {c : Int → Int} {S : Sh} {V M : Mem} {b : Int} (h : Rbk c (Wv c S V) M b) : ∀ i, 0 ≤ i → i < M 59 b → V (c (128 * b + 24)) i = M 58 (160 * b + i) := by
  have q := h.ts
  simp (config := { contextual := true }) (disch := omega) only [Wv_el] at q
  exact q
theorem Rbk.nz {c : Int → Int} {N M : Mem} {b : Int} (h : Rbk c N M b) : N (128 * b + 1) 9 = M 62 b := h.2.2.2.2.2.2.2.2.2.2.2.2.2.2.2.2.2.2.2.2.2.2.2.2.2.2.2.2.2.2.2.2.2.2.2.2.2.2.2.1
theorem Rbk.vnz {c : Int → Int} {S : Sh} {V M : Mem} {b : Int} (h : Rbk c (Wv c S V) M b) : V (c (128 * b + 1)) 9 = M 62 b := by
  have q := h.nz
  exact q
theorem Rbk.nz0 {c : Int → Int} {N M : Mem} {b : Int} (h : Rbk c N M b) : 0 ≤ M 62 b := h.2.2.2.2.2.2.2.2.2.2.2.2.2.2.2.2.2.2.2.2.2.2.2.2.2.2.2.2.2.2.2.2.2.2.2.2.2.2.2.2.1
theorem Rbk.nz1 {c : Int → Int} {N M : Mem} {b : Int} (h : Rbk c N M b) : M 62 b ≤ N (128 * b + 20) 2 := h.2.2.2.2.2.2.2.2.2.2.2.2.2.2.2.2.2.2.2.2.2.2.2.2.2.2.2.2.2.2.2.2.2.2.2.2.2.2.2.2.2.1
theorem Rbk.vnz1 {c : Int → Int} {S : Sh} {V M : Mem} {b : Int} (h : Rbk c (Wv c S V) M b) : M 62 b ≤ V (c (128 * b + 20)) 2 := by
  have q := h.nz1
  exact q
theorem Rbk.zb {c : Int → Int} {N M : Mem} {b : Int} (h : Rbk c N M b) : ∀ i, 0 ≤ i → i < M 62 b → N (128 * b + 25) i = M 60 (3100 * b + i) := h.2.2.2.2.2.2.2.2.2.2.2.2.2.2.2.2.2.2.2.2.2.2.2.2.2.2.2.2.2.2.2.2.2.2.2.2.2.2.2.2.2.2.1
theorem Rbk.vzb {c : Int → Int} {S : Sh} {V M : Mem} {b : Int} (h : Rbk c (Wv c S V) M b) : ∀ i, 0 ≤ i → i < M 62 b → V (c (128 * b + 25)) i = M 60 (3100 * b + i) := by
  have q := h.zb
  simp (config := { contextual := true }) (disch := omega) only [Wv_el] at q
  exact q
theorem Rbk.zo {c : Int → Int} {N M : Mem} {b : Int} (h : Rbk c N M b) : ∀ i, 0 ≤ i → i < M 62 b → N (128 * b + 26) i = M 61 (3100 * b + i) := h.2.2.2.2.2.2.2.2.2.2.2.2.2.2.2.2.2.2.2.2.2.2.2.2.2.2.2.2.2.2.2.2.2.2.2.2.2.2.2.2.2.2.2.1
theorem Rbk.vzo {c : Int → Int} {S : Sh} {V M : Mem} {b : Int} (h : Rbk c (Wv c S V) M b) : ∀ i, 0 ≤ i → i < M 62 b → V (c (128 * b + 26)) i = M 61 (3100 * b + i) := by
  have q := h.zo
  simp (config := { contextual := true }) (disch := omega) only [Wv_el] at q
  exact q
theorem Rbk.re {c : Int → Int} {N M : Mem} {b : Int} (h : Rbk c N M b) : ∀ e, 0 ≤ e → e < M 10 b → N (128 * b + 2) e = c (128 * (12 * b + e) + 3) := h.2.2.2.2.2.2.2.2.2.2.2.2.2.2.2.2.2.2.2.2.2.2.2.2.2.2.2.2.2.2.2.2.2.2.2.2.2.2.2.2.2.2.2.2
theorem Rbk.vre {c : Int → Int} {S : Sh} {V M : Mem} {b : Int} (h : Rbk c (Wv c S V) M b) : ∀ e, 0 ≤ e → e < M 10 b → V (c (128 * b + 2)) e = c (128 * (12 * b + e) + 3) := by
  have q := h.re
  simp (config := { contextual := true }) (disch := omega) only [Wv_el] at q
  exact q
def alp (s : Int) : Int := if s ≤ 26 then s + 96 else if s ≤ 52 then s + 38 else s - 5
def pkd (f : Int → Int) : Nat → Int → Int
  | 0, _ => 0
  | n + 1, p => 64 * pkd f n p + f (p + n)
def rnk (s : Int) : Int := if 97 ≤ s ∧ s ≤ 122 then s - 96 else if 65 ≤ s ∧ s ≤ 90 then s - 38 else if 48 ≤ s ∧ s ≤ 57 then s + 5 else 0
def NR (M : Mem) (v n : Int) : Prop := 0 ≤ n ∧ 1 ≤ n % 16 ∧ n % 16 ≤ 10 ∧ n / 16 + n % 16 ≤ 30000 ∧ (∀ k, 0 ≤ k → k < n % 16 → 1 ≤ rnk (M 7 (n / 16 + k))) ∧ v = pkd (fun p => rnk (M 7 p)) (n % 16).toNat (n / 16)
def Ren (c : Int → Int) (N M : Mem) (g : Int) : Prop := (N (128 * g + 3) (-1) = 4) ∧ (N (128 * g + 3) 3 = c (128 * g + 4)) ∧ (N (128 * g + 4) (-1) = 32) ∧ (N (128 * g + 4) (-2) = 24) ∧ (N (128 * g + 3) 6 = c (128 * g + 7)) ∧ (N (128 * g + 7) (-1) = 20) ∧ (N (128 * g + 7) (-2) = 4) ∧ (N (128 * g + 3) 7 = c (128 * g + 8)) ∧ (N (128 * g + 8) (-1) = 38) ∧ (N (128 * g + 8) (-2) = 4) ∧ (N (128 * g + 3) 9 = c (128 * g + 12)) ∧ (N (128 * g + 12) (-1) = 20) ∧ (N (128 * g + 12) (-2) = 3) ∧ (N (128 * g + 3) 11 = c (128 * g + 13)) ∧ (N (128 * g + 13) (-1) = 22) ∧ (N (128 * g + 13) (-2) = 4) ∧ (N (128 * g + 3) 12 = c (128 * g + 14)) ∧ (N (128 * g + 14) (-1) = 20) ∧ (N (128 * g + 14) (-2) = 4) ∧ (N (128 * g + 3) 13 = c (128 * g + 15)) ∧ (N (128 * g + 15) (-1) = 20) ∧ (N (128 * g + 15) (-2) = 4) ∧ (N (128 * g + 3) 15 = c (128 * g + 16)) ∧ (N (128 * g + 16) (-1) = 37) ∧ (N (128 * g + 16) (-2) = 3) ∧ (NR M (N (128 * g + 3) 0) (M 13 g)) ∧ (N (128 * g + 3) 4 = M 14 g) ∧ (1 ≤ M 14 g) ∧ (M 14 g ≤ 24) ∧ (N (128 * g + 3) 8 = M 15 g) ∧ (0 ≤ M 15 g) ∧ (M 15 g ≤ 4) ∧ (N (128 * g + 3) 10 = M 16 g) ∧ (0 ≤ M 16 g) ∧ (M 16 g ≤ 3) ∧ (N (128 * g + 3) 14 = M 17 g) ∧ (0 ≤ M 17 g) ∧ (M 17 g ≤ 4) ∧ (N (128 * g + 3) 16 = M 18 g) ∧ (0 ≤ M 18 g) ∧ (M 18 g ≤ 3) ∧ (∀ a, 0 ≤ a → a < 4 → (N (128 * g + 7) a = -1 ↔ M 19 (4 * g + a) = -1)) ∧ (N (128 * g + 3) 5 = M 53 g) ∧ (0 ≤ M 53 g) ∧ (M 53 g ≤ M 14 g) ∧ (∀ i, 0 ≤ i → i < M 14 g → N (128 * g + 4) i = c (128 * (24 * g + i) + 5)) ∧ (∀ t, 0 ≤ t → t < M 15 g → N (128 * g + 8) t = c (128 * (4 * g + t) + 9)) ∧ (∀ s, 0 ≤ s → s < M 18 g → N (128 * g + 16) s = c (128 * (3 * g + s) + 17))
theorem Ren.g3 {c : Int → Int} {N M : Mem} {g : Int} (h : Ren c N M g) : N (128 * g + 3) (-1) = 4 := h.1
theorem Ren.vg3 {c : Int → Int} {S : Sh} {V M : Mem} {g : Int} (h : Ren c (Wv c S V) M g) : S.1 (c (128 * g + 3)) = 4 := by
  have q := h.g3
  exact q
theorem Ren.r3 {c : Int → Int} {N M : Mem} {g : Int} (h : Ren c N M g) : N (128 * g + 3) 3 = c (128 * g + 4) := h.2.1
theorem Ren.vr3 {c : Int → Int} {S : Sh} {V M : Mem} {g : Int} (h : Ren c (Wv c S V) M g) : V (c (128 * g + 3)) 3 = c (128 * g + 4) := by
  have q := h.r3
  exact q
theorem Ren.g4 {c : Int → Int} {N M : Mem} {g : Int} (h : Ren c N M g) : N (128 * g + 4) (-1) = 32 := h.2.2.1
theorem Ren.vg4 {c : Int → Int} {S : Sh} {V M : Mem} {g : Int} (h : Ren c (Wv c S V) M g) : S.1 (c (128 * g + 4)) = 32 := by
  have q := h.g4
  exact q
theorem Ren.n4 {c : Int → Int} {N M : Mem} {g : Int} (h : Ren c N M g) : N (128 * g + 4) (-2) = 24 := h.2.2.2.1
theorem Ren.vn4 {c : Int → Int} {S : Sh} {V M : Mem} {g : Int} (h : Ren c (Wv c S V) M g) : S.2.1 (c (128 * g + 4)) = 24 := by
  have q := h.n4
  exact q
theorem Ren.r6 {c : Int → Int} {N M : Mem} {g : Int} (h : Ren c N M g) : N (128 * g + 3) 6 = c (128 * g + 7) := h.2.2.2.2.1
theorem Ren.vr6 {c : Int → Int} {S : Sh} {V M : Mem} {g : Int} (h : Ren c (Wv c S V) M g) : V (c (128 * g + 3)) 6 = c (128 * g + 7) := by
  have q := h.r6
  exact q
theorem Ren.g7 {c : Int → Int} {N M : Mem} {g : Int} (h : Ren c N M g) : N (128 * g + 7) (-1) = 20 := h.2.2.2.2.2.1
theorem Ren.vg7 {c : Int → Int} {S : Sh} {V M : Mem} {g : Int} (h : Ren c (Wv c S V) M g) : S.1 (c (128 * g + 7)) = 20 := by
  have q := h.g7
  exact q
theorem Ren.n7 {c : Int → Int} {N M : Mem} {g : Int} (h : Ren c N M g) : N (128 * g + 7) (-2) = 4 := h.2.2.2.2.2.2.1
theorem Ren.vn7 {c : Int → Int} {S : Sh} {V M : Mem} {g : Int} (h : Ren c (Wv c S V) M g) : S.2.1 (c (128 * g + 7)) = 4 := by
  have q := h.n7
  exact q
theorem Ren.r7 {c : Int → Int} {N M : Mem} {g : Int} (h : Ren c N M g) : N (128 * g + 3) 7 = c (128 * g + 8) := h.2.2.2.2.2.2.2.1
theorem Ren.vr7 {c : Int → Int} {S : Sh} {V M : Mem} {g : Int} (h : Ren c (Wv c S V) M g) : V (c (128 * g + 3)) 7 = c (128 * g + 8) := by
  have q := h.r7
  exact q
theorem Ren.g8 {c : Int → Int} {N M : Mem} {g : Int} (h : Ren c N M g) : N (128 * g + 8) (-1) = 38 := h.2.2.2.2.2.2.2.2.1
theorem Ren.vg8 {c : Int → Int} {S : Sh} {V M : Mem} {g : Int} (h : Ren c (Wv c S V) M g) : S.1 (c (128 * g + 8)) = 38 := by
  have q := h.g8
  exact q
theorem Ren.n8 {c : Int → Int} {N M : Mem} {g : Int} (h : Ren c N M g) : N (128 * g + 8) (-2) = 4 := h.2.2.2.2.2.2.2.2.2.1
theorem Ren.vn8 {c : Int → Int} {S : Sh} {V M : Mem} {g : Int} (h : Ren c (Wv c S V) M g) : S.2.1 (c (128 * g + 8)) = 4 := by
  have q := h.n8
  exact q
theorem Ren.r9 {c : Int → Int} {N M : Mem} {g : Int} (h : Ren c N M g) : N (128 * g + 3) 9 = c (128 * g + 12) := h.2.2.2.2.2.2.2.2.2.2.1
theorem Ren.vr9 {c : Int → Int} {S : Sh} {V M : Mem} {g : Int} (h : Ren c (Wv c S V) M g) : V (c (128 * g + 3)) 9 = c (128 * g + 12) := by
  have q := h.r9
  exact q
theorem Ren.g12 {c : Int → Int} {N M : Mem} {g : Int} (h : Ren c N M g) : N (128 * g + 12) (-1) = 20 := h.2.2.2.2.2.2.2.2.2.2.2.1
theorem Ren.vg12 {c : Int → Int} {S : Sh} {V M : Mem} {g : Int} (h : Ren c (Wv c S V) M g) : S.1 (c (128 * g + 12)) = 20 := by
  have q := h.g12
  exact q
theorem Ren.n12 {c : Int → Int} {N M : Mem} {g : Int} (h : Ren c N M g) : N (128 * g + 12) (-2) = 3 := h.2.2.2.2.2.2.2.2.2.2.2.2.1
theorem Ren.vn12 {c : Int → Int} {S : Sh} {V M : Mem} {g : Int} (h : Ren c (Wv c S V) M g) : S.2.1 (c (128 * g + 12)) = 3 := by
  have q := h.n12
  exact q
theorem Ren.r11 {c : Int → Int} {N M : Mem} {g : Int} (h : Ren c N M g) : N (128 * g + 3) 11 = c (128 * g + 13) := h.2.2.2.2.2.2.2.2.2.2.2.2.2.1
theorem Ren.vr11 {c : Int → Int} {S : Sh} {V M : Mem} {g : Int} (h : Ren c (Wv c S V) M g) : V (c (128 * g + 3)) 11 = c (128 * g + 13) := by
  have q := h.r11
  exact q
theorem Ren.g13 {c : Int → Int} {N M : Mem} {g : Int} (h : Ren c N M g) : N (128 * g + 13) (-1) = 22 := h.2.2.2.2.2.2.2.2.2.2.2.2.2.2.1
theorem Ren.vg13 {c : Int → Int} {S : Sh} {V M : Mem} {g : Int} (h : Ren c (Wv c S V) M g) : S.1 (c (128 * g + 13)) = 22 := by
  have q := h.g13
  exact q
theorem Ren.n13 {c : Int → Int} {N M : Mem} {g : Int} (h : Ren c N M g) : N (128 * g + 13) (-2) = 4 := h.2.2.2.2.2.2.2.2.2.2.2.2.2.2.2.1
theorem Ren.vn13 {c : Int → Int} {S : Sh} {V M : Mem} {g : Int} (h : Ren c (Wv c S V) M g) : S.2.1 (c (128 * g + 13)) = 4 := by
  have q := h.n13
  exact q
theorem Ren.r12 {c : Int → Int} {N M : Mem} {g : Int} (h : Ren c N M g) : N (128 * g + 3) 12 = c (128 * g + 14) := h.2.2.2.2.2.2.2.2.2.2.2.2.2.2.2.2.1
theorem Ren.vr12 {c : Int → Int} {S : Sh} {V M : Mem} {g : Int} (h : Ren c (Wv c S V) M g) : V (c (128 * g + 3)) 12 = c (128 * g + 14) := by
  have q := h.r12
  exact q
theorem Ren.g14 {c : Int → Int} {N M : Mem} {g : Int} (h : Ren c N M g) : N (128 * g + 14) (-1) = 20 := h.2.2.2.2.2.2.2.2.2.2.2.2.2.2.2.2.2.1
theorem Ren.vg14 {c : Int → Int} {S : Sh} {V M : Mem} {g : Int} (h : Ren c (Wv c S V) M g) : S.1 (c (128 * g + 14)) = 20 := by
  have q := h.g14
  exact q
theorem Ren.n14 {c : Int → Int} {N M : Mem} {g : Int} (h : Ren c N M g) : N (128 * g + 14) (-2) = 4 := h.2.2.2.2.2.2.2.2.2.2.2.2.2.2.2.2.2.2.1
theorem Ren.vn14 {c : Int → Int} {S : Sh} {V M : Mem} {g : Int} (h : Ren c (Wv c S V) M g) : S.2.1 (c (128 * g + 14)) = 4 := by
  have q := h.n14
  exact q
theorem Ren.r13 {c : Int → Int} {N M : Mem} {g : Int} (h : Ren c N M g) : N (128 * g + 3) 13 = c (128 * g + 15) := h.2.2.2.2.2.2.2.2.2.2.2.2.2.2.2.2.2.2.2.1
theorem Ren.vr13 {c : Int → Int} {S : Sh} {V M : Mem} {g : Int} (h : Ren c (Wv c S V) M g) : V (c (128 * g + 3)) 13 = c (128 * g + 15) := by
  have q := h.r13
  exact q
theorem Ren.g15 {c : Int → Int} {N M : Mem} {g : Int} (h : Ren c N M g) : N (128 * g + 15) (-1) = 20 := h.2.2.2.2.2.2.2.2.2.2.2.2.2.2.2.2.2.2.2.2.1
theorem Ren.vg15 {c : Int → Int} {S : Sh} {V M : Mem} {g : Int} (h : Ren c (Wv c S V) M g) : S.1 (c (128 * g + 15)) = 20 := by
  have q := h.g15
  exact q
theorem Ren.n15 {c : Int → Int} {N M : Mem} {g : Int} (h : Ren c N M g) : N (128 * g + 15) (-2) = 4 := h.2.2.2.2.2.2.2.2.2.2.2.2.2.2.2.2.2.2.2.2.2.1
theorem Ren.vn15 {c : Int → Int} {S : Sh} {V M : Mem} {g : Int} (h : Ren c (Wv c S V) M g) : S.2.1 (c (128 * g + 15)) = 4 := by
  have q := h.n15
  exact q
theorem Ren.r15 {c : Int → Int} {N M : Mem} {g : Int} (h : Ren c N M g) : N (128 * g + 3) 15 = c (128 * g + 16) := h.2.2.2.2.2.2.2.2.2.2.2.2.2.2.2.2.2.2.2.2.2.2.1
theorem Ren.vr15 {c : Int → Int} {S : Sh} {V M : Mem} {g : Int} (h : Ren c (Wv c S V) M g) : V (c (128 * g + 3)) 15 = c (128 * g + 16) := by
  have q := h.r15
  exact q
theorem Ren.g16 {c : Int → Int} {N M : Mem} {g : Int} (h : Ren c N M g) : N (128 * g + 16) (-1) = 37 := h.2.2.2.2.2.2.2.2.2.2.2.2.2.2.2.2.2.2.2.2.2.2.2.1
theorem Ren.vg16 {c : Int → Int} {S : Sh} {V M : Mem} {g : Int} (h : Ren c (Wv c S V) M g) : S.1 (c (128 * g + 16)) = 37 := by
  have q := h.g16
  exact q
theorem Ren.n16 {c : Int → Int} {N M : Mem} {g : Int} (h : Ren c N M g) : N (128 * g + 16) (-2) = 3 := h.2.2.2.2.2.2.2.2.2.2.2.2.2.2.2.2.2.2.2.2.2.2.2.2.1
theorem Ren.vn16 {c : Int → Int} {S : Sh} {V M : Mem} {g : Int} (h : Ren c (Wv c S V) M g) : S.2.1 (c (128 * g + 16)) = 3 := by
  have q := h.n16
  exact q
theorem Ren.nm {c : Int → Int} {N M : Mem} {g : Int} (h : Ren c N M g) : NR M (N (128 * g + 3) 0) (M 13 g) := h.2.2.2.2.2.2.2.2.2.2.2.2.2.2.2.2.2.2.2.2.2.2.2.2.2.1
theorem Ren.nc {c : Int → Int} {N M : Mem} {g : Int} (h : Ren c N M g) : N (128 * g + 3) 4 = M 14 g := h.2.2.2.2.2.2.2.2.2.2.2.2.2.2.2.2.2.2.2.2.2.2.2.2.2.2.1
theorem Ren.vnc {c : Int → Int} {S : Sh} {V M : Mem} {g : Int} (h : Ren c (Wv c S V) M g) : V (c (128 * g + 3)) 4 = M 14 g := by
  have q := h.nc
  exact q
theorem Ren.nc0 {c : Int → Int} {N M : Mem} {g : Int} (h : Ren c N M g) : 1 ≤ M 14 g := h.2.2.2.2.2.2.2.2.2.2.2.2.2.2.2.2.2.2.2.2.2.2.2.2.2.2.2.1
theorem Ren.nc1 {c : Int → Int} {N M : Mem} {g : Int} (h : Ren c N M g) : M 14 g ≤ 24 := h.2.2.2.2.2.2.2.2.2.2.2.2.2.2.2.2.2.2.2.2.2.2.2.2.2.2.2.2.1
theorem Ren.nt {c : Int → Int} {N M : Mem} {g : Int} (h : Ren c N M g) : N (128 * g + 3) 8 = M 15 g := h.2.2.2.2.2.2.2.2.2.2.2.2.2.2.2.2.2.2.2.2.2.2.2.2.2.2.2.2.2.1
theorem Ren.vnt {c : Int → Int} {S : Sh} {V M : Mem} {g : Int} (h : Ren c (Wv c S V) M g) : V (c (128 * g + 3)) 8 = M 15 g := by
  have q := h.nt
  exact q
theorem Ren.nt0 {c : Int → Int} {N M : Mem} {g : Int} (h : Ren c N M g) : 0 ≤ M 15 g := h.2.2.2.2.2.2.2.2.2.2.2.2.2.2.2.2.2.2.2.2.2.2.2.2.2.2.2.2.2.2.1
theorem Ren.nt1 {c : Int → Int} {N M : Mem} {g : Int} (h : Ren c N M g) : M 15 g ≤ 4 := h.2.2.2.2.2.2.2.2.2.2.2.2.2.2.2.2.2.2.2.2.2.2.2.2.2.2.2.2.2.2.2.1
theorem Ren.nk {c : Int → Int} {N M : Mem} {g : Int} (h : Ren c N M g) : N (128 * g + 3) 10 = M 16 g := h.2.2.2.2.2.2.2.2.2.2.2.2.2.2.2.2.2.2.2.2.2.2.2.2.2.2.2.2.2.2.2.2.1
theorem Ren.vnk {c : Int → Int} {S : Sh} {V M : Mem} {g : Int} (h : Ren c (Wv c S V) M g) : V (c (128 * g + 3)) 10 = M 16 g := by
  have q := h.nk
  exact q
theorem Ren.nk0 {c : Int → Int} {N M : Mem} {g : Int} (h : Ren c N M g) : 0 ≤ M 16 g := h.2.2.2.2.2.2.2.2.2.2.2.2.2.2.2.2.2.2.2.2.2.2.2.2.2.2.2.2.2.2.2.2.2.1
theorem Ren.nk1 {c : Int → Int} {N M : Mem} {g : Int} (h : Ren c N M g) : M 16 g ≤ 3 := h.2.2.2.2.2.2.2.2.2.2.2.2.2.2.2.2.2.2.2.2.2.2.2.2.2.2.2.2.2.2.2.2.2.2.1
theorem Ren.nh {c : Int → Int} {N M : Mem} {g : Int} (h : Ren c N M g) : N (128 * g + 3) 14 = M 17 g := h.2.2.2.2.2.2.2.2.2.2.2.2.2.2.2.2.2.2.2.2.2.2.2.2.2.2.2.2.2.2.2.2.2.2.2.1
theorem Ren.vnh {c : Int → Int} {S : Sh} {V M : Mem} {g : Int} (h : Ren c (Wv c S V) M g) : V (c (128 * g + 3)) 14 = M 17 g := by
  have q := h.nh
  exact q
theorem Ren.nh0 {c : Int → Int} {N M : Mem} {g : Int} (h : Ren c N M g) : 0 ≤ M 17 g := h.2.2.2.2.2.2.2.2.2.2.2.2.2.2.2.2.2.2.2.2.2.2.2.2.2.2.2.2.2.2.2.2.2.2.2.2.1
theorem Ren.nh1 {c : Int → Int} {N M : Mem} {g : Int} (h : Ren c N M g) : M 17 g ≤ 4 := h.2.2.2.2.2.2.2.2.2.2.2.2.2.2.2.2.2.2.2.2.2.2.2.2.2.2.2.2.2.2.2.2.2.2.2.2.2.1
theorem Ren.nw {c : Int → Int} {N M : Mem} {g : Int} (h : Ren c N M g) : N (128 * g + 3) 16 = M 18 g := h.2.2.2.2.2.2.2.2.2.2.2.2.2.2.2.2.2.2.2.2.2.2.2.2.2.2.2.2.2.2.2.2.2.2.2.2.2.2.1
theorem Ren.vnw {c : Int → Int} {S : Sh} {V M : Mem} {g : Int} (h : Ren c (Wv c S V) M g) : V (c (128 * g + 3)) 16 = M 18 g := by
  have q := h.nw
  exact q
theorem Ren.nw0 {c : Int → Int} {N M : Mem} {g : Int} (h : Ren c N M g) : 0 ≤ M 18 g := h.2.2.2.2.2.2.2.2.2.2.2.2.2.2.2.2.2.2.2.2.2.2.2.2.2.2.2.2.2.2.2.2.2.2.2.2.2.2.2.1
theorem Ren.nw1 {c : Int → Int} {N M : Mem} {g : Int} (h : Ren c N M g) : M 18 g ≤ 3 := h.2.2.2.2.2.2.2.2.2.2.2.2.2.2.2.2.2.2.2.2.2.2.2.2.2.2.2.2.2.2.2.2.2.2.2.2.2.2.2.2.1
theorem Ren.bd {c : Int → Int} {N M : Mem} {g : Int} (h : Ren c N M g) : ∀ a, 0 ≤ a → a < 4 → (N (128 * g + 7) a = -1 ↔ M 19 (4 * g + a) = -1) := h.2.2.2.2.2.2.2.2.2.2.2.2.2.2.2.2.2.2.2.2.2.2.2.2.2.2.2.2.2.2.2.2.2.2.2.2.2.2.2.2.2.1
theorem Ren.vbd {c : Int → Int} {S : Sh} {V M : Mem} {g : Int} (h : Ren c (Wv c S V) M g) : ∀ a, 0 ≤ a → a < 4 → (V (c (128 * g + 7)) a = -1 ↔ M 19 (4 * g + a) = -1) := by
  have q := h.bd
  simp (config := { contextual := true }) (disch := omega) only [Wv_el] at q
  exact q
theorem Ren.md {c : Int → Int} {N M : Mem} {g : Int} (h : Ren c N M g) : N (128 * g + 3) 5 = M 53 g := h.2.2.2.2.2.2.2.2.2.2.2.2.2.2.2.2.2.2.2.2.2.2.2.2.2.2.2.2.2.2.2.2.2.2.2.2.2.2.2.2.2.2.1
theorem Ren.vmd {c : Int → Int} {S : Sh} {V M : Mem} {g : Int} (h : Ren c (Wv c S V) M g) : V (c (128 * g + 3)) 5 = M 53 g := by
  have q := h.md
  exact q
theorem Ren.md0 {c : Int → Int} {N M : Mem} {g : Int} (h : Ren c N M g) : 0 ≤ M 53 g := h.2.2.2.2.2.2.2.2.2.2.2.2.2.2.2.2.2.2.2.2.2.2.2.2.2.2.2.2.2.2.2.2.2.2.2.2.2.2.2.2.2.2.2.1
theorem Ren.md1 {c : Int → Int} {N M : Mem} {g : Int} (h : Ren c N M g) : M 53 g ≤ M 14 g := h.2.2.2.2.2.2.2.2.2.2.2.2.2.2.2.2.2.2.2.2.2.2.2.2.2.2.2.2.2.2.2.2.2.2.2.2.2.2.2.2.2.2.2.2.1
theorem Ren.rc {c : Int → Int} {N M : Mem} {g : Int} (h : Ren c N M g) : ∀ i, 0 ≤ i → i < M 14 g → N (128 * g + 4) i = c (128 * (24 * g + i) + 5) := h.2.2.2.2.2.2.2.2.2.2.2.2.2.2.2.2.2.2.2.2.2.2.2.2.2.2.2.2.2.2.2.2.2.2.2.2.2.2.2.2.2.2.2.2.2.1
theorem Ren.vrc {c : Int → Int} {S : Sh} {V M : Mem} {g : Int} (h : Ren c (Wv c S V) M g) : ∀ i, 0 ≤ i → i < M 14 g → V (c (128 * g + 4)) i = c (128 * (24 * g + i) + 5) := by
  have q := h.rc
  simp (config := { contextual := true }) (disch := omega) only [Wv_el] at q
  exact q
theorem Ren.rt {c : Int → Int} {N M : Mem} {g : Int} (h : Ren c N M g) : ∀ t, 0 ≤ t → t < M 15 g → N (128 * g + 8) t = c (128 * (4 * g + t) + 9) := h.2.2.2.2.2.2.2.2.2.2.2.2.2.2.2.2.2.2.2.2.2.2.2.2.2.2.2.2.2.2.2.2.2.2.2.2.2.2.2.2.2.2.2.2.2.2.1
theorem Ren.vrt {c : Int → Int} {S : Sh} {V M : Mem} {g : Int} (h : Ren c (Wv c S V) M g) : ∀ t, 0 ≤ t → t < M 15 g → V (c (128 * g + 8)) t = c (128 * (4 * g + t) + 9) := by
  have q := h.rt
  simp (config := { contextual := true }) (disch := omega) only [Wv_el] at q
  exact q
theorem Ren.rs {c : Int → Int} {N M : Mem} {g : Int} (h : Ren c N M g) : ∀ s, 0 ≤ s → s < M 18 g → N (128 * g + 16) s = c (128 * (3 * g + s) + 17) := h.2.2.2.2.2.2.2.2.2.2.2.2.2.2.2.2.2.2.2.2.2.2.2.2.2.2.2.2.2.2.2.2.2.2.2.2.2.2.2.2.2.2.2.2.2.2.2
theorem Ren.vrs {c : Int → Int} {S : Sh} {V M : Mem} {g : Int} (h : Ren c (Wv c S V) M g) : ∀ s, 0 ≤ s → s < M 18 g → V (c (128 * g + 16)) s = c (128 * (3 * g + s) + 17) := by
  have q := h.rs
  simp (config := { contextual := true }) (disch := omega) only [Wv_el] at q
  exact q
def Rcn (c : Int → Int) (N M : Mem) (q : Int) : Prop := (N (128 * q + 5) (-1) = 3) ∧ (N (128 * q + 5) 3 = c (128 * q + 6)) ∧ (N (128 * q + 6) (-1) = 20) ∧ (N (128 * q + 6) (-2) = 4) ∧ (NR M (N (128 * q + 5) 0) (M 20 q)) ∧ (∀ a, 0 ≤ a → a < 4 → (N (128 * q + 6) a = -1 ↔ M 22 (4 * q + a) = -1)) ∧ (N (128 * q + 5) 1 = -1 ↔ M 21 q = -1)
theorem Rcn.g5 {c : Int → Int} {N M : Mem} {q : Int} (h : Rcn c N M q) : N (128 * q + 5) (-1) = 3 := h.1
theorem Rcn.vg5 {c : Int → Int} {S : Sh} {V M : Mem} {q : Int} (h : Rcn c (Wv c S V) M q) : S.1 (c (128 * q + 5)) = 3 := by
  have q := h.g5
  exact q
theorem Rcn.r3 {c : Int → Int} {N M : Mem} {q : Int} (h : Rcn c N M q) : N (128 * q + 5) 3 = c (128 * q + 6) := h.2.1
theorem Rcn.vr3 {c : Int → Int} {S : Sh} {V M : Mem} {q : Int} (h : Rcn c (Wv c S V) M q) : V (c (128 * q + 5)) 3 = c (128 * q + 6) := by
  have q := h.r3
  exact q
theorem Rcn.g6 {c : Int → Int} {N M : Mem} {q : Int} (h : Rcn c N M q) : N (128 * q + 6) (-1) = 20 := h.2.2.1
theorem Rcn.vg6 {c : Int → Int} {S : Sh} {V M : Mem} {q : Int} (h : Rcn c (Wv c S V) M q) : S.1 (c (128 * q + 6)) = 20 := by
  have q := h.g6
  exact q
theorem Rcn.n6 {c : Int → Int} {N M : Mem} {q : Int} (h : Rcn c N M q) : N (128 * q + 6) (-2) = 4 := h.2.2.2.1
theorem Rcn.vn6 {c : Int → Int} {S : Sh} {V M : Mem} {q : Int} (h : Rcn c (Wv c S V) M q) : S.2.1 (c (128 * q + 6)) = 4 := by
  have q := h.n6
  exact q
theorem Rcn.nm {c : Int → Int} {N M : Mem} {q : Int} (h : Rcn c N M q) : NR M (N (128 * q + 5) 0) (M 20 q) := h.2.2.2.2.1
theorem Rcn.bd {c : Int → Int} {N M : Mem} {q : Int} (h : Rcn c N M q) : ∀ a, 0 ≤ a → a < 4 → (N (128 * q + 6) a = -1 ↔ M 22 (4 * q + a) = -1) := h.2.2.2.2.2.1
theorem Rcn.vbd {c : Int → Int} {S : Sh} {V M : Mem} {q : Int} (h : Rcn c (Wv c S V) M q) : ∀ a, 0 ≤ a → a < 4 → (V (c (128 * q + 6)) a = -1 ↔ M 22 (4 * q + a) = -1) := by
  have q := h.bd
  simp (config := { contextual := true }) (disch := omega) only [Wv_el] at q
  exact q
theorem Rcn.ar {c : Int → Int} {N M : Mem} {q : Int} (h : Rcn c N M q) : N (128 * q + 5) 1 = -1 ↔ M 21 q = -1 := h.2.2.2.2.2.2
theorem Rcn.var {c : Int → Int} {S : Sh} {V M : Mem} {q : Int} (h : Rcn c (Wv c S V) M q) : V (c (128 * q + 5)) 1 = -1 ↔ M 21 q = -1 := by
  have q := h.ar
  exact q
def Rtb (c : Int → Int) (N M : Mem) (t : Int) : Prop := (N (128 * t + 9) (-1) = 9) ∧ (N (128 * t + 9) 1 = c (128 * t + 10)) ∧ (N (128 * t + 10) (-1) = 20) ∧ (N (128 * t + 10) (-2) = 12) ∧ (N (128 * t + 9) 2 = c (128 * t + 11)) ∧ (N (128 * t + 11) (-1) = 20) ∧ (N (128 * t + 11) (-2) = 12) ∧ (N (128 * t + 9) 3 = M 24 t) ∧ (0 ≤ M 24 t) ∧ (M 24 t ≤ 12) ∧ (N (128 * t + 9) 4 = M 55 t) ∧ (0 ≤ M 55 t) ∧ (M 55 t ≤ M 24 t) ∧ (∀ k, 0 ≤ k → k < M 55 t → N (128 * t + 11) k = M 56 (12 * t + k))
theorem Rtb.g9 {c : Int → Int} {N M : Mem} {t : Int} (h : Rtb c N M t) : N (128 * t + 9) (-1) = 9 := h.1
theorem Rtb.vg9 {c : Int → Int} {S : Sh} {V M : Mem} {t : Int} (h : Rtb c (Wv c S V) M t) : S.1 (c (128 * t + 9)) = 9 := by
  have q := h.g9
  exact q
theorem Rtb.r1 {c : Int → Int} {N M : Mem} {t : Int} (h : Rtb c N M t) : N (128 * t + 9) 1 = c (128 * t + 10) := h.2.1
theorem Rtb.vr1 {c : Int → Int} {S : Sh} {V M : Mem} {t : Int} (h : Rtb c (Wv c S V) M t) : V (c (128 * t + 9)) 1 = c (128 * t + 10) := by
  have q := h.r1
  exact q
theorem Rtb.g10 {c : Int → Int} {N M : Mem} {t : Int} (h : Rtb c N M t) : N (128 * t + 10) (-1) = 20 := h.2.2.1
theorem Rtb.vg10 {c : Int → Int} {S : Sh} {V M : Mem} {t : Int} (h : Rtb c (Wv c S V) M t) : S.1 (c (128 * t + 10)) = 20 := by
  have q := h.g10
  exact q
theorem Rtb.n10 {c : Int → Int} {N M : Mem} {t : Int} (h : Rtb c N M t) : N (128 * t + 10) (-2) = 12 := h.2.2.2.1
theorem Rtb.vn10 {c : Int → Int} {S : Sh} {V M : Mem} {t : Int} (h : Rtb c (Wv c S V) M t) : S.2.1 (c (128 * t + 10)) = 12 := by
  have q := h.n10
  exact q
theorem Rtb.r2 {c : Int → Int} {N M : Mem} {t : Int} (h : Rtb c N M t) : N (128 * t + 9) 2 = c (128 * t + 11) := h.2.2.2.2.1
theorem Rtb.vr2 {c : Int → Int} {S : Sh} {V M : Mem} {t : Int} (h : Rtb c (Wv c S V) M t) : V (c (128 * t + 9)) 2 = c (128 * t + 11) := by
  have q := h.r2
  exact q
theorem Rtb.g11 {c : Int → Int} {N M : Mem} {t : Int} (h : Rtb c N M t) : N (128 * t + 11) (-1) = 20 := h.2.2.2.2.2.1
theorem Rtb.vg11 {c : Int → Int} {S : Sh} {V M : Mem} {t : Int} (h : Rtb c (Wv c S V) M t) : S.1 (c (128 * t + 11)) = 20 := by
  have q := h.g11
  exact q
theorem Rtb.n11 {c : Int → Int} {N M : Mem} {t : Int} (h : Rtb c N M t) : N (128 * t + 11) (-2) = 12 := h.2.2.2.2.2.2.1
theorem Rtb.vn11 {c : Int → Int} {S : Sh} {V M : Mem} {t : Int} (h : Rtb c (Wv c S V) M t) : S.2.1 (c (128 * t + 11)) = 12 := by
  have q := h.n11
  exact q
theorem Rtb.ne {c : Int → Int} {N M : Mem} {t : Int} (h : Rtb c N M t) : N (128 * t + 9) 3 = M 24 t := h.2.2.2.2.2.2.2.1
theorem Rtb.vne {c : Int → Int} {S : Sh} {V M : Mem} {t : Int} (h : Rtb c (Wv c S V) M t) : V (c (128 * t + 9)) 3 = M 24 t := by
  have q := h.ne
  exact q
theorem Rtb.ne0 {c : Int → Int} {N M : Mem} {t : Int} (h : Rtb c N M t) : 0 ≤ M 24 t := h.2.2.2.2.2.2.2.2.1
theorem Rtb.ne1 {c : Int → Int} {N M : Mem} {t : Int} (h : Rtb c N M t) : M 24 t ≤ 12 := h.2.2.2.2.2.2.2.2.2.1
theorem Rtb.th {c : Int → Int} {N M : Mem} {t : Int} (h : Rtb c N M t) : N (128 * t + 9) 4 = M 55 t := h.2.2.2.2.2.2.2.2.2.2.1
theorem Rtb.vth {c : Int → Int} {S : Sh} {V M : Mem} {t : Int} (h : Rtb c (Wv c S V) M t) : V (c (128 * t + 9)) 4 = M 55 t := by
  have q := h.th
  exact q
theorem Rtb.th0 {c : Int → Int} {N M : Mem} {t : Int} (h : Rtb c N M t) : 0 ≤ M 55 t := h.2.2.2.2.2.2.2.2.2.2.2.1
theorem Rtb.th1 {c : Int → Int} {N M : Mem} {t : Int} (h : Rtb c N M t) : M 55 t ≤ M 24 t := h.2.2.2.2.2.2.2.2.2.2.2.2.1
theorem Rtb.en {c : Int → Int} {N M : Mem} {t : Int} (h : Rtb c N M t) : ∀ k, 0 ≤ k → k < M 55 t → N (128 * t + 11) k = M 56 (12 * t + k) := h.2.2.2.2.2.2.2.2.2.2.2.2.2
theorem Rtb.ven {c : Int → Int} {S : Sh} {V M : Mem} {t : Int} (h : Rtb c (Wv c S V) M t) : ∀ k, 0 ≤ k → k < M 55 t → V (c (128 * t + 11)) k = M 56 (12 * t + k) := by
  have q := h.en
  simp (config := { contextual := true }) (disch := omega) only [Wv_el] at q
  exact q
def Rsw (c : Int → Int) (N M : Mem) (s : Int) : Prop := (N (128 * s + 17) (-1) = 8) ∧ (N (128 * s + 17) 1 = c (128 * s + 18)) ∧ (N (128 * s + 18) (-1) = 22) ∧ (N (128 * s + 18) (-2) = 12) ∧ (N (128 * s + 17) 2 = c (128 * s + 19)) ∧ (N (128 * s + 19) (-1) = 20) ∧ (N (128 * s + 19) (-2) = 12) ∧ (N (128 * s + 17) 3 = M 30 s) ∧ (0 ≤ M 30 s) ∧ (M 30 s ≤ 12)
theorem Rsw.g17 {c : Int → Int} {N M : Mem} {s : Int} (h : Rsw c N M s) : N (128 * s + 17) (-1) = 8 := h.1
theorem Rsw.vg17 {c : Int → Int} {S : Sh} {V M : Mem} {s : Int} (h : Rsw c (Wv c S V) M s) : S.1 (c (128 * s + 17)) = 8 := by
  have q := h.g17
  exact q
theorem Rsw.r1 {c : Int → Int} {N M : Mem} {s : Int} (h : Rsw c N M s) : N (128 * s + 17) 1 = c (128 * s + 18) := h.2.1
theorem Rsw.vr1 {c : Int → Int} {S : Sh} {V M : Mem} {s : Int} (h : Rsw c (Wv c S V) M s) : V (c (128 * s + 17)) 1 = c (128 * s + 18) := by
  have q := h.r1
  exact q
theorem Rsw.g18 {c : Int → Int} {N M : Mem} {s : Int} (h : Rsw c N M s) : N (128 * s + 18) (-1) = 22 := h.2.2.1
theorem Rsw.vg18 {c : Int → Int} {S : Sh} {V M : Mem} {s : Int} (h : Rsw c (Wv c S V) M s) : S.1 (c (128 * s + 18)) = 22 := by
  have q := h.g18
  exact q
theorem Rsw.n18 {c : Int → Int} {N M : Mem} {s : Int} (h : Rsw c N M s) : N (128 * s + 18) (-2) = 12 := h.2.2.2.1
theorem Rsw.vn18 {c : Int → Int} {S : Sh} {V M : Mem} {s : Int} (h : Rsw c (Wv c S V) M s) : S.2.1 (c (128 * s + 18)) = 12 := by
  have q := h.n18
  exact q
theorem Rsw.r2 {c : Int → Int} {N M : Mem} {s : Int} (h : Rsw c N M s) : N (128 * s + 17) 2 = c (128 * s + 19) := h.2.2.2.2.1
theorem Rsw.vr2 {c : Int → Int} {S : Sh} {V M : Mem} {s : Int} (h : Rsw c (Wv c S V) M s) : V (c (128 * s + 17)) 2 = c (128 * s + 19) := by
  have q := h.r2
  exact q
theorem Rsw.g19 {c : Int → Int} {N M : Mem} {s : Int} (h : Rsw c N M s) : N (128 * s + 19) (-1) = 20 := h.2.2.2.2.2.1
theorem Rsw.vg19 {c : Int → Int} {S : Sh} {V M : Mem} {s : Int} (h : Rsw c (Wv c S V) M s) : S.1 (c (128 * s + 19)) = 20 := by
  have q := h.g19
  exact q
theorem Rsw.n19 {c : Int → Int} {N M : Mem} {s : Int} (h : Rsw c N M s) : N (128 * s + 19) (-2) = 12 := h.2.2.2.2.2.2.1
theorem Rsw.vn19 {c : Int → Int} {S : Sh} {V M : Mem} {s : Int} (h : Rsw c (Wv c S V) M s) : S.2.1 (c (128 * s + 19)) = 12 := by
  have q := h.n19
  exact q
theorem Rsw.nc {c : Int → Int} {N M : Mem} {s : Int} (h : Rsw c N M s) : N (128 * s + 17) 3 = M 30 s := h.2.2.2.2.2.2.2.1
theorem Rsw.vnc {c : Int → Int} {S : Sh} {V M : Mem} {s : Int} (h : Rsw c (Wv c S V) M s) : V (c (128 * s + 17)) 3 = M 30 s := by
  have q := h.nc
  exact q
theorem Rsw.nc0 {c : Int → Int} {N M : Mem} {s : Int} (h : Rsw c N M s) : 0 ≤ M 30 s := h.2.2.2.2.2.2.2.2.1
theorem Rsw.nc1 {c : Int → Int} {N M : Mem} {s : Int} (h : Rsw c N M s) : M 30 s ≤ 12 := h.2.2.2.2.2.2.2.2.2
def cnt (f : Int → Int) : Nat → Int
  | 0 => 0
  | n + 1 => cnt f n + (if f n = 0 then 0 else 1)
def LCk (N M gm : Mem) (b x : Int) : Prop :=
  (M 35 x = 0 ∧ gm 2 x = gm 1 x + 1 ∧ N (128 * b + 21) (gm 1 x) = 1 ∧ N (128 * b + 22) (gm 1 x) = M 36 x) ∨
  (M 35 x = 1 ∧ gm 0 (M 36 x) = 1 ∧ gm 1 (M 36 x) = gm 1 x ∧ gm 2 x = gm 2 (M 36 x) + 1 ∧ gm 3 (M 36 x) + 1 ≤ gm 3 x ∧ gm 4 (M 36 x) ≤ gm 4 x ∧ N (128 * b + 21) (gm 2 (M 36 x)) = 6) ∨
  (2 ≤ M 35 x ∧ M 35 x ≤ 5 ∧ gm 0 (M 36 x) = 1 ∧ gm 0 (M 37 x) = 1 ∧ gm 1 (M 36 x) = gm 1 x ∧ gm 1 (M 37 x) = gm 2 (M 36 x) ∧ gm 2 x = gm 2 (M 37 x) + 1 ∧ gm 3 (M 37 x) + 1 ≤ gm 3 x ∧ gm 3 (M 36 x) ≤ gm 3 x ∧ (2 ≤ M 35 (M 36 x) → M 35 (M 36 x) ≤ 5 → M 38 (M 36 x) = x) ∧ (¬ (2 ≤ M 35 (M 36 x) ∧ M 35 (M 36 x) ≤ 5) → gm 3 (M 36 x) + 1 ≤ gm 3 x) ∧ gm 4 (M 36 x) ≤ gm 4 x ∧ gm 4 (M 37 x) ≤ gm 4 x ∧ N (128 * b + 21) (gm 2 (M 37 x)) = M 35 x + 5) ∨
  (M 35 x = 6 ∧ gm 2 x = gm 1 x + 1 ∧ N (128 * b + 21) (gm 1 x) = 3 ∧ 2 ≤ gm 4 x) ∨
  (M 35 x = 7 ∧ gm 2 x = gm 1 x + 1 ∧ N (128 * b + 21) (gm 1 x) = 2 ∧ 1 ≤ gm 4 x) ∨
  (M 35 x = 8 ∧ gm 2 x = gm 1 x + 1 ∧ N (128 * b + 21) (gm 1 x) = 4 ∧ gm 4 x = 3) ∨
  (M 35 x = 9 ∧ gm 2 x = gm 1 x + 1 ∧ N (128 * b + 21) (gm 1 x) = 1 ∧ 0 ≤ M 39 x ∧ M 39 x < 120 ∧ N (128 * b + 22) (gm 1 x) = M 14 (M 39 x)) ∨
  (M 35 x = 10 ∧ gm 2 x = gm 1 x + 1 ∧ N (128 * b + 21) (gm 1 x) = 15 ∧ ∃ e i, 0 ≤ e ∧ e < M 10 b ∧ 0 ≤ i ∧ i < M 14 (12 * b + e) ∧ M 36 x = 24 * (12 * b + e) + i ∧ N (128 * b + 22) (gm 1 x) = 24 * e + i) ∨
  (M 35 x = 11 ∧ gm 2 x = gm 1 x + 1 ∧ N (128 * b + 21) (gm 1 x) = 16 ∧ ∃ e i, 0 ≤ e ∧ e < M 10 b ∧ 0 ≤ i ∧ i < M 17 (12 * b + e) ∧ M 36 x = 4 * (12 * b + e) + i ∧ N (128 * b + 22) (gm 1 x) = 100 + 4 * e + i) ∨
  (M 35 x = 12 ∧ N (128 * b + 21) (gm 1 x) = 17 ∧ gm 0 (M 37 x) = 1 ∧ gm 1 (M 37 x) = gm 1 x + 1 ∧ gm 2 x = gm 2 (M 37 x) + 1 ∧ gm 3 (M 37 x) + 1 ≤ gm 3 x ∧ gm 4 (M 37 x) ≤ gm 4 x ∧ N (128 * b + 21) (gm 2 (M 37 x)) = 18 ∧ ∃ e i, 0 ≤ e ∧ e < M 10 b ∧ 0 ≤ i ∧ i < M 15 (12 * b + e) ∧ M 36 x = 4 * (12 * b + e) + i ∧ N (128 * b + 22) (gm 1 x) = e ∧ N (128 * b + 22) (gm 2 (M 37 x)) = 4 * e + i)
def LCn (N M gm : Mem) (b x : Int) : Prop := 0 ≤ x ∧ x < M 0 40 ∧ 0 ≤ gm 1 x ∧ gm 1 x < gm 2 x ∧ gm 2 x < N (128 * b + 20) 2 ∧ 1 ≤ gm 3 x ∧ gm 3 x ≤ 39 ∧ 0 ≤ gm 4 x ∧ gm 4 x ≤ 3 ∧ LCk N M gm b x
def BkN (N M gm : Mem) (b : Int) : Prop := M 0 40 ≤ 31000 ∧ ∀ x, gm 0 x = 1 → LCn N M gm b x
def Rt (N gm : Mem) (b x p lv sl : Int) : Prop := gm 0 x = 1 ∧ gm 1 x = p ∧ gm 4 x ≤ lv ∧ N (128 * b + 21) (gm 2 x) = 0 ∧ ∀ j, gm 1 x ≤ j → j < gm 2 x → gm 5 j = sl
def BkTe (N M gm : Mem) (b e : Int) : Prop := (∀ i, 0 ≤ i → i < M 14 (12 * b + e) → M 21 (24 * (12 * b + e) + i) ≠ -1 → Rt N gm b (M 21 (24 * (12 * b + e) + i)) (N (128 * (24 * (12 * b + e) + i) + 5) 1) 1 (1000 * e + i)) ∧ (∀ i a, 0 ≤ i → i < M 14 (12 * b + e) → 0 ≤ a → a < 4 → M 22 (4 * (24 * (12 * b + e) + i) + a) ≠ -1 → Rt N gm b (M 22 (4 * (24 * (12 * b + e) + i) + a)) (N (128 * (24 * (12 * b + e) + i) + 6) a) 3 (-1)) ∧ (∀ a, 0 ≤ a → a < 4 → M 19 (4 * (12 * b + e) + a) ≠ -1 → Rt N gm b (M 19 (4 * (12 * b + e) + a)) (N (128 * (12 * b + e) + 7) a) 2 (-1)) ∧ (∀ t k, 0 ≤ t → t < M 15 (12 * b + e) → 0 ≤ k → k < M 24 (4 * (12 * b + e) + t) → Rt N gm b (M 25 (12 * (4 * (12 * b + e) + t) + k)) (N (128 * (4 * (12 * b + e) + t) + 10) k) 0 (1000 * e + 100 + 12 * t + k)) ∧ (∀ k, 0 ≤ k → k < M 16 (12 * b + e) → Rt N gm b (M 26 (3 * (12 * b + e) + k)) (N (128 * (12 * b + e) + 12) k) 0 (1000 * e + 200 + k)) ∧ (∀ k, 0 ≤ k → k < M 17 (12 * b + e) → Rt N gm b (M 28 (4 * (12 * b + e) + k)) (N (128 * (12 * b + e) + 14) k) 0 (1000 * (100 + 4 * e + k))) ∧ (∀ s, 0 ≤ s → s < M 18 (12 * b + e) → Rt N gm b (M 34 (3 * (12 * b + e) + s)) (N (128 * (3 * (12 * b + e) + s) + 17) 4) 0 (-1)) ∧ (∀ s k, 0 ≤ s → s < M 18 (12 * b + e) → 0 ≤ k → k < M 30 (3 * (12 * b + e) + s) → Rt N gm b (M 33 (12 * (3 * (12 * b + e) + s) + k)) (N (128 * (3 * (12 * b + e) + s) + 19) k + 1) 0 (-1) ∧ 0 ≤ N (128 * (3 * (12 * b + e) + s) + 19) k ∧ N (128 * b + 22) (N (128 * (3 * (12 * b + e) + s) + 19) k) = M 32 (12 * (3 * (12 * b + e) + s) + k)) ∧ (∀ s k k', 0 ≤ s → s < M 18 (12 * b + e) → 0 ≤ k' → k' < k → k < M 30 (3 * (12 * b + e) + s) → M 32 (12 * (3 * (12 * b + e) + s) + k') ≠ M 32 (12 * (3 * (12 * b + e) + s) + k))
theorem BkTe.ar {N M gm : Mem} {b e : Int} (h : BkTe N M gm b e) : ∀ i, 0 ≤ i → i < M 14 (12 * b + e) → M 21 (24 * (12 * b + e) + i) ≠ -1 → Rt N gm b (M 21 (24 * (12 * b + e) + i)) (N (128 * (24 * (12 * b + e) + i) + 5) 1) 1 (1000 * e + i) := h.1
theorem BkTe.ob {N M gm : Mem} {b e : Int} (h : BkTe N M gm b e) : ∀ i a, 0 ≤ i → i < M 14 (12 * b + e) → 0 ≤ a → a < 4 → M 22 (4 * (24 * (12 * b + e) + i) + a) ≠ -1 → Rt N gm b (M 22 (4 * (24 * (12 * b + e) + i) + a)) (N (128 * (24 * (12 * b + e) + i) + 6) a) 3 (-1) := h.2.1
theorem BkTe.eb {N M gm : Mem} {b e : Int} (h : BkTe N M gm b e) : ∀ a, 0 ≤ a → a < 4 → M 19 (4 * (12 * b + e) + a) ≠ -1 → Rt N gm b (M 19 (4 * (12 * b + e) + a)) (N (128 * (12 * b + e) + 7) a) 2 (-1) := h.2.2.1
theorem BkTe.tb {N M gm : Mem} {b e : Int} (h : BkTe N M gm b e) : ∀ t k, 0 ≤ t → t < M 15 (12 * b + e) → 0 ≤ k → k < M 24 (4 * (12 * b + e) + t) → Rt N gm b (M 25 (12 * (4 * (12 * b + e) + t) + k)) (N (128 * (4 * (12 * b + e) + t) + 10) k) 0 (1000 * e + 100 + 12 * t + k) := h.2.2.2.1
theorem BkTe.ck {N M gm : Mem} {b e : Int} (h : BkTe N M gm b e) : ∀ k, 0 ≤ k → k < M 16 (12 * b + e) → Rt N gm b (M 26 (3 * (12 * b + e) + k)) (N (128 * (12 * b + e) + 12) k) 0 (1000 * e + 200 + k) := h.2.2.2.2.1
theorem BkTe.ho {N M gm : Mem} {b e : Int} (h : BkTe N M gm b e) : ∀ k, 0 ≤ k → k < M 17 (12 * b + e) → Rt N gm b (M 28 (4 * (12 * b + e) + k)) (N (128 * (12 * b + e) + 14) k) 0 (1000 * (100 + 4 * e + k)) := h.2.2.2.2.2.1
theorem BkTe.el {N M gm : Mem} {b e : Int} (h : BkTe N M gm b e) : ∀ s, 0 ≤ s → s < M 18 (12 * b + e) → Rt N gm b (M 34 (3 * (12 * b + e) + s)) (N (128 * (3 * (12 * b + e) + s) + 17) 4) 0 (-1) := h.2.2.2.2.2.2.1
theorem BkTe.ca {N M gm : Mem} {b e : Int} (h : BkTe N M gm b e) : ∀ s k, 0 ≤ s → s < M 18 (12 * b + e) → 0 ≤ k → k < M 30 (3 * (12 * b + e) + s) → Rt N gm b (M 33 (12 * (3 * (12 * b + e) + s) + k)) (N (128 * (3 * (12 * b + e) + s) + 19) k + 1) 0 (-1) ∧ 0 ≤ N (128 * (3 * (12 * b + e) + s) + 19) k ∧ N (128 * b + 22) (N (128 * (3 * (12 * b + e) + s) + 19) k) = M 32 (12 * (3 * (12 * b + e) + s) + k) := h.2.2.2.2.2.2.2.1
theorem BkTe.cd {N M gm : Mem} {b e : Int} (h : BkTe N M gm b e) : ∀ s k k', 0 ≤ s → s < M 18 (12 * b + e) → 0 ≤ k' → k' < k → k < M 30 (3 * (12 * b + e) + s) → M 32 (12 * (3 * (12 * b + e) + s) + k') ≠ M 32 (12 * (3 * (12 * b + e) + s) + k) := h.2.2.2.2.2.2.2.2
def BkT (N M gm : Mem) (b : Int) : Prop := ∀ e, 0 ≤ e → e < M 10 b → BkTe N M gm b e
def BkD (N M gm : Mem) (U : Int → Int) (b : Int) : Prop := (∀ i, 0 ≤ i → i < 148 → 0 ≤ M 52 (160 * b + i)) ∧ (∀ i, 0 ≤ i → i < 148 → M 52 (160 * b + i) ≤ 3) ∧ (∀ i, 12 ≤ i → i < 100 → M 52 (160 * b + i) = 0) ∧ (M 59 b = cnt (fun i => M 52 (160 * b + i)) 148) ∧ (∀ e, 0 ≤ e → e < M 10 b → M 52 (160 * b + e) = 1 → M 53 (12 * b + e) = M 14 (12 * b + e)) ∧ (∀ e t, 0 ≤ e → e < M 10 b → M 52 (160 * b + e) = 1 → 0 ≤ t → t < M 15 (12 * b + e) → M 55 (4 * (12 * b + e) + t) = M 24 (4 * (12 * b + e) + t)) ∧ (∀ e, 0 ≤ e → e < M 10 b → M 52 (160 * b + e) = 0 → M 53 (12 * b + e) = 0) ∧ (∀ e t, 0 ≤ e → e < M 10 b → M 52 (160 * b + e) = 0 → 0 ≤ t → t < M 15 (12 * b + e) → M 55 (4 * (12 * b + e) + t) = 0) ∧ (∀ e i, 0 ≤ e → e < M 10 b → 0 ≤ i → i < M 53 (12 * b + e) → N (128 * (24 * (12 * b + e) + i) + 5) 2 = M 54 (24 * (12 * b + e) + i)) ∧ (∀ e i, 0 ≤ e → e < M 10 b → 0 ≤ i → i < M 14 (12 * b + e) → M 21 (24 * (12 * b + e) + i) = -1 → N (128 * (24 * (12 * b + e) + i) + 5) 2 = 0) ∧ (∀ e i, 0 ≤ e → e < M 10 b → 0 ≤ i → i < M 17 (12 * b + e) → M 52 (160 * b + (100 + 4 * e + i)) = 1 → N (128 * (12 * b + e) + 15) i = M 57 (4 * (12 * b + e) + i)) ∧ (∀ p, 0 ≤ gm 5 p → gm 5 p < 148000) ∧ (∀ p, U p = 0 ∨ U p = 1) ∧ (M 62 b ≤ cnt U (N (128 * b + 20) 2).toNat) ∧ (∀ p, 0 ≤ gm 5 p → M 52 (160 * b + gm 5 p / 1000) = 0 → U p = 0)
theorem BkD.s0 {N M gm : Mem} {U : Int → Int} {b : Int} (h : BkD N M gm U b) : ∀ i, 0 ≤ i → i < 148 → 0 ≤ M 52 (160 * b + i) := h.1
theorem BkD.s3 {N M gm : Mem} {U : Int → Int} {b : Int} (h : BkD N M gm U b) : ∀ i, 0 ≤ i → i < 148 → M 52 (160 * b + i) ≤ 3 := h.2.1
theorem BkD.sz {N M gm : Mem} {U : Int → Int} {b : Int} (h : BkD N M gm U b) : ∀ i, 12 ≤ i → i < 100 → M 52 (160 * b + i) = 0 := h.2.2.1
theorem BkD.sc {N M gm : Mem} {U : Int → Int} {b : Int} (h : BkD N M gm U b) : M 59 b = cnt (fun i => M 52 (160 * b + i)) 148 := h.2.2.2.1
theorem BkD.wc {N M gm : Mem} {U : Int → Int} {b : Int} (h : BkD N M gm U b) : ∀ e, 0 ≤ e → e < M 10 b → M 52 (160 * b + e) = 1 → M 53 (12 * b + e) = M 14 (12 * b + e) := h.2.2.2.2.1
theorem BkD.wt {N M gm : Mem} {U : Int → Int} {b : Int} (h : BkD N M gm U b) : ∀ e t, 0 ≤ e → e < M 10 b → M 52 (160 * b + e) = 1 → 0 ≤ t → t < M 15 (12 * b + e) → M 55 (4 * (12 * b + e) + t) = M 24 (4 * (12 * b + e) + t) := h.2.2.2.2.2.1
theorem BkD.zc {N M gm : Mem} {U : Int → Int} {b : Int} (h : BkD N M gm U b) : ∀ e, 0 ≤ e → e < M 10 b → M 52 (160 * b + e) = 0 → M 53 (12 * b + e) = 0 := h.2.2.2.2.2.2.1
theorem BkD.zt {N M gm : Mem} {U : Int → Int} {b : Int} (h : BkD N M gm U b) : ∀ e t, 0 ≤ e → e < M 10 b → M 52 (160 * b + e) = 0 → 0 ≤ t → t < M 15 (12 * b + e) → M 55 (4 * (12 * b + e) + t) = 0 := h.2.2.2.2.2.2.2.1
theorem BkD.ar {N M gm : Mem} {U : Int → Int} {b : Int} (h : BkD N M gm U b) : ∀ e i, 0 ≤ e → e < M 10 b → 0 ≤ i → i < M 53 (12 * b + e) → N (128 * (24 * (12 * b + e) + i) + 5) 2 = M 54 (24 * (12 * b + e) + i) := h.2.2.2.2.2.2.2.2.1
theorem BkD.an {N M gm : Mem} {U : Int → Int} {b : Int} (h : BkD N M gm U b) : ∀ e i, 0 ≤ e → e < M 10 b → 0 ≤ i → i < M 14 (12 * b + e) → M 21 (24 * (12 * b + e) + i) = -1 → N (128 * (24 * (12 * b + e) + i) + 5) 2 = 0 := h.2.2.2.2.2.2.2.2.2.1
theorem BkD.ho {N M gm : Mem} {U : Int → Int} {b : Int} (h : BkD N M gm U b) : ∀ e i, 0 ≤ e → e < M 10 b → 0 ≤ i → i < M 17 (12 * b + e) → M 52 (160 * b + (100 + 4 * e + i)) = 1 → N (128 * (12 * b + e) + 15) i = M 57 (4 * (12 * b + e) + i) := h.2.2.2.2.2.2.2.2.2.2.1
theorem BkD.ur {N M gm : Mem} {U : Int → Int} {b : Int} (h : BkD N M gm U b) : ∀ p, 0 ≤ gm 5 p → gm 5 p < 148000 := h.2.2.2.2.2.2.2.2.2.2.2.1
theorem BkD.u {N M gm : Mem} {U : Int → Int} {b : Int} (h : BkD N M gm U b) : ∀ p, U p = 0 ∨ U p = 1 := h.2.2.2.2.2.2.2.2.2.2.2.2.1
theorem BkD.uc {N M gm : Mem} {U : Int → Int} {b : Int} (h : BkD N M gm U b) : M 62 b ≤ cnt U (N (128 * b + 20) 2).toNat := h.2.2.2.2.2.2.2.2.2.2.2.2.2.1
theorem BkD.uz {N M gm : Mem} {U : Int → Int} {b : Int} (h : BkD N M gm U b) : ∀ p, 0 ≤ gm 5 p → M 52 (160 * b + gm 5 p / 1000) = 0 → U p = 0 := h.2.2.2.2.2.2.2.2.2.2.2.2.2.2
def BkX (N M : Mem) (b : Int) : Prop := ∃ (gm : Mem) (U : Int → Int), BkN N M gm b ∧ BkT N M gm b ∧ BkD N M gm U b
def BkE (c : Int → Int) (N M : Mem) (g : Int) : Prop := Ren c N M g ∧ (∀ i, 0 ≤ i → i < M 14 g → Rcn c N M (24 * g + i)) ∧ (∀ t, 0 ≤ t → t < M 15 g → Rtb c N M (4 * g + t)) ∧ (∀ s, 0 ≤ s → s < M 18 g → Rsw c N M (3 * g + s))
def BkH (c : Int → Int) (N M : Mem) (b : Int) : Prop := Rbk c N M b ∧ (∀ e, 0 ≤ e → e < M 10 b → BkE c N M (12 * b + e))
def BkR (c : Int → Int) (N M : Mem) (b : Int) : Prop := BkH c N M b ∧ BkX N M b ∧ ∀ i, 0 ≤ i → i < 148 → M 52 (160 * b + i) ≠ 3
def Rel (c : Int → Int) (N M : Mem) : Prop := Rtop c N M ∧ Rwk c N M ∧ Rrd c N M ∧ (∀ s, 0 ≤ s → s < M 0 72 → Rst c N M s) ∧ (∀ s, 0 ≤ s → s < M 0 76 → Rmp c N M s) ∧ (∀ n, 0 ≤ n → n ≤ M 0 81 → Rdr c N M n) ∧ (∀ n, 0 ≤ n → n < M 0 81 → Rms c N M n) ∧ (∀ b, 0 ≤ b → b < M 0 8 → BkR c N M b)
theorem Rel.top {c : Int → Int} {N M : Mem} (h : Rel c N M) : Rtop c N M := h.1
theorem Rel.wk {c : Int → Int} {N M : Mem} (h : Rel c N M) : Rwk c N M := h.2.1
theorem Rel.rd {c : Int → Int} {N M : Mem} (h : Rel c N M) : Rrd c N M := h.2.2.1
theorem Rel.st {c : Int → Int} {N M : Mem} {s : Int} (h : Rel c N M) (h0 : 0 ≤ s) (h1 : s < M 0 72) : Rst c N M s := h.2.2.2.1 s h0 h1
theorem Rel.mp {c : Int → Int} {N M : Mem} {s : Int} (h : Rel c N M) (h0 : 0 ≤ s) (h1 : s < M 0 76) : Rmp c N M s := h.2.2.2.2.1 s h0 h1
theorem Rel.dr {c : Int → Int} {N M : Mem} {n : Int} (h : Rel c N M) (h0 : 0 ≤ n) (h1 : n ≤ M 0 81) : Rdr c N M n := h.2.2.2.2.2.1 n h0 h1
theorem Rel.ms {c : Int → Int} {N M : Mem} {n : Int} (h : Rel c N M) (h0 : 0 ≤ n) (h1 : n < M 0 81) : Rms c N M n := h.2.2.2.2.2.2.1 n h0 h1
theorem Rel.bk {c : Int → Int} {N M : Mem} {b : Int} (h : Rel c N M) (h0 : 0 ≤ b) (h1 : b < M 0 8) : BkR c N M b := h.2.2.2.2.2.2.2 b h0 h1
theorem BkH.bk {c : Int → Int} {N M : Mem} {b : Int} (h : BkH c N M b) : Rbk c N M b := h.1
theorem BkH.be {c : Int → Int} {N M : Mem} {b e : Int} (h : BkH c N M b) (h0 : 0 ≤ e) (h1 : e < M 10 b) : BkE c N M (12 * b + e) := h.2 e h0 h1
theorem BkR.bk {c : Int → Int} {N M : Mem} {b : Int} (h : BkR c N M b) : Rbk c N M b := h.1.1
theorem BkR.be {c : Int → Int} {N M : Mem} {b e : Int} (h : BkR c N M b) (h0 : 0 ≤ e) (h1 : e < M 10 b) : BkE c N M (12 * b + e) := h.1.2 e h0 h1
theorem BkE.en {c : Int → Int} {N M : Mem} {g : Int} (h : BkE c N M g) : Ren c N M g := h.1
theorem BkE.cn {c : Int → Int} {N M : Mem} {g i : Int} (h : BkE c N M g) (h0 : 0 ≤ i) (h1 : i < M 14 g) : Rcn c N M (24 * g + i) := h.2.1 i h0 h1
theorem BkE.tb {c : Int → Int} {N M : Mem} {g i : Int} (h : BkE c N M g) (h0 : 0 ≤ i) (h1 : i < M 15 g) : Rtb c N M (4 * g + i) := h.2.2.1 i h0 h1
theorem BkE.sw {c : Int → Int} {N M : Mem} {g i : Int} (h : BkE c N M g) (h0 : 0 ≤ i) (h1 : i < M 18 g) : Rsw c N M (3 * g + i) := h.2.2.2 i h0 h1
def CI (x m : Int) (a : Int → Int) (S : Sh) (V M : Mem) : Prop := ∃ c, Cn c S ∧ c 60 = x ∧ c 80 = m ∧ (∀ k, mt k ≠ 0 → c (128 * k + 81) = a k) ∧ Rel c (Wv c S V) M
