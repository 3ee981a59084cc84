/-! ===== book: headers as they are read; names known ===== -/
def HE (c : Int → Int) (N M : Mem) (g : Int) : Prop := (N (128 * g + 3) (-1) = 4) ∧ (N (128 * g + 3) 3 = c (128 * g + 4)) ∧ (N (128 * g + 4) (-1) = 32) ∧ (N (128 * g + 4) (-2) = 24) ∧ (N (128 * g + 3) 6 = c (128 * g + 7)) ∧ (N (128 * g + 7) (-1) = 20) ∧ (N (128 * g + 7) (-2) = 4) ∧ (N (128 * g + 3) 7 = c (128 * g + 8)) ∧ (N (128 * g + 8) (-1) = 38) ∧ (N (128 * g + 8) (-2) = 4) ∧ (N (128 * g + 3) 9 = c (128 * g + 12)) ∧ (N (128 * g + 12) (-1) = 20) ∧ (N (128 * g + 12) (-2) = 3) ∧ (N (128 * g + 3) 11 = c (128 * g + 13)) ∧ (N (128 * g + 13) (-1) = 22) ∧ (N (128 * g + 13) (-2) = 4) ∧ (N (128 * g + 3) 12 = c (128 * g + 14)) ∧ (N (128 * g + 14) (-1) = 20) ∧ (N (128 * g + 14) (-2) = 4) ∧ (N (128 * g + 3) 13 = c (128 * g + 15)) ∧ (N (128 * g + 15) (-1) = 20) ∧ (N (128 * g + 15) (-2) = 4) ∧ (N (128 * g + 3) 15 = c (128 * g + 16)) ∧ (N (128 * g + 16) (-1) = 37) ∧ (N (128 * g + 16) (-2) = 3) ∧ (NR M (N (128 * g + 3) 0) (M 13 g)) ∧ (N (128 * g + 3) 4 = M 14 g) ∧ (0 ≤ M 14 g) ∧ (M 14 g ≤ 24) ∧ (N (128 * g + 3) 8 = M 15 g) ∧ (0 ≤ M 15 g) ∧ (M 15 g ≤ 4) ∧ (N (128 * g + 3) 10 = M 16 g) ∧ (0 ≤ M 16 g) ∧ (M 16 g ≤ 3) ∧ (N (128 * g + 3) 14 = M 17 g) ∧ (0 ≤ M 17 g) ∧ (M 17 g ≤ 4) ∧ (N (128 * g + 3) 16 = M 18 g) ∧ (0 ≤ M 18 g) ∧ (M 18 g ≤ 3) ∧ (N (128 * g + 3) 5 = 0) ∧ (∀ i, 0 ≤ i → i < M 14 g → N (128 * g + 4) i = c (128 * (24 * g + i) + 5) ∧ N (128 * (24 * g + i) + 5) (-1) = 3) ∧ (∀ i, 0 ≤ i → i < M 15 g → N (128 * g + 8) i = c (128 * (4 * g + i) + 9) ∧ N (128 * (4 * g + i) + 9) (-1) = 9) ∧ (∀ i, 0 ≤ i → i < M 18 g → N (128 * g + 16) i = c (128 * (3 * g + i) + 17) ∧ N (128 * (3 * g + i) + 17) (-1) = 8)
theorem HE.tg {c : Int → Int} {N M : Mem} {g : Int} (h : HE c N M g) : N (128 * g + 3) (-1) = 4 := h.1
theorem HE.rc {c : Int → Int} {N M : Mem} {g : Int} (h : HE c N M g) : N (128 * g + 3) 3 = c (128 * g + 4) := h.2.1
theorem HE.tc {c : Int → Int} {N M : Mem} {g : Int} (h : HE c N M g) : N (128 * g + 4) (-1) = 32 := h.2.2.1
theorem HE.lc {c : Int → Int} {N M : Mem} {g : Int} (h : HE c N M g) : N (128 * g + 4) (-2) = 24 := h.2.2.2.1
theorem HE.rb {c : Int → Int} {N M : Mem} {g : Int} (h : HE c N M g) : N (128 * g + 3) 6 = c (128 * g + 7) := h.2.2.2.2.1
theorem HE.tb {c : Int → Int} {N M : Mem} {g : Int} (h : HE c N M g) : N (128 * g + 7) (-1) = 20 := h.2.2.2.2.2.1
theorem HE.lb {c : Int → Int} {N M : Mem} {g : Int} (h : HE c N M g) : N (128 * g + 7) (-2) = 4 := h.2.2.2.2.2.2.1
theorem HE.rt {c : Int → Int} {N M : Mem} {g : Int} (h : HE c N M g) : N (128 * g + 3) 7 = c (128 * g + 8) := h.2.2.2.2.2.2.2.1
theorem HE.tt {c : Int → Int} {N M : Mem} {g : Int} (h : HE c N M g) : N (128 * g + 8) (-1) = 38 := h.2.2.2.2.2.2.2.2.1
theorem HE.lt {c : Int → Int} {N M : Mem} {g : Int} (h : HE c N M g) : N (128 * g + 8) (-2) = 4 := h.2.2.2.2.2.2.2.2.2.1
theorem HE.rk {c : Int → Int} {N M : Mem} {g : Int} (h : HE c N M g) : N (128 * g + 3) 9 = c (128 * g + 12) := h.2.2.2.2.2.2.2.2.2.2.1
theorem HE.tk {c : Int → Int} {N M : Mem} {g : Int} (h : HE c N M g) : N (128 * g + 12) (-1) = 20 := h.2.2.2.2.2.2.2.2.2.2.2.1
theorem HE.lk {c : Int → Int} {N M : Mem} {g : Int} (h : HE c N M g) : N (128 * g + 12) (-2) = 3 := h.2.2.2.2.2.2.2.2.2.2.2.2.1
theorem HE.rn {c : Int → Int} {N M : Mem} {g : Int} (h : HE c N M g) : N (128 * g + 3) 11 = c (128 * g + 13) := h.2.2.2.2.2.2.2.2.2.2.2.2.2.1
theorem HE.tn {c : Int → Int} {N M : Mem} {g : Int} (h : HE c N M g) : N (128 * g + 13) (-1) = 22 := h.2.2.2.2.2.2.2.2.2.2.2.2.2.2.1
theorem HE.ln {c : Int → Int} {N M : Mem} {g : Int} (h : HE c N M g) : N (128 * g + 13) (-2) = 4 := h.2.2.2.2.2.2.2.2.2.2.2.2.2.2.2.1
theorem HE.rh {c : Int → Int} {N M : Mem} {g : Int} (h : HE c N M g) : N (128 * g + 3) 12 = c (128 * g + 14) := h.2.2.2.2.2.2.2.2.2.2.2.2.2.2.2.2.1
theorem HE.th {c : Int → Int} {N M : Mem} {g : Int} (h : HE c N M g) : N (128 * g + 14) (-1) = 20 := h.2.2.2.2.2.2.2.2.2.2.2.2.2.2.2.2.2.1
theorem HE.lh {c : Int → Int} {N M : Mem} {g : Int} (h : HE c N M g) : N (128 * g + 14) (-2) = 4 := h.2.2.2.2.2.2.2.2.2.2.2.2.2.2.2.2.2.2.1
theorem HE.rv {c : Int → Int} {N M : Mem} {g : Int} (h : HE c N M g) : N (128 * g + 3) 13 = c (128 * g + 15) := h.2.2.2.2.2.2.2.2.2.2.2.2.2.2.2.2.2.2.2.1
theorem HE.tv {c : Int → Int} {N M : Mem} {g : Int} (h : HE c N M g) : N (128 * g + 15) (-1) = 20 := h.2.2.2.2.2.2.2.2.2.2.2.2.2.2.2.2.2.2.2.2.1
theorem HE.lv {c : Int → Int} {N M : Mem} {g : Int} (h : HE c N M g) : N (128 * g + 15) (-2) = 4 := h.2.2.2.2.2.2.2.2.2.2.2.2.2.2.2.2.2.2.2.2.2.1
theorem HE.rs {c : Int → Int} {N M : Mem} {g : Int} (h : HE c N M g) : N (128 * g + 3) 15 = c (128 * g + 16) := h.2.2.2.2.2.2.2.2.2.2.2.2.2.2.2.2.2.2.2.2.2.2.1
theorem HE.ts {c : Int → Int} {N M : Mem} {g : Int} (h : HE c N M g) : N (128 * g + 16) (-1) = 37 := h.2.2.2.2.2.2.2.2.2.2.2.2.2.2.2.2.2.2.2.2.2.2.2.1
theorem HE.ls {c : Int → Int} {N M : Mem} {g : Int} (h : HE c N M g) : N (128 * g + 16) (-2) = 3 := h.2.2.2.2.2.2.2.2.2.2.2.2.2.2.2.2.2.2.2.2.2.2.2.2.1
theorem HE.nm {c : Int → Int} {N M : Mem} {g : Int} (h : HE c N M g) : NR M (N (128 * g + 3) 0) (M 13 g) := h.2.2.2.2.2.2.2.2.2.2.2.2.2.2.2.2.2.2.2.2.2.2.2.2.2.1
theorem HE.nc {c : Int → Int} {N M : Mem} {g : Int} (h : HE c N M g) : N (128 * g + 3) 4 = M 14 g := h.2.2.2.2.2.2.2.2.2.2.2.2.2.2.2.2.2.2.2.2.2.2.2.2.2.2.1
theorem HE.nc0 {c : Int → Int} {N M : Mem} {g : Int} (h : HE c N M g) : 0 ≤ M 14 g := h.2.2.2.2.2.2.2.2.2.2.2.2.2.2.2.2.2.2.2.2.2.2.2.2.2.2.2.1
theorem HE.nc1 {c : Int → Int} {N M : Mem} {g : Int} (h : HE c N M g) : M 14 g ≤ 24 := h.2.2.2.2.2.2.2.2.2.2.2.2.2.2.2.2.2.2.2.2.2.2.2.2.2.2.2.2.1
theorem HE.nt {c : Int → Int} {N M : Mem} {g : Int} (h : HE c N M g) : N (128 * g + 3) 8 = M 15 g := h.2.2.2.2.2.2.2.2.2.2.2.2.2.2.2.2.2.2.2.2.2.2.2.2.2.2.2.2.2.1
theorem HE.nt0 {c : Int → Int} {N M : Mem} {g : Int} (h : HE c N M g) : 0 ≤ M 15 g := h.2.2.2.2.2.2.2.2.2.2.2.2.2.2.2.2.2.2.2.2.2.2.2.2.2.2.2.2.2.2.1
theorem HE.nt1 {c : Int → Int} {N M : Mem} {g : Int} (h : HE c N M g) : M 15 g ≤ 4 := h.2.2.2.2.2.2.2.2.2.2.2.2.2.2.2.2.2.2.2.2.2.2.2.2.2.2.2.2.2.2.2.1
theorem HE.nk {c : Int → Int} {N M : Mem} {g : Int} (h : HE c N M g) : N (128 * g + 3) 10 = M 16 g := h.2.2.2.2.2.2.2.2.2.2.2.2.2.2.2.2.2.2.2.2.2.2.2.2.2.2.2.2.2.2.2.2.1
theorem HE.nk0 {c : Int → Int} {N M : Mem} {g : Int} (h : HE c N M g) : 0 ≤ M 16 g := h.2.2.2.2.2.2.2.2.2.2.2.2.2.2.2.2.2.2.2.2.2.2.2.2.2.2.2.2.2.2.2.2.2.1
theorem HE.nk1 {c : Int → Int} {N M : Mem} {g : Int} (h : HE c N M g) : M 16 g ≤ 3 := h.2.2.2.2.2.2.2.2.2.2.2.2.2.2.2.2.2.2.2.2.2.2.2.2.2.2.2.2.2.2.2.2.2.2.1
theorem HE.nh {c : Int → Int} {N M : Mem} {g : Int} (h : HE c N M g) : N (128 * g + 3) 14 = M 17 g := h.2.2.2.2.2.2.2.2.2.2.2.2.2.2.2.2.2.2.2.2.2.2.2.2.2.2.2.2.2.2.2.2.2.2.2.1
theorem HE.nh0 {c : Int → Int} {N M : Mem} {g : Int} (h : HE c N M g) : 0 ≤ M 17 g := h.2.2.2.2.2.2.2.2.2.2.2.2.2.2.2.2.2.2.2.2.2.2.2.2.2.2.2.2.2.2.2.2.2.2.2.2.1
theorem HE.nh1 {c : Int → Int} {N M : Mem} {g : Int} (h : HE c N M g) : M 17 g ≤ 4 := h.2.2.2.2.2.2.2.2.2.2.2.2.2.2.2.2.2.2.2.2.2.2.2.2.2.2.2.2.2.2.2.2.2.2.2.2.2.1
theorem HE.nw {c : Int → Int} {N M : Mem} {g : Int} (h : HE c N M g) : N (128 * g + 3) 16 = M 18 g := h.2.2.2.2.2.2.2.2.2.2.2.2.2.2.2.2.2.2.2.2.2.2.2.2.2.2.2.2.2.2.2.2.2.2.2.2.2.2.1
theorem HE.nw0 {c : Int → Int} {N M : Mem} {g : Int} (h : HE c N M g) : 0 ≤ M 18 g := h.2.2.2.2.2.2.2.2.2.2.2.2.2.2.2.2.2.2.2.2.2.2.2.2.2.2.2.2.2.2.2.2.2.2.2.2.2.2.2.1
theorem HE.nw1 {c : Int → Int} {N M : Mem} {g : Int} (h : HE c N M g) : M 18 g ≤ 3 := h.2.2.2.2.2.2.2.2.2.2.2.2.2.2.2.2.2.2.2.2.2.2.2.2.2.2.2.2.2.2.2.2.2.2.2.2.2.2.2.2.1
theorem HE.md {c : Int → Int} {N M : Mem} {g : Int} (h : HE c N M g) : N (128 * g + 3) 5 = 0 := h.2.2.2.2.2.2.2.2.2.2.2.2.2.2.2.2.2.2.2.2.2.2.2.2.2.2.2.2.2.2.2.2.2.2.2.2.2.2.2.2.2.1
theorem HE.ci {c : Int → Int} {N M : Mem} {g : Int} (h : HE c N M g) : ∀ i, 0 ≤ i → i < M 14 g → N (128 * g + 4) i = c (128 * (24 * g + i) + 5) ∧ N (128 * (24 * g + i) + 5) (-1) = 3 := h.2.2.2.2.2.2.2.2.2.2.2.2.2.2.2.2.2.2.2.2.2.2.2.2.2.2.2.2.2.2.2.2.2.2.2.2.2.2.2.2.2.2.1
theorem HE.ti {c : Int → Int} {N M : Mem} {g : Int} (h : HE c N M g) : ∀ i, 0 ≤ i → i < M 15 g → N (128 * g + 8) i = c (128 * (4 * g + i) + 9) ∧ N (128 * (4 * g + i) + 9) (-1) = 9 := h.2.2.2.2.2.2.2.2.2.2.2.2.2.2.2.2.2.2.2.2.2.2.2.2.2.2.2.2.2.2.2.2.2.2.2.2.2.2.2.2.2.2.2.1
theorem HE.si {c : Int → Int} {N M : Mem} {g : Int} (h : HE c N M g) : ∀ i, 0 ≤ i → i < M 18 g → N (128 * g + 16) i = c (128 * (3 * g + i) + 17) ∧ N (128 * (3 * g + i) + 17) (-1) = 8 := h.2.2.2.2.2.2.2.2.2.2.2.2.2.2.2.2.2.2.2.2.2.2.2.2.2.2.2.2.2.2.2.2.2.2.2.2.2.2.2.2.2.2.2.2
def HB (c : Int → Int) (N M : Mem) (b : Int) : Prop := (N 50 3 = c (128 * b + 1)) ∧ (N (128 * b + 1) (-1) = 1) ∧ (N (128 * b + 1) 0 = c (128 * b + 2)) ∧ (N (128 * b + 2) (-1) = 33) ∧ (N (128 * b + 2) (-2) = 12) ∧ (N (128 * b + 1) 1 = M 10 b) ∧ (0 ≤ M 10 b) ∧ (M 10 b ≤ 12) ∧ (N (128 * b + 1) 2 = M 11 b) ∧ (0 ≤ M 11 b) ∧ (M 11 b ≤ 4) ∧ (N (128 * b + 1) 6 = 0) ∧ (N (128 * b + 1) 9 = 0) ∧ (∀ i, 0 ≤ i → i < M 10 b → N (128 * b + 2) i = c (128 * (12 * b + i) + 3) ∧ N (128 * (12 * b + i) + 3) (-1) = 4) ∧ (∀ i, 0 ≤ i → i < M 11 b → NR M (N 51 i) (M 12 (4 * b + i)))
theorem HB.r3 {c : Int → Int} {N M : Mem} {b : Int} (h : HB c N M b) : N 50 3 = c (128 * b + 1) := h.1
theorem HB.tg {c : Int → Int} {N M : Mem} {b : Int} (h : HB c N M b) : N (128 * b + 1) (-1) = 1 := h.2.1
theorem HB.re {c : Int → Int} {N M : Mem} {b : Int} (h : HB c N M b) : N (128 * b + 1) 0 = c (128 * b + 2) := h.2.2.1
theorem HB.te {c : Int → Int} {N M : Mem} {b : Int} (h : HB c N M b) : N (128 * b + 2) (-1) = 33 := h.2.2.2.1
theorem HB.le {c : Int → Int} {N M : Mem} {b : Int} (h : HB c N M b) : N (128 * b + 2) (-2) = 12 := h.2.2.2.2.1
theorem HB.ne {c : Int → Int} {N M : Mem} {b : Int} (h : HB c N M b) : N (128 * b + 1) 1 = M 10 b := h.2.2.2.2.2.1
theorem HB.ne0 {c : Int → Int} {N M : Mem} {b : Int} (h : HB c N M b) : 0 ≤ M 10 b := h.2.2.2.2.2.2.1
theorem HB.ne1 {c : Int → Int} {N M : Mem} {b : Int} (h : HB c N M b) : M 10 b ≤ 12 := h.2.2.2.2.2.2.2.1
theorem HB.na {c : Int → Int} {N M : Mem} {b : Int} (h : HB c N M b) : N (128 * b + 1) 2 = M 11 b := h.2.2.2.2.2.2.2.2.1
theorem HB.na0 {c : Int → Int} {N M : Mem} {b : Int} (h : HB c N M b) : 0 ≤ M 11 b := h.2.2.2.2.2.2.2.2.2.1
theorem HB.na1 {c : Int → Int} {N M : Mem} {b : Int} (h : HB c N M b) : M 11 b ≤ 4 := h.2.2.2.2.2.2.2.2.2.2.1
theorem HB.z6 {c : Int → Int} {N M : Mem} {b : Int} (h : HB c N M b) : N (128 * b + 1) 6 = 0 := h.2.2.2.2.2.2.2.2.2.2.2.1
theorem HB.z9 {c : Int → Int} {N M : Mem} {b : Int} (h : HB c N M b) : N (128 * b + 1) 9 = 0 := h.2.2.2.2.2.2.2.2.2.2.2.2.1
theorem HB.ei {c : Int → Int} {N M : Mem} {b : Int} (h : HB c N M b) : ∀ i, 0 ≤ i → i < M 10 b → N (128 * b + 2) i = c (128 * (12 * b + i) + 3) ∧ N (128 * (12 * b + i) + 3) (-1) = 4 := h.2.2.2.2.2.2.2.2.2.2.2.2.2.1
theorem HB.an {c : Int → Int} {N M : Mem} {b : Int} (h : HB c N M b) : ∀ i, 0 ≤ i → i < M 11 b → NR M (N 51 i) (M 12 (4 * b + i)) := h.2.2.2.2.2.2.2.2.2.2.2.2.2.2
def ENs (N M : Mem) (g : Int) : Prop := (∀ i, 0 ≤ i → i < M 14 g → NR M (cnm N g i) (M 20 (24 * g + i))) ∧ (∀ i, 0 ≤ i → i < M 15 g → NR M (tnm N g i) (M 23 (4 * g + i))) ∧ (∀ i, 0 ≤ i → i < M 17 g → NR M (N (128 * g + 13) i) (M 27 (4 * g + i))) ∧ (∀ i, 0 ≤ i → i < M 18 g → NR M (snm N g i) (M 29 (3 * g + i)))
def KNP (N M : Mem) (g v : Int) : Prop := 0 ≤ fdx (cnm N g) v (M 14 g).toNat 0 ∨ 0 ≤ fdx (tnm N g) v (M 15 g).toNat 0 ∨ 0 ≤ fdx (N (128 * g + 13)) v (M 17 g).toNat 0 ∨ 0 ≤ fdx (snm N g) v (M 18 g).toNat 0
section KNW
variable {l : Launch} {G : GT} {c : Int → Int} {S : Sh} {V N M : Mem} {Q : Int → Sh → Mem → Prop} {d mc ms : Nat} {g v : Int}
theorem ct_knows (hW : Wv c S V = N) (h : HE c N M g) (hd : 1 ≤ d) (h1 : KNP N M g v → Q 1 S V) (h0 : ¬ KNP N M g v → Q 0 S V) : Ct l G bX3_knows Q d mc ms [vr (c (128 * g + 3)), vl v] S V := by
  have tg : S.1 (c (128 * g + 3)) = 4 := ((Wr hW).2.1 _).trans h.tg
  unfold KNP at h1 h0
  refine qX3_knows fun _ _ => vX3_knows_0 ⟨tg, CT.pu hd (fun d1 hd1 => ct_fC hW h.tg h.nc h.rc h.tc h.lc h.nc1 h.ci ⟨rfl, rfl, fun y => h1 (Or.inl y), fun y1 => ⟨tg, CT.pu hd (fun d1 hd1 => ct_fT hW h.tg h.nt h.rt h.tt h.lt h.nt1 h.ti ⟨rfl, rfl, fun y => h1 (Or.inr (Or.inl y)), fun y2 => ⟨tg, CT.pu hd (fun d1 hd1 => ct_fH hW h.tg h.nh h.rn h.tn h.ln h.nh1 ⟨rfl, rfl, fun y => h1 (Or.inr (Or.inr (Or.inl y))), fun y3 => ⟨tg, CT.pu hd (fun d1 hd1 => ct_fS hW h.tg h.nw h.rs h.ts h.ls h.nw1 h.si ⟨rfl, rfl, fun y => h0 (by omega), fun y => h1 (by omega)⟩)⟩⟩)⟩⟩)⟩⟩)⟩
end KNW
section TLS
variable {e : Nat} {M N : Mem} {Q : Int → Mem → Prop} {g v nm : Int}
theorem tl_19 (h41 : M 0 41 = g) (g0 : 0 ≤ g) (g1 : g < 120) (n1 : M 14 g ≤ 24) (h : ∀ i, 0 ≤ i → i < M 14 g → NR M (cnm N g i) (M 20 (24 * g + i))) (hv : NR M v nm) : ∀ (r : Nat) (i x2 : Int), (M 14 g - i).toNat = r → 0 ≤ i → x2 = 0 ∨ x2 = 1 → PM (e + 2) n_tells_72 [nm, if x2 = 1 ∨ 0 ≤ fdx (cnm N g) v r i then 1 else 0, 0] M Q → PM (e + 2) n_tells_19 [nm, x2, i] M Q := by
  intro r
  induction r with
  | zero =>
    intro i x2 hr i0 hx hq
    have e1 : (if x2 = 1 ∨ 0 ≤ fdx (cnm N g) v 0 i then (1 : Int) else 0) = x2 := by
      have : ¬ 0 ≤ fdx (cnm N g) v 0 i := by show ¬ (0 : Int) ≤ -1; decide
      rcases hx with rfl | rfl
      · rw [if_neg (by omega)]
      · rw [if_pos (Or.inl rfl)]
    rw [e1] at hq
    refine st_tells_19 ?_
    unfold B_tells_19
    rw [h41]
    exact ⟨g0, g1, fun _ => hq, fun y => absurd (by omega) y⟩
  | succ r ih =>
    intro i x2 hr i0 hx hq
    have fr := fdx_rng (f := cnm N g) (v := v) r (i + 1) (by omega)
    rw [fdx_s] at hq
    refine st_tells_19 ?_
    unfold B_tells_19
    rw [h41]
    refine ⟨g0, g1, fun y => absurd y (by omega), fun _ => ⟨fun y => ⟨by omega, by omega, ih (i + 1) 1 (by omega) (by omega) (Or.inr rfl) ?_⟩, fun y => ⟨by omega, by omega, by omega, by omega, by omega, by omega, rn_same (e := e + 1) hv (h i i0 (by omega)) (by omega) _ ?_⟩⟩⟩
    · rw [if_pos (Or.inl (by omega))] at hq
      rw [if_pos (Or.inl rfl)]
      exact hq
    · by_cases z : cnm N g i = v
      · rw [if_pos z, if_pos (Or.inr i0)] at hq
        rw [if_pos z.symm]
        refine ⟨fun w => absurd w (by decide), fun _ => ⟨by omega, by omega, ih (i + 1) 1 (by omega) (by omega) (Or.inr rfl) ?_⟩⟩
        rw [if_pos (Or.inl rfl)]
        exact hq
      · rw [if_neg z] at hq
        rw [if_neg (fun w => z w.symm)]
        refine ⟨fun _ => ⟨by omega, by omega, ih (i + 1) 0 (by omega) (by omega) (Or.inl rfl) ?_⟩, fun w => absurd rfl w⟩
        have : x2 = 0 := by omega
        subst this
        exact hq
theorem tl_72 (h41 : M 0 41 = g) (g0 : 0 ≤ g) (g1 : g < 120) (n1 : M 15 g ≤ 4) (h : ∀ i, 0 ≤ i → i < M 15 g → NR M (tnm N g i) (M 23 (4 * g + i))) (hv : NR M v nm) : ∀ (r : Nat) (i x2 : Int), (M 15 g - i).toNat = r → 0 ≤ i → x2 = 0 ∨ x2 = 1 → PM (e + 2) n_tells_124 [nm, if x2 = 1 ∨ 0 ≤ fdx (tnm N g) v r i then 1 else 0, 0] M Q → PM (e + 2) n_tells_72 [nm, x2, i] M Q := by
  intro r
  induction r with
  | zero =>
    intro i x2 hr i0 hx hq
    have e1 : (if x2 = 1 ∨ 0 ≤ fdx (tnm N g) v 0 i then (1 : Int) else 0) = x2 := by
      have : ¬ 0 ≤ fdx (tnm N g) v 0 i := by show ¬ (0 : Int) ≤ -1; decide
      rcases hx with rfl | rfl
      · rw [if_neg (by omega)]
      · rw [if_pos (Or.inl rfl)]
    rw [e1] at hq
    refine st_tells_72 ?_
    unfold B_tells_72
    rw [h41]
    exact ⟨g0, g1, fun _ => hq, fun y => absurd (by omega) y⟩
  | succ r ih =>
    intro i x2 hr i0 hx hq
    have fr := fdx_rng (f := tnm N g) (v := v) r (i + 1) (by omega)
    rw [fdx_s] at hq
    refine st_tells_72 ?_
    unfold B_tells_72
    rw [h41]
    refine ⟨g0, g1, fun y => absurd y (by omega), fun _ => ⟨fun y => ⟨by omega, by omega, ih (i + 1) 1 (by omega) (by omega) (Or.inr rfl) ?_⟩, fun y => ⟨by omega, by omega, by omega, by omega, by omega, by omega, rn_same (e := e + 1) hv (h i i0 (by omega)) (by omega) _ ?_⟩⟩⟩
    · rw [if_pos (Or.inl (by omega))] at hq
      rw [if_pos (Or.inl rfl)]
      exact hq
    · by_cases z : tnm N g i = v
      · rw [if_pos z, if_pos (Or.inr i0)] at hq
        rw [if_pos z.symm]
        refine ⟨fun w => absurd w (by decide), fun _ => ⟨by omega, by omega, ih (i + 1) 1 (by omega) (by omega) (Or.inr rfl) ?_⟩⟩
        rw [if_pos (Or.inl rfl)]
        exact hq
      · rw [if_neg z] at hq
        rw [if_neg (fun w => z w.symm)]
        refine ⟨fun _ => ⟨by omega, by omega, ih (i + 1) 0 (by omega) (by omega) (Or.inl rfl) ?_⟩, fun w => absurd rfl w⟩
        have : x2 = 0 := by omega
        subst this
        exact hq
theorem tl_124 (h41 : M 0 41 = g) (g0 : 0 ≤ g) (g1 : g < 120) (n1 : M 17 g ≤ 4) (h : ∀ i, 0 ≤ i → i < M 17 g → NR M (N (128 * g + 13) i) (M 27 (4 * g + i))) (hv : NR M v nm) : ∀ (r : Nat) (i x2 : Int), (M 17 g - i).toNat = r → 0 ≤ i → x2 = 0 ∨ x2 = 1 → PM (e + 2) n_tells_176 [nm, if x2 = 1 ∨ 0 ≤ fdx (N (128 * g + 13)) v r i then 1 else 0, 0] M Q → PM (e + 2) n_tells_124 [nm, x2, i] M Q := by
  intro r
  induction r with
  | zero =>
    intro i x2 hr i0 hx hq
    have e1 : (if x2 = 1 ∨ 0 ≤ fdx (N (128 * g + 13)) v 0 i then (1 : Int) else 0) = x2 := by
      have : ¬ 0 ≤ fdx (N (128 * g + 13)) v 0 i := by show ¬ (0 : Int) ≤ -1; decide
      rcases hx with rfl | rfl
      · rw [if_neg (by omega)]
      · rw [if_pos (Or.inl rfl)]
    rw [e1] at hq
    refine st_tells_124 ?_
    unfold B_tells_124
    rw [h41]
    exact ⟨g0, g1, fun _ => hq, fun y => absurd (by omega) y⟩
  | succ r ih =>
    intro i x2 hr i0 hx hq
    have fr := fdx_rng (f := N (128 * g + 13)) (v := v) r (i + 1) (by omega)
    rw [fdx_s] at hq
    refine st_tells_124 ?_
    unfold B_tells_124
    rw [h41]
    refine ⟨g0, g1, fun y => absurd y (by omega), fun _ => ⟨fun y => ⟨by omega, by omega, ih (i + 1) 1 (by omega) (by omega) (Or.inr rfl) ?_⟩, fun y => ⟨by omega, by omega, by omega, by omega, by omega, by omega, rn_same (e := e + 1) hv (h i i0 (by omega)) (by omega) _ ?_⟩⟩⟩
    · rw [if_pos (Or.inl (by omega))] at hq
      rw [if_pos (Or.inl rfl)]
      exact hq
    · by_cases z : N (128 * g + 13) i = v
      · rw [if_pos z, if_pos (Or.inr i0)] at hq
        rw [if_pos z.symm]
        refine ⟨fun w => absurd w (by decide), fun _ => ⟨by omega, by omega, ih (i + 1) 1 (by omega) (by omega) (Or.inr rfl) ?_⟩⟩
        rw [if_pos (Or.inl rfl)]
        exact hq
      · rw [if_neg z] at hq
        rw [if_neg (fun w => z w.symm)]
        refine ⟨fun _ => ⟨by omega, by omega, ih (i + 1) 0 (by omega) (by omega) (Or.inl rfl) ?_⟩, fun w => absurd rfl w⟩
        have : x2 = 0 := by omega
        subst this
        exact hq
theorem tl_176 (h41 : M 0 41 = g) (g0 : 0 ≤ g) (g1 : g < 120) (n1 : M 18 g ≤ 3) (h : ∀ i, 0 ≤ i → i < M 18 g → NR M (snm N g i) (M 29 (3 * g + i))) (hv : NR M v nm) : ∀ (r : Nat) (i x2 : Int), (M 18 g - i).toNat = r → 0 ≤ i → x2 = 0 ∨ x2 = 1 → Q (if x2 = 1 ∨ 0 ≤ fdx (snm N g) v r i then 1 else 0) M → PM (e + 2) n_tells_176 [nm, x2, i] M Q := by
  intro r
  induction r with
  | zero =>
    intro i x2 hr i0 hx hq
    have e1 : (if x2 = 1 ∨ 0 ≤ fdx (snm N g) v 0 i then (1 : Int) else 0) = x2 := by
      have : ¬ 0 ≤ fdx (snm N g) v 0 i := by show ¬ (0 : Int) ≤ -1; decide
      rcases hx with rfl | rfl
      · rw [if_neg (by omega)]
      · rw [if_pos (Or.inl rfl)]
    rw [e1] at hq
    refine st_tells_176 ?_
    unfold B_tells_176
    rw [h41]
    exact ⟨g0, g1, fun _ => ⟨hx, hq⟩, fun y => absurd (by omega) y⟩
  | succ r ih =>
    intro i x2 hr i0 hx hq
    have fr := fdx_rng (f := snm N g) (v := v) r (i + 1) (by omega)
    rw [fdx_s] at hq
    refine st_tells_176 ?_
    unfold B_tells_176
    rw [h41]
    refine ⟨g0, g1, fun y => absurd y (by omega), fun _ => ⟨fun y => ⟨by omega, by omega, ih (i + 1) 1 (by omega) (by omega) (Or.inr rfl) ?_⟩, fun y => ⟨by omega, by omega, by omega, by omega, by omega, by omega, rn_same (e := e + 1) hv (h i i0 (by omega)) (by omega) _ ?_⟩⟩⟩
    · rw [if_pos (Or.inl (by omega))] at hq
      rw [if_pos (Or.inl rfl)]
      exact hq
    · by_cases z : snm N g i = v
      · rw [if_pos z, if_pos (Or.inr i0)] at hq
        rw [if_pos z.symm]
        refine ⟨fun w => absurd w (by decide), fun _ => ⟨by omega, by omega, ih (i + 1) 1 (by omega) (by omega) (Or.inr rfl) ?_⟩⟩
        rw [if_pos (Or.inl rfl)]
        exact hq
      · rw [if_neg z] at hq
        rw [if_neg (fun w => z w.symm)]
        refine ⟨fun _ => ⟨by omega, by omega, ih (i + 1) 0 (by omega) (by omega) (Or.inl rfl) ?_⟩, fun w => absurd rfl w⟩
        have : x2 = 0 := by omega
        subst this
        exact hq
theorem rn_tells {c : Int → Int} {K P W E : Int → Int} {nt j b : Int} (ts : TS c N M K P W E nt j) (h41 : M 0 41 = g) (g0 : 0 ≤ g) (g1 : g < 120) (n14 : M 14 g ≤ 24) (n15 : M 15 g ≤ 4) (n17 : M 17 g ≤ 4) (n18 : M 18 g ≤ 3) (h : ENs N M g) (h9 : M 0 9 = b) (b0 : 0 ≤ b) (b1 : b < 10) (hv : 3 ≤ K j → K j ≤ 15 → NR M (W j) (nmv P E b j)) (he : 4 ≤ e) : ∃ z, RunM e n_tells_0 [] M z M ∧ (K j = 3 → (KNP N M g (W j) → z = 1) ∧ (¬ KNP N M g (W j) → z = 0)) := by
  have t := ts.t1
  have rk := (rkd_w t.rg).1
  obtain ⟨e', rfl⟩ : ∃ e', e = e' + 2 := ⟨e - 2, by omega⟩
  by_cases y : 3 ≤ K j ∧ K j ≤ 15
  · have m3 : M 0 3 = 2 := by rw [t.k3, rk]; exact y
    have nv := hv y.1 y.2
    have c01 : ∀ p : Prop, ∀ _ : Decidable p, (if p then (1 : Int) else 0) = 0 ∨ (if p then (1 : Int) else 0) = 1 := fun p _ => by split <;> simp
    refine ⟨_, fun Q hq => st_tells_0 ⟨fun _ => ts.nh h9 b0 b1 (by omega) _ (tl_19 h41 g0 g1 n14 h.1 nv _ 0 0 rfl (by decide) (Or.inl rfl) (tl_72 h41 g0 g1 n15 h.2.1 nv _ 0 _ rfl (by decide) (c01 _ _) (tl_124 h41 g0 g1 n17 h.2.2.1 nv _ 0 _ rfl (by decide) (c01 _ _) (tl_176 h41 g0 g1 n18 h.2.2.2 nv _ 0 _ rfl (by decide) (c01 _ _) hq)))), fun z => absurd m3 z⟩, fun k3 => ⟨fun q => ?_, fun q => ?_⟩⟩
    · unfold KNP at q
      simp only [Int.sub_zero]
      repeat' split
      all_goals first | rfl | (exfalso; omega)
    · unfold KNP at q
      simp only [Int.sub_zero]
      repeat' split
      all_goals first | rfl | (exfalso; omega)
  · exact ⟨0, fun Q hq => st_tells_0 ⟨fun z => absurd (rk.1 (by rw [← t.k3]; exact z)) y, fun _ => hq⟩, fun k3 => absurd ⟨by omega, by omega⟩ y⟩
end TLS
section ANW
variable {l : Launch} {G : GT} {c : Int → Int} {S : Sh} {V N M : Mem} {Q : Int → Sh → Mem → Prop} {d mc ms e : Nat} {K P W E : Int → Int} {nt j b : Int}
def nNn (N : Mem) (w : Int) : Mem := up N 50 9 w
theorem nNn_ne {w L i : Int} (h : ¬ (L = 50 ∧ i = 9)) : nNn N w L i = N L i := up_ne (by omega)
theorem TS.nn {w : Int} (h : TS c N M K P W E nt j) : TS c (nNn N w) M K P W E nt j := h.fr (fun _ _ => rfl) (fun L k q => nNn_ne (by unfold rdR at q; omega)) (fun _ _ => rfl) (fun _ => rfl)
theorem wv_nn {w : Int} (hc : Cn c S) (hW : Wv c S V = N) : Wv c S (up V (c 50) 9 w) = nNn N w := by rw [Wv_up hc (by decide), hW]; rfl
/-- a new name taken: the token passed -/
theorem ct_new1 (hc : Cn c S) (hW : Wv c S V = N) (h : TS c N M K P W E nt j) (k3 : K j = 3) (hd : 2 ≤ d) (he : 7 ≤ e) (hk : ∀ V' M', Wv c S V' = nPs (nNn N (W j)) (j + 1) (K (j + 1)) (W (j + 1)) → TS c (nPs (nNn N (W j)) (j + 1) (K (j + 1)) (W (j + 1))) M' K P W E nt (j + 1) → Lxs M M' → RunM e n_next_0 [] M 0 M' → Q 1 S V') : Ct l G bX5_acceptNew Q d mc ms [vr (c 50), vi 0, vi 1] S V := by
  obtain ⟨ya, yb, yc, yd, ye, yf, yg⟩ := h.x hW
  refine qX5_acceptNew fun _ _ _ => vX5_acceptNew_0 ?_
  rw [ya, yb]
  exact ⟨yf, fun _ => ⟨fun y => absurd rfl y, fun _ => ⟨fun y => absurd y (by decide), fun _ => ⟨fun _ => CT.im (by omega) (fun d1 hd1 => ct_pass (e := e) hc (wv_nn hc hW) h.nn (by omega) (by omega) he (fun V' M' a1 a2 a3 a4 => ⟨Or.inr rfl, hk V' M' a1 a2 a3 a4⟩)), fun y => absurd rfl y⟩⟩⟩, fun y => absurd k3 y⟩
/-- refused: no name, one told already, no room -/
theorem ct_new0 {kn rm f : Int} (hc : Cn c S) (hW : Wv c S V = N) (h : TS c N M K P W E nt j) (hf : (K j ≠ 3 ∧ f = 2) ∨ (K j = 3 ∧ kn ≠ 0 ∧ f = 3) ∨ (K j = 3 ∧ kn = 0 ∧ rm = 0 ∧ f = 5)) (hd : 1 ≤ d) (hk : ∀ V', (Wv c S V' = nFt N (if K j = 0 then 1 else f) (P j) ∨ Wv c S V' = nFt (nNn N (W j)) (if K j = 0 then 1 else f) (P j)) → Q 0 S V') : Ct l G bX5_acceptNew Q d mc ms [vr (c 50), vi kn, vi rm] S V := by
  obtain ⟨ya, yb, yc, yd, ye, yf, yg⟩ := h.x hW
  have p0 : ∀ x : Int, x = f → K j = 3 → CT l G bX5_pass d mc ms [vr (c 50), vi 0, vi x] S (up V (c 50) 9 (W j)) (fun z S' V' _ _ => (z = 0 ∨ z = 1) ∧ Q z S' V') := fun x hx _ => by
    subst hx
    exact CT.im hd (fun d1 hd1 => ct_pass0 hc (wv_nn hc hW) h.nn (fun V' a1 => ⟨Or.inl rfl, hk V' (Or.inr a1)⟩))
  refine qX5_acceptNew fun _ _ _ => vX5_acceptNew_0 ?_
  rw [ya, yb]
  refine ⟨yf, fun k3 => ⟨fun y => ⟨fun y2 => absurd y2 y, fun _ => p0 3 (by omega) k3⟩, fun y => ⟨fun y2 => ⟨fun _ => p0 5 (by omega) k3, fun y3 => absurd (by omega) y3⟩, fun y2 => absurd hf (by omega)⟩⟩, fun k3 => CT.im hd (fun d1 hd1 => ct_pass0 hc hW h (fun V' a1 => ⟨Or.inl rfl, hk V' (Or.inl ?_)⟩))⟩
  have : f = 2 := by omega
  rw [this]; exact a1
/-- a wanted token -/
theorem ct_acc1 {x : Int} (hc : Cn c S) (hW : Wv c S V = N) (h : TS c N M K P W E nt j) (k : K j = x) (k1 : x ≠ 1) (hd : 2 ≤ d) (he : 7 ≤ e) (hk : ∀ V' M', Wv c S V' = nPs N (j + 1) (K (j + 1)) (W (j + 1)) → TS c (nPs N (j + 1) (K (j + 1)) (W (j + 1))) M' K P W E nt (j + 1) → Lxs M M' → RunM e n_next_0 [] M 0 M' → Q 1 S V') : Ct l G bX5_accept Q d mc ms [vr (c 50), vi x] S V := by
  obtain ⟨ya, yb, yc, yd, ye, yf, yg⟩ := h.x hW
  refine qX5_accept fun _ _ => vX5_accept_0 ?_
  rw [ya]
  exact ⟨yf, fun y => absurd k y, fun _ => CT.im (by omega) (fun d1 hd1 => ct_pass (e := e) hc hW h (by omega) (by omega) he (fun V' M' a1 a2 a3 a4 => ⟨Or.inr rfl, hk V' M' a1 a2 a3 a4⟩))⟩
theorem ct_acc0 {x : Int} (hc : Cn c S) (hW : Wv c S V = N) (h : TS c N M K P W E nt j) (k : K j ≠ x) (hd : 1 ≤ d) (hk : ∀ V', Wv c S V' = nFt N (if K j = 0 then 1 else 2) (P j) → Q 0 S V') : Ct l G bX5_accept Q d mc ms [vr (c 50), vi x] S V := by
  obtain ⟨ya, yb, yc, yd, ye, yf, yg⟩ := h.x hW
  refine qX5_accept fun _ _ => vX5_accept_0 ?_
  rw [ya]
  exact ⟨yf, fun _ => CT.im (by omega) (fun d1 hd1 => ct_pass0 hc hW h (fun V' a1 => ⟨Or.inl rfl, hk V' a1⟩)), fun y => absurd k y⟩
/-- the reference's newName -/
theorem TS.new1 (h : TS c N M K P W E nt j) (k3 : K j = 3) (w0 : M 0 46 = 0) (h9 : M 0 9 = b) (b0 : 0 ≤ b) (b1 : b < 10) (he : 9 ≤ e) : RunM e n_newName_0 [0] M (nmv P E b j) M := by
  obtain ⟨e', rfl⟩ : ∃ e', e = e' + 1 := ⟨e - 1, by omega⟩
  exact fun Q hq => st_newName_0 ⟨fun _ => h.nm1 k3 (by omega) _ ⟨fun _ => ⟨fun _ => h.nh h9 b0 b1 (by omega) _ hq, fun y => absurd rfl y⟩, fun y => absurd (by decide) y⟩, fun y => absurd (by omega) y⟩
theorem TS.new0 {kn f : Int} (h : TS c N M K P W E nt j) (hf : (K j ≠ 3 ∧ f = 2) ∨ (K j = 3 ∧ kn ≠ 0 ∧ f = 3)) (w0 : M 0 46 = 0) (he : 9 ≤ e) : RunM e n_newName_0 [kn] M (-1) (mFt M (if K j = 0 then 1 else f) (P j)) := by
  obtain ⟨e', rfl⟩ : ∃ e', e = e' + 1 := ⟨e - 1, by omega⟩
  rcases hf with ⟨k3, rfl⟩ | ⟨k3, kn0, rfl⟩
  · exact fun Q hq => st_newName_0 ⟨fun _ => h.nm0 k3 (by omega) _ ⟨fun y => absurd rfl y, fun _ => h.ft w0 (by omega) _ hq⟩, fun y => absurd (by omega) y⟩
  · exact fun Q hq => st_newName_0 ⟨fun _ => h.nm1 k3 (by omega) _ ⟨fun _ => ⟨fun y => absurd y kn0, fun _ => h.ft w0 (by omega) _ hq⟩, fun y => absurd (by decide) y⟩, fun y => absurd (by omega) y⟩
/-- a word of the text is a name of the reference's -/
theorem TS.nr (h : TS c N M K P W E nt j) (b0 : 0 ≤ b) (b1 : b < 10) (tx : ∀ i, 0 ≤ i → i < M 0 2 → M 7 (3000 * b + i) = M 1 i) (k1 : 3 ≤ K j) (k2 : K j ≤ 15) : NR M (W j) (nmv P E b j) ∧ nmv P E b j / 16 + nmv P E b j % 16 ≤ 3000 * (b + 1) := by
  have t := h.t1
  have pl := t.pl
  have l3 := t.2.1
  obtain ⟨v0, v1, v2, v3, v4⟩ := t.wd k1 k2
  have q : nmv P E b j / 16 = 3000 * b + P j := by unfold nmv; omega
  have r : nmv P E b j % 16 = E j - P j := by unfold nmv; omega
  refine ⟨⟨by unfold nmv; omega, by rw [r]; omega, by rw [r]; omega, by rw [q, r]; omega, fun k a y => ?_, ?_⟩, by rw [q, r]; omega⟩
  · rw [q, show 3000 * b + P j + k = 3000 * b + (P j + k) from by omega, tx (P j + k) (by omega) (by rw [r] at y; omega)]
    exact v1 _ (by omega) (by rw [r] at y; omega)
  · rw [v4, q, r]
    refine pkd_cg _ (fun k a y => ?_)
    show rnk (M 1 (P j + k)) = rnk (M 7 (3000 * b + P j + k))
    rw [show 3000 * b + P j + k = 3000 * b + (P j + k) from by omega, tx (P j + k) (by omega) (by omega)]
end ANW
