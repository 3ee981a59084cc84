/-! ===== calls that change a little ===== -/
def bkk (k : Int) : Prop := k = 7 ∨ (10 ≤ k ∧ k ≤ 39) ∨ (52 ≤ k ∧ k ≤ 62)
theorem BkN.fr {N N' M M' gm : Mem} {b : Int} (h : BkN N M gm b) (n' : ∀ L j, L % 128 < 30 → N' L j = N L j) (hM : ∀ k j, bkk k → M' k j = M k j)(hx : M' 0 40 = M 0 40) : BkN N' M' gm b := by
  have m10 : ∀ j, M' 10 j = M 10 j := fun j => hM 10 j (by unfold bkk; omega)
  have m11 : ∀ j, M' 11 j = M 11 j := fun j => hM 11 j (by unfold bkk; omega)
  have m12 : ∀ j, M' 12 j = M 12 j := fun j => hM 12 j (by unfold bkk; omega)
  have m13 : ∀ j, M' 13 j = M 13 j := fun j => hM 13 j (by unfold bkk; omega)
  have m14 : ∀ j, M' 14 j = M 14 j := fun j => hM 14 j (by unfold bkk; omega)
  have m15 : ∀ j, M' 15 j = M 15 j := fun j => hM 15 j (by unfold bkk; omega)
  have m16 : ∀ j, M' 16 j = M 16 j := fun j => hM 16 j (by unfold bkk; omega)
  have m17 : ∀ j, M' 17 j = M 17 j := fun j => hM 17 j (by unfold bkk; omega)
  have m18 : ∀ j, M' 18 j = M 18 j := fun j => hM 18 j (by unfold bkk; omega)
  have m19 : ∀ j, M' 19 j = M 19 j := fun j => hM 19 j (by unfold bkk; omega)
  have m20 : ∀ j, M' 20 j = M 20 j := fun j => hM 20 j (by unfold bkk; omega)
  have m21 : ∀ j, M' 21 j = M 21 j := fun j => hM 21 j (by unfold bkk; omega)
  have m22 : ∀ j, M' 22 j = M 22 j := fun j => hM 22 j (by unfold bkk; omega)
  have m23 : ∀ j, M' 23 j = M 23 j := fun j => hM 23 j (by unfold bkk; omega)
  have m24 : ∀ j, M' 24 j = M 24 j := fun j => hM 24 j (by unfold bkk; omega)
  have m25 : ∀ j, M' 25 j = M 25 j := fun j => hM 25 j (by unfold bkk; omega)
  have m26 : ∀ j, M' 26 j = M 26 j := fun j => hM 26 j (by unfold bkk; omega)
  have m27 : ∀ j, M' 27 j = M 27 j := fun j => hM 27 j (by unfold bkk; omega)
  have m28 : ∀ j, M' 28 j = M 28 j := fun j => hM 28 j (by unfold bkk; omega)
  have m29 : ∀ j, M' 29 j = M 29 j := fun j => hM 29 j (by unfold bkk; omega)
  have m30 : ∀ j, M' 30 j = M 30 j := fun j => hM 30 j (by unfold bkk; omega)
  have m31 : ∀ j, M' 31 j = M 31 j := fun j => hM 31 j (by unfold bkk; omega)
  have m32 : ∀ j, M' 32 j = M 32 j := fun j => hM 32 j (by unfold bkk; omega)
  have m33 : ∀ j, M' 33 j = M 33 j := fun j => hM 33 j (by unfold bkk; omega)
  have m34 : ∀ j, M' 34 j = M 34 j := fun j => hM 34 j (by unfold bkk; omega)
  have m35 : ∀ j, M' 35 j = M 35 j := fun j => hM 35 j (by unfold bkk; omega)
  have m36 : ∀ j, M' 36 j = M 36 j := fun j => hM 36 j (by unfold bkk; omega)
  have m37 : ∀ j, M' 37 j = M 37 j := fun j => hM 37 j (by unfold bkk; omega)
  have m38 : ∀ j, M' 38 j = M 38 j := fun j => hM 38 j (by unfold bkk; omega)
  have m39 : ∀ j, M' 39 j = M 39 j := fun j => hM 39 j (by unfold bkk; omega)
  have m52 : ∀ j, M' 52 j = M 52 j := fun j => hM 52 j (by unfold bkk; omega)
  have m53 : ∀ j, M' 53 j = M 53 j := fun j => hM 53 j (by unfold bkk; omega)
  have m54 : ∀ j, M' 54 j = M 54 j := fun j => hM 54 j (by unfold bkk; omega)
  have m55 : ∀ j, M' 55 j = M 55 j := fun j => hM 55 j (by unfold bkk; omega)
  have m56 : ∀ j, M' 56 j = M 56 j := fun j => hM 56 j (by unfold bkk; omega)
  have m57 : ∀ j, M' 57 j = M 57 j := fun j => hM 57 j (by unfold bkk; omega)
  have m58 : ∀ j, M' 58 j = M 58 j := fun j => hM 58 j (by unfold bkk; omega)
  have m59 : ∀ j, M' 59 j = M 59 j := fun j => hM 59 j (by unfold bkk; omega)
  have m60 : ∀ j, M' 60 j = M 60 j := fun j => hM 60 j (by unfold bkk; omega)
  have m61 : ∀ j, M' 61 j = M 61 j := fun j => hM 61 j (by unfold bkk; omega)
  have m62 : ∀ j, M' 62 j = M 62 j := fun j => hM 62 j (by unfold bkk; omega)
  unfold BkN LCn LCk at *
  simp (disch := omega) only [n', hx, m10, m11, m12, m13, m14, m15, m16, m17, m18, m19, m20, m21, m22, m23, m24, m25, m26, m27, m28, m29, m30, m31, m32, m33, m34, m35, m36, m37, m38, m39, m52, m53, m54, m55, m56, m57, m58, m59, m60, m61, m62]
  exact h
theorem BkT.fr {N N' M M' gm : Mem} {b : Int} (h : BkT N M gm b) (n' : ∀ L j, L % 128 < 30 → N' L j = N L j) (hM : ∀ k j, bkk k → M' k j = M k j) : BkT N' M' gm b := by
  have m10 : ∀ j, M' 10 j = M 10 j := fun j => hM 10 j (by unfold bkk; omega)
  have m11 : ∀ j, M' 11 j = M 11 j := fun j => hM 11 j (by unfold bkk; omega)
  have m12 : ∀ j, M' 12 j = M 12 j := fun j => hM 12 j (by unfold bkk; omega)
  have m13 : ∀ j, M' 13 j = M 13 j := fun j => hM 13 j (by unfold bkk; omega)
  have m14 : ∀ j, M' 14 j = M 14 j := fun j => hM 14 j (by unfold bkk; omega)
  have m15 : ∀ j, M' 15 j = M 15 j := fun j => hM 15 j (by unfold bkk; omega)
  have m16 : ∀ j, M' 16 j = M 16 j := fun j => hM 16 j (by unfold bkk; omega)
  have m17 : ∀ j, M' 17 j = M 17 j := fun j => hM 17 j (by unfold bkk; omega)
  have m18 : ∀ j, M' 18 j = M 18 j := fun j => hM 18 j (by unfold bkk; omega)
  have m19 : ∀ j, M' 19 j = M 19 j := fun j => hM 19 j (by unfold bkk; omega)
  have m20 : ∀ j, M' 20 j = M 20 j := fun j => hM 20 j (by unfold bkk; omega)
  have m21 : ∀ j, M' 21 j = M 21 j := fun j => hM 21 j (by unfold bkk; omega)
  have m22 : ∀ j, M' 22 j = M 22 j := fun j => hM 22 j (by unfold bkk; omega)
  have m23 : ∀ j, M' 23 j = M 23 j := fun j => hM 23 j (by unfold bkk; omega)
  have m24 : ∀ j, M' 24 j = M 24 j := fun j => hM 24 j (by unfold bkk; omega)
  have m25 : ∀ j, M' 25 j = M 25 j := fun j => hM 25 j (by unfold bkk; omega)
  have m26 : ∀ j, M' 26 j = M 26 j := fun j => hM 26 j (by unfold bkk; omega)
  have m27 : ∀ j, M' 27 j = M 27 j := fun j => hM 27 j (by unfold bkk; omega)
  have m28 : ∀ j, M' 28 j = M 28 j := fun j => hM 28 j (by unfold bkk; omega)
  have m29 : ∀ j, M' 29 j = M 29 j := fun j => hM 29 j (by unfold bkk; omega)
  have m30 : ∀ j, M' 30 j = M 30 j := fun j => hM 30 j (by unfold bkk; omega)
  have m31 : ∀ j, M' 31 j = M 31 j := fun j => hM 31 j (by unfold bkk; omega)
  have m32 : ∀ j, M' 32 j = M 32 j := fun j => hM 32 j (by unfold bkk; omega)
  have m33 : ∀ j, M' 33 j = M 33 j := fun j => hM 33 j (by unfold bkk; omega)
  have m34 : ∀ j, M' 34 j = M 34 j := fun j => hM 34 j (by unfold bkk; omega)
  have m35 : ∀ j, M' 35 j = M 35 j := fun j => hM 35 j (by unfold bkk; omega)
  have m36 : ∀ j, M' 36 j = M 36 j := fun j => hM 36 j (by unfold bkk; omega)
  have m37 : ∀ j, M' 37 j = M 37 j := fun j => hM 37 j (by unfold bkk; omega)
  have m38 : ∀ j, M' 38 j = M 38 j := fun j => hM 38 j (by unfold bkk; omega)
  have m39 : ∀ j, M' 39 j = M 39 j := fun j => hM 39 j (by unfold bkk; omega)
  have m52 : ∀ j, M' 52 j = M 52 j := fun j => hM 52 j (by unfold bkk; omega)
  have m53 : ∀ j, M' 53 j = M 53 j := fun j => hM 53 j (by unfold bkk; omega)
  have m54 : ∀ j, M' 54 j = M 54 j := fun j => hM 54 j (by unfold bkk; omega)
  have m55 : ∀ j, M' 55 j = M 55 j := fun j => hM 55 j (by unfold bkk; omega)
  have m56 : ∀ j, M' 56 j = M 56 j := fun j => hM 56 j (by unfold bkk; omega)
  have m57 : ∀ j, M' 57 j = M 57 j := fun j => hM 57 j (by unfold bkk; omega)
  have m58 : ∀ j, M' 58 j = M 58 j := fun j => hM 58 j (by unfold bkk; omega)
  have m59 : ∀ j, M' 59 j = M 59 j := fun j => hM 59 j (by unfold bkk; omega)
  have m60 : ∀ j, M' 60 j = M 60 j := fun j => hM 60 j (by unfold bkk; omega)
  have m61 : ∀ j, M' 61 j = M 61 j := fun j => hM 61 j (by unfold bkk; omega)
  have m62 : ∀ j, M' 62 j = M 62 j := fun j => hM 62 j (by unfold bkk; omega)
  unfold BkT BkTe Rt at *
  simp (disch := omega) only [n', m10, m11, m12, m13, m14, m15, m16, m17, m18, m19, m20, m21, m22, m23, m24, m25, m26, m27, m28, m29, m30, m31, m32, m33, m34, m35, m36, m37, m38, m39, m52, m53, m54, m55, m56, m57, m58, m59, m60, m61, m62]
  exact h
theorem BkD.fr {N N' M M' gm : Mem} {U : Int → Int} {b : Int} (h : BkD N M gm U b) (n' : ∀ L j, L % 128 < 30 → N' L j = N L j) (hM : ∀ k j, bkk k → M' k j = M k j) : BkD N' M' gm U b := by
  have m10 : ∀ j, M' 10 j = M 10 j := fun j => hM 10 j (by unfold bkk; omega)
  have m11 : ∀ j, M' 11 j = M 11 j := fun j => hM 11 j (by unfold bkk; omega)
  have m12 : ∀ j, M' 12 j = M 12 j := fun j => hM 12 j (by unfold bkk; omega)
  have m13 : ∀ j, M' 13 j = M 13 j := fun j => hM 13 j (by unfold bkk; omega)
  have m14 : ∀ j, M' 14 j = M 14 j := fun j => hM 14 j (by unfold bkk; omega)
  have m15 : ∀ j, M' 15 j = M 15 j := fun j => hM 15 j (by unfold bkk; omega)
  have m16 : ∀ j, M' 16 j = M 16 j := fun j => hM 16 j (by unfold bkk; omega)
  have m17 : ∀ j, M' 17 j = M 17 j := fun j => hM 17 j (by unfold bkk; omega)
  have m18 : ∀ j, M' 18 j = M 18 j := fun j => hM 18 j (by unfold bkk; omega)
  have m19 : ∀ j, M' 19 j = M 19 j := fun j => hM 19 j (by unfold bkk; omega)
  have m20 : ∀ j, M' 20 j = M 20 j := fun j => hM 20 j (by unfold bkk; omega)
  have m21 : ∀ j, M' 21 j = M 21 j := fun j => hM 21 j (by unfold bkk; omega)
  have m22 : ∀ j, M' 22 j = M 22 j := fun j => hM 22 j (by unfold bkk; omega)
  have m23 : ∀ j, M' 23 j = M 23 j := fun j => hM 23 j (by unfold bkk; omega)
  have m24 : ∀ j, M' 24 j = M 24 j := fun j => hM 24 j (by unfold bkk; omega)
  have m25 : ∀ j, M' 25 j = M 25 j := fun j => hM 25 j (by unfold bkk; omega)
  have m26 : ∀ j, M' 26 j = M 26 j := fun j => hM 26 j (by unfold bkk; omega)
  have m27 : ∀ j, M' 27 j = M 27 j := fun j => hM 27 j (by unfold bkk; omega)
  have m28 : ∀ j, M' 28 j = M 28 j := fun j => hM 28 j (by unfold bkk; omega)
  have m29 : ∀ j, M' 29 j = M 29 j := fun j => hM 29 j (by unfold bkk; omega)
  have m30 : ∀ j, M' 30 j = M 30 j := fun j => hM 30 j (by unfold bkk; omega)
  have m31 : ∀ j, M' 31 j = M 31 j := fun j => hM 31 j (by unfold bkk; omega)
  have m32 : ∀ j, M' 32 j = M 32 j := fun j => hM 32 j (by unfold bkk; omega)
  have m33 : ∀ j, M' 33 j = M 33 j := fun j => hM 33 j (by unfold bkk; omega)
  have m34 : ∀ j, M' 34 j = M 34 j := fun j => hM 34 j (by unfold bkk; omega)
  have m35 : ∀ j, M' 35 j = M 35 j := fun j => hM 35 j (by unfold bkk; omega)
  have m36 : ∀ j, M' 36 j = M 36 j := fun j => hM 36 j (by unfold bkk; omega)
  have m37 : ∀ j, M' 37 j = M 37 j := fun j => hM 37 j (by unfold bkk; omega)
  have m38 : ∀ j, M' 38 j = M 38 j := fun j => hM 38 j (by unfold bkk; omega)
  have m39 : ∀ j, M' 39 j = M 39 j := fun j => hM 39 j (by unfold bkk; omega)
  have m52 : ∀ j, M' 52 j = M 52 j := fun j => hM 52 j (by unfold bkk; omega)
  have m53 : ∀ j, M' 53 j = M 53 j := fun j => hM 53 j (by unfold bkk; omega)
  have m54 : ∀ j, M' 54 j = M 54 j := fun j => hM 54 j (by unfold bkk; omega)
  have m55 : ∀ j, M' 55 j = M 55 j := fun j => hM 55 j (by unfold bkk; omega)
  have m56 : ∀ j, M' 56 j = M 56 j := fun j => hM 56 j (by unfold bkk; omega)
  have m57 : ∀ j, M' 57 j = M 57 j := fun j => hM 57 j (by unfold bkk; omega)
  have m58 : ∀ j, M' 58 j = M 58 j := fun j => hM 58 j (by unfold bkk; omega)
  have m59 : ∀ j, M' 59 j = M 59 j := fun j => hM 59 j (by unfold bkk; omega)
  have m60 : ∀ j, M' 60 j = M 60 j := fun j => hM 60 j (by unfold bkk; omega)
  have m61 : ∀ j, M' 61 j = M 61 j := fun j => hM 61 j (by unfold bkk; omega)
  have m62 : ∀ j, M' 62 j = M 62 j := fun j => hM 62 j (by unfold bkk; omega)
  unfold BkD at *
  simp (disch := omega) only [n', m10, m11, m12, m13, m14, m15, m16, m17, m18, m19, m20, m21, m22, m23, m24, m25, m26, m27, m28, m29, m30, m31, m32, m33, m34, m35, m36, m37, m38, m39, m52, m53, m54, m55, m56, m57, m58, m59, m60, m61, m62]
  exact h
theorem BkX.fr {N N' M M' : Mem} {b : Int} (h : BkX N M b) (n' : ∀ L j, L % 128 < 30 → N' L j = N L j) (hM : ∀ k j, bkk k → M' k j = M k j) (hx : M' 0 40 = M 0 40) : BkX N' M' b := by
  obtain ⟨gm, U, h1, h2, h3⟩ := h
  exact ⟨gm, U, h1.fr n' hM hx, h2.fr n' hM, h3.fr n' hM⟩
theorem BkH.fr {c c' : Int → Int} {N N' M M' : Mem} {b : Int} (h : BkH c N M b) (b0 : 0 ≤ b) (hN : ∀ L j, L % 128 < 30 ∨ L = 62 → N' L j = N L j) (hc : ∀ L, L % 128 < 30 → c' L = c L) (hM : ∀ k j, bkk k → M' k j = M k j) : BkH c' N' M' b := by
  have m10 : ∀ j, M' 10 j = M 10 j := fun j => hM 10 j (by unfold bkk; omega)
  have m14 : ∀ j, M' 14 j = M 14 j := fun j => hM 14 j (by unfold bkk; omega)
  have m15 : ∀ j, M' 15 j = M 15 j := fun j => hM 15 j (by unfold bkk; omega)
  have m18 : ∀ j, M' 18 j = M 18 j := fun j => hM 18 j (by unfold bkk; omega)
  refine ⟨?_, fun e e0 e1 => ?_⟩
  · apply Rbk.fr h.bk <;> intros <;> first | exact hN _ _ (by omega) | exact hM _ _ (by unfold bkk; omega) | exact hc _ (by omega)
  · rw [m10] at e1
    have k := h.be e0 e1
    refine ⟨?_, fun i i0 i1 => ?_, fun i i0 i1 => ?_, fun i i0 i1 => ?_⟩
    · apply Ren.fr k.en <;> intros <;> first | exact hN _ _ (by omega) | exact hM _ _ (by unfold bkk; omega) | exact hc _ (by omega) | exact funext fun _ => hM _ _ (by unfold bkk; omega)
    · rw [m14] at i1
      apply Rcn.fr (k.cn i0 i1) <;> intros <;> first | exact hN _ _ (by omega) | exact hM _ _ (by unfold bkk; omega) | exact hc _ (by omega) | exact funext fun _ => hM _ _ (by unfold bkk; omega)
    · rw [m15] at i1
      apply Rtb.fr (k.tb i0 i1) <;> intros <;> first | exact hN _ _ (by omega) | exact hM _ _ (by unfold bkk; omega) | exact hc _ (by omega)
    · rw [m18] at i1
      apply Rsw.fr (k.sw i0 i1) <;> intros <;> first | exact hN _ _ (by omega) | exact hM _ _ (by unfold bkk; omega) | exact hc _ (by omega)
theorem BkR.fr {c c' : Int → Int} {N N' M M' : Mem} {b : Int} (h : BkR c N M b) (b0 : 0 ≤ b) (hN : ∀ L j, L % 128 < 30 ∨ L = 62 → N' L j = N L j) (hc : ∀ L, L % 128 < 30 → c' L = c L) (hM : ∀ k j, bkk k → M' k j = M k j) (hx : M' 0 40 = M 0 40 := by first | rfl | exact up_ne (by omega) | exact (up_ne (by omega)).trans (up_ne (by omega))) : BkR c' N' M' b :=
  ⟨h.1.fr b0 hN hc hM, h.2.1.fr (fun L j q => hN L j (Or.inl q)) hM hx, fun i i0 i1 => by rw [hM 52 _ (by unfold bkk; omega)]; exact h.2.2 i i0 i1⟩

theorem MR.lab {m : Int} {a c : Int → Int} {S S' : Sh} {V V' M : Mem} (mr : MR m a S V M) (hm : c 80 = m) (ha : ∀ k, mt k ≠ 0 → c (128 * k + 81) = a k) (hS : ∀ L, L = 80 ∨ L % 128 = 81 → S'.1 (c L) = S.1 (c L) ∧ S'.2.1 (c L) = S.2.1 (c L)) (hV : ∀ L j, L = 80 ∨ L % 128 = 81 → V' (c L) j = V (c L) j) : MR m a S' V' M := by
  subst hm
  refine ⟨(hS 80 (by omega)).1.trans mr.1, fun k hk => (hV 80 k (by omega)).trans (mr.2.1 k hk), fun k hk => ?_, mr.2.2.2⟩
  obtain ⟨h1, h2, h3, h4⟩ := mr.2.2.1 k hk
  rw [← ha k hk] at h1 h2 h3 h4 ⊢
  have e := hS (128 * k + 81) (by omega)
  exact ⟨(hV 80 k (by omega)).trans h1, e.1.trans h2, e.2.trans h3, fun j => (hV _ j (by omega)).trans (h4 j)⟩
theorem call_upd {B : BT} {id : Nat} {cas : List AV} {as : List Int} (h : ∀ (l : Launch) (G : GT) (c : Int → Int) (S : Sh) (V M : Mem) (Q : Int → Sh → Mem → Prop), Cn c S → Rel c (Wv c S V) M → (∀ z V' M', RunM 2047 id as M z M' → (∀ L j, L = 80 ∨ L % 128 = 81 → V' (c L) j = V (c L) j) → Rel c (Wv c S V') M' → M' 0 2 ≤ M 0 2 + 2775 → Q z S V') → Ct l G B Q 2047 0 0 (vr (c 60) :: cas) S V) : CallOK CI B id cas as := by
  intro l G x m a S V M mr ci
  obtain ⟨c, hc, hx, hm, ha, hR⟩ := ci
  subst hx
  have e1 : V (c 60) 1 = M 0 2 := hR.top.vtl
  have e2 := hR.top.tl0
  refine ⟨0, 0, by decide, by omega, h l G c S V M _ hc hR (fun z V' M' hrun hV hR' ht => ?_)⟩
  have e3 : V' (c 60) 1 = M' 0 2 := hR'.top.vtl
  exact ⟨M', hrun, mr.lab hm ha (fun _ _ => ⟨rfl, rfl⟩) hV, ⟨c, hc, rfl, hm, ha, hR'⟩, by omega⟩
theorem upc_ne {c : Int → Int} {S : Sh} {V : Mem} {L L' j j' x : Int} (hc : Cn c S) (h : L' ≠ L ∨ j' ≠ j) : up V (c L) j x (c L') j' = V (c L') j' := up_ne (h.elim (fun q => Or.inl (fun e => q (hc.1 _ _ e))) Or.inr)

theorem Rel.cut {c : Int → Int} {N M : Mem} {n : Int} (h : Rel c N M) (n0 : 0 ≤ n) (n1 : n ≤ M 0 2) : Rel c (up N 60 1 n) (up M 0 2 n) := by
  have q := h.top
  have q1 := q.tl1
  refine ⟨?_, ?_, ?_, fun s s0 s1 => ?_, fun s s0 s1 => ?_, fun s s0 s1 => ?_, fun s s0 s1 => ?_, fun s s0 s1 => ?_⟩
  ·
    refine ⟨?_, ?_, ?_, ?_, ?_, ?_, ?_, ?_, ?_, ?_, ?_, ?_, ?_, ?_, ?_, ?_, ?_, ?_, ?_, ?_, ?_, ?_, ?_, ?_, ?_, ?_, ?_, ?_, ?_, ?_, ?_, ?_, ?_, ?_, ?_, ?_, ?_, ?_, ?_⟩
    · have w := q.g60
      try simp (disch := omega) only [up_eq, up_ne]
      exact w
    · have w := q.g61
      try simp (disch := omega) only [up_eq, up_ne]
      exact w
    · have w := q.n61
      try simp (disch := omega) only [up_eq, up_ne]
      exact w
    · have w := q.g62
      try simp (disch := omega) only [up_eq, up_ne]
      exact w
    · have w := q.n62
      try simp (disch := omega) only [up_eq, up_ne]
      exact w
    · have w := q.g63
      try simp (disch := omega) only [up_eq, up_ne]
      exact w
    · have w := q.n63
      try simp (disch := omega) only [up_eq, up_ne]
      exact w
    · have w := q.g64
      try simp (disch := omega) only [up_eq, up_ne]
      exact w
    · have w := q.n64
      try simp (disch := omega) only [up_eq, up_ne]
      exact w
    · have w := q.g65
      try simp (disch := omega) only [up_eq, up_ne]
      exact w
    · have w := q.n65
      try simp (disch := omega) only [up_eq, up_ne]
      exact w
    · have w := q.r0
      try simp (disch := omega) only [up_eq, up_ne]
      exact w
    · have w := q.r2
      try simp (disch := omega) only [up_eq, up_ne]
      exact w
    · have w := q.r3
      try simp (disch := omega) only [up_eq, up_ne]
      exact w
    · have w := q.r4
      try simp (disch := omega) only [up_eq, up_ne]
      exact w
    · have w := q.r5
      try simp (disch := omega) only [up_eq, up_ne]
      exact w
    · have w := q.r9
      try simp (disch := omega) only [up_eq, up_ne]
      exact w
    · have w := q.r11
      try simp (disch := omega) only [up_eq, up_ne]
      exact w
    · have w := q.r13
      try simp (disch := omega) only [up_eq, up_ne]
      exact w
    · have w := q.r15
      try simp (disch := omega) only [up_eq, up_ne]
      exact w
    · rw [up_eq, up_eq]
    · rw [up_eq]; exact n0
    · rw [up_eq]; omega
    · intro j j0 j1
      rw [up_eq] at j1
      rw [up_ne (by omega), up_ne (by omega)]
      exact q.tb j j0 (by omega)
    · intro j j0 j1
      rw [up_eq] at j1
      rw [up_ne (by omega)]
      exact q.tr j j0 (by omega)
    · have w := q.nb
      try simp (disch := omega) only [up_eq, up_ne]
      exact w
    · have w := q.nb0
      try simp (disch := omega) only [up_eq, up_ne]
      exact w
    · have w := q.nb1
      try simp (disch := omega) only [up_eq, up_ne]
      exact w
    · have w := q.lf
      try simp (disch := omega) only [up_eq, up_ne]
      exact w
    · have w := q.lo
      try simp (disch := omega) only [up_eq, up_ne]
      exact w
    · have w := q.ns
      try simp (disch := omega) only [up_eq, up_ne]
      exact w
    · have w := q.ns0
      try simp (disch := omega) only [up_eq, up_ne]
      exact w
    · have w := q.ns1
      try simp (disch := omega) only [up_eq, up_ne]
      exact w
    · have w := q.nm
      try simp (disch := omega) only [up_eq, up_ne]
      exact w
    · have w := q.nm0
      try simp (disch := omega) only [up_eq, up_ne]
      exact w
    · have w := q.nm1
      try simp (disch := omega) only [up_eq, up_ne]
      exact w
    · have w := q.ng
      try simp (disch := omega) only [up_eq, up_ne]
      exact w
    · have w := q.ng0
      try simp (disch := omega) only [up_eq, up_ne]
      exact w
    · refine ⟨?_, q.xe.fr (by simp (disch := omega) only [up_ne]) (by simp (disch := omega) only [up_ne]) (fun k j hk => by simp (disch := omega) only [up_ne])⟩
      have w := q.ng1
      try simp (disch := omega) only [up_eq, up_ne]
      exact w
  · apply Rwk.fr h.wk <;> intros <;> first | rfl | exact up_ne (by omega) | exact funext fun _ => up_ne (by omega)
  · apply Rrd.fr h.rd <;> intros <;> first | rfl | exact up_ne (by omega) | exact funext fun _ => up_ne (by omega)
  · rw [up_ne (by omega)] at s1
    apply Rst.fr (h.st s0 s1) <;> intros <;> first | rfl | exact up_ne (by omega) | exact funext fun _ => up_ne (by omega)
  · rw [up_ne (by omega)] at s1
    apply Rmp.fr (h.mp s0 s1) <;> intros <;> first | rfl | exact up_ne (by omega) | exact funext fun _ => up_ne (by omega)
  · rw [up_ne (by omega)] at s1
    apply Rdr.fr (h.dr s0 s1) <;> intros <;> first | rfl | exact up_ne (by omega) | exact funext fun _ => up_ne (by omega)
  · rw [up_ne (by omega)] at s1
    apply Rms.fr (h.ms s0 s1) <;> intros <;> first | rfl | exact up_ne (by omega) | exact funext fun _ => up_ne (by omega)
  · rw [up_ne (by omega)] at s1
    exact (h.bk s0 s1).fr s0 (fun L j hL => up_ne (by omega)) (fun _ _ => rfl) (fun k j hk => up_ne (by unfold bkk at hk; omega))

theorem call_cut (n : Int) : CallOK CI bX11_cut n_cut_0 [vi n] [n] := call_upd fun l G c S V M Q hc hR hk => qX11_cut fun _ _ => vX11_cut_0 <| by
  have t := hR.top
  have t0 := t.tl0
  have u : ∀ V' M' z, V' = V → M' = M → RunM 2047 n_cut_0 [n] M z M → Q z S V := fun V' M' z _ _ hr => hk z V M hr (fun _ _ _ => rfl) hR (by omega)
  simp only [t.vg60, t.vtl]
  refine ⟨fun _ => u V M _ rfl rfl (fun Q hq => ?_), fun _ => ⟨trivial, fun _ => hk _ _ (up M 0 2 n) (fun Q hq => ?_) (fun L j hL => upc_ne hc (by omega)) ?_ (by rw [up_eq]; omega), fun _ => u V M _ rfl rfl (fun Q hq => ?_)⟩⟩
  rotate_left 2
  · rw [Wv_up hc (by decide)]
    exact hR.cut (by omega) (by omega)
  all_goals
    refine st_cut_0 ?_
    unfold B_cut_0
    repeat' (first | exact hq | assumption | refine ⟨?_, ?_⟩ | intro _ | omega)

theorem wb2 (x : Int) : wb (wb (wb x)) = wb (wb x) := by unfold wb; omega
theorem Rel.tape {c : Int → Int} {N M : Mem} {b : Int} (h : Rel c N M) (n1 : M 0 2 < 3000) (hb : wb b = b) : Rel c (up (up N 61 (M 0 2) b) 60 1 (M 0 2 + 1)) (up (up M 1 (M 0 2) b) 0 2 (M 0 2 + 1)) := by
  have q := h.top
  have q1 := q.tl1
  have q0 := q.tl0
  refine ⟨?_, ?_, ?_, fun s s0 s1 => ?_, fun s s0 s1 => ?_, fun s s0 s1 => ?_, fun s s0 s1 => ?_, fun s s0 s1 => ?_⟩
  ·
    refine ⟨?_, ?_, ?_, ?_, ?_, ?_, ?_, ?_, ?_, ?_, ?_, ?_, ?_, ?_, ?_, ?_, ?_, ?_, ?_, ?_, ?_, ?_, ?_, ?_, ?_, ?_, ?_, ?_, ?_, ?_, ?_, ?_, ?_, ?_, ?_, ?_, ?_, ?_, ?_⟩
    · have w := q.g60
      try simp (disch := omega) only [up_eq, up_ne]
      exact w
    · have w := q.g61
      try simp (disch := omega) only [up_eq, up_ne]
      exact w
    · have w := q.n61
      try simp (disch := omega) only [up_eq, up_ne]
      exact w
    · have w := q.g62
      try simp (disch := omega) only [up_eq, up_ne]
      exact w
    · have w := q.n62
      try simp (disch := omega) only [up_eq, up_ne]
      exact w
    · have w := q.g63
      try simp (disch := omega) only [up_eq, up_ne]
      exact w
    · have w := q.n63
      try simp (disch := omega) only [up_eq, up_ne]
      exact w
    · have w := q.g64
      try simp (disch := omega) only [up_eq, up_ne]
      exact w
    · have w := q.n64
      try simp (disch := omega) only [up_eq, up_ne]
      exact w
    · have w := q.g65
      try simp (disch := omega) only [up_eq, up_ne]
      exact w
    · have w := q.n65
      try simp (disch := omega) only [up_eq, up_ne]
      exact w
    · have w := q.r0
      try simp (disch := omega) only [up_eq, up_ne]
      exact w
    · have w := q.r2
      try simp (disch := omega) only [up_eq, up_ne]
      exact w
    · have w := q.r3
      try simp (disch := omega) only [up_eq, up_ne]
      exact w
    · have w := q.r4
      try simp (disch := omega) only [up_eq, up_ne]
      exact w
    · have w := q.r5
      try simp (disch := omega) only [up_eq, up_ne]
      exact w
    · have w := q.r9
      try simp (disch := omega) only [up_eq, up_ne]
      exact w
    · have w := q.r11
      try simp (disch := omega) only [up_eq, up_ne]
      exact w
    · have w := q.r13
      try simp (disch := omega) only [up_eq, up_ne]
      exact w
    · have w := q.r15
      try simp (disch := omega) only [up_eq, up_ne]
      exact w
    · rw [up_eq, up_eq]
    · rw [up_eq]; omega
    · rw [up_eq]; omega
    · intro j j0 j1
      rw [up_eq] at j1
      rw [up_ne (V := up N 61 (M 0 2) b) (by omega), up_ne (V := up M 1 (M 0 2) b) (by omega)]
      by_cases e : j = M 0 2
      · rw [e, up_eq, up_eq]
      · rw [up_ne (by omega), up_ne (by omega)]
        exact q.tb j j0 (by omega)
    · intro j j0 j1
      rw [up_eq] at j1
      rw [up_ne (V := up M 1 (M 0 2) b) (by omega)]
      by_cases e : j = M 0 2
      · rw [e, up_eq]; exact hb
      · rw [up_ne (by omega)]
        exact q.tr j j0 (by omega)
    · have w := q.nb
      try simp (disch := omega) only [up_eq, up_ne]
      exact w
    · have w := q.nb0
      try simp (disch := omega) only [up_eq, up_ne]
      exact w
    · have w := q.nb1
      try simp (disch := omega) only [up_eq, up_ne]
      exact w
    · have w := q.lf
      try simp (disch := omega) only [up_eq, up_ne]
      exact w
    · have w := q.lo
      try simp (disch := omega) only [up_eq, up_ne]
      exact w
    · have w := q.ns
      try simp (disch := omega) only [up_eq, up_ne]
      exact w
    · have w := q.ns0
      try simp (disch := omega) only [up_eq, up_ne]
      exact w
    · have w := q.ns1
      try simp (disch := omega) only [up_eq, up_ne]
      exact w
    · have w := q.nm
      try simp (disch := omega) only [up_eq, up_ne]
      exact w
    · have w := q.nm0
      try simp (disch := omega) only [up_eq, up_ne]
      exact w
    · have w := q.nm1
      try simp (disch := omega) only [up_eq, up_ne]
      exact w
    · have w := q.ng
      try simp (disch := omega) only [up_eq, up_ne]
      exact w
    · have w := q.ng0
      try simp (disch := omega) only [up_eq, up_ne]
      exact w
    · refine ⟨?_, q.xe.fr (by simp (disch := omega) only [up_ne]) (by simp (disch := omega) only [up_ne]) (fun k j hk => by simp (disch := omega) only [up_ne])⟩
      have w := q.ng1
      try simp (disch := omega) only [up_eq, up_ne]
      exact w
  · apply Rwk.fr h.wk <;> intros <;> first | rfl | exact (up_ne (by omega)).trans (up_ne (by omega)) | exact funext fun _ => (up_ne (by omega)).trans (up_ne (by omega))
  · apply Rrd.fr h.rd <;> intros <;> first | rfl | exact (up_ne (by omega)).trans (up_ne (by omega)) | exact funext fun _ => (up_ne (by omega)).trans (up_ne (by omega))
  · rw [up_ne (by omega), up_ne (by omega)] at s1
    apply Rst.fr (h.st s0 s1) <;> intros <;> first | rfl | exact (up_ne (by omega)).trans (up_ne (by omega)) | exact funext fun _ => (up_ne (by omega)).trans (up_ne (by omega))
  · rw [up_ne (by omega), up_ne (by omega)] at s1
    apply Rmp.fr (h.mp s0 s1) <;> intros <;> first | rfl | exact (up_ne (by omega)).trans (up_ne (by omega)) | exact funext fun _ => (up_ne (by omega)).trans (up_ne (by omega))
  · rw [up_ne (by omega), up_ne (by omega)] at s1
    apply Rdr.fr (h.dr s0 s1) <;> intros <;> first | rfl | exact (up_ne (by omega)).trans (up_ne (by omega)) | exact funext fun _ => (up_ne (by omega)).trans (up_ne (by omega))
  · rw [up_ne (by omega), up_ne (by omega)] at s1
    apply Rms.fr (h.ms s0 s1) <;> intros <;> first | rfl | exact (up_ne (by omega)).trans (up_ne (by omega)) | exact funext fun _ => (up_ne (by omega)).trans (up_ne (by omega))
  · rw [up_ne (by omega), up_ne (by omega)] at s1
    exact (h.bk s0 s1).fr s0 (fun L j hL => (up_ne (by omega)).trans (up_ne (by omega))) (fun _ _ => rfl) (fun k j hk => (up_ne (by unfold bkk at hk; omega)).trans (up_ne (by unfold bkk at hk; omega)))

theorem ct_putByte {l : Launch} {G : GT} {Q : Int → Sh → Mem → Prop} {c : Int → Int} {S : Sh} {V M : Mem} {d mc ms : Nat} {x : Int} (hR : Rel c (Wv c S V) M) (n1 : M 0 2 < 3000) (h : Q 0 S (up (up V (c 61) (M 0 2) (wb (wb x))) (c 60) 1 (M 0 2 + 1))) : Ct l G bX11_putByte Q d mc ms [vr (c 60), vi x] S V := qX11_putByte fun _ _ => vX11_putByte_0 <| by
  have t := hR.top
  have t0 := t.tl0
  simp only [t.vg60, t.vtl, t.vr0, t.vg61, t.vn61]
  exact ⟨trivial, fun h => by omega, fun _ => ⟨trivial, by omega, by omega, by omega, by omega, h⟩⟩
theorem Wv_tape {c : Int → Int} {S : Sh} {V : Mem} {t b : Int} (hc : Cn c S) (h : 0 ≤ t) : Wv c S (up (up V (c 61) t b) (c 60) 1 (t + 1)) = up (up (Wv c S V) 61 t b) 60 1 (t + 1) := by
  rw [Wv_up hc (by decide), Wv_up hc h]
theorem lShr_div {w s : Int} (hw : inL w) (s0 : 0 ≤ s) (s1 : s < 64) : lShr w s = w / 2 ^ s.toNat := by
  unfold inL at hw
  unfold lShr
  have h : (Int64.ofInt w >>> ((Int32.ofInt s).toInt64 &&& 63)).toInt = ((BitVec.ofInt 64 w).sshiftRight' (((((BitVec.ofInt 32 s).signExtend 64) &&& 63#64)).smod 64#64)).toInt := rfl
  rw [h]
  have e32 : (BitVec.ofInt 32 s).toNat = s.toNat := i32_nat s0 (by omega)
  have es : ((BitVec.ofInt 32 s).signExtend 64).toNat = s.toNat := by
    rw [BitVec.signExtend_eq_setWidth_of_msb_false (by
      rw [BitVec.msb_eq_decide]
      simp only [decide_eq_false_iff_not]
      rw [e32]
      omega), BitVec.toNat_setWidth, e32]
    omega
  have q : (((BitVec.ofInt 32 s).signExtend 64) &&& 63#64).toNat = s.toNat := by
    rw [BitVec.toNat_and, es, show (63#64).toNat = 2 ^ 6 - 1 from rfl, Nat.and_two_pow_sub_one_eq_mod]
    omega
  have e : (((((BitVec.ofInt 32 s).signExtend 64) &&& 63#64)).smod 64#64).toNat = s.toNat := by
    have hm : (((BitVec.ofInt 32 s).signExtend 64) &&& 63#64).msb = false := by
      rw [BitVec.msb_eq_decide]
      simp only [decide_eq_false_iff_not]
      rw [q]
      omega
    rw [BitVec.smod_eq, hm, show (64#64).msb = false from rfl]
    show (((((BitVec.ofInt 32 s).signExtend 64) &&& 63#64)) % 64#64).toNat = _
    rw [BitVec.toNat_umod, q, show (64#64).toNat = 64 from rfl]
    omega
  have hx : (BitVec.ofInt 64 w).toInt = w := by
    rw [BitVec.toInt_ofInt, Int.bmod_def]
    have e2 : ((2 ^ 64 : Nat) : Int) = 18446744073709551616 := by decide
    rw [e2]
    split <;> omega
  rw [BitVec.sshiftRight', e, BitVec.toInt_sshiftRight, hx, Int.shiftRight_eq_div_pow]
  simp

theorem lUshr_any {w s : Int} (hw : inL w) (s0 : 0 ≤ s) (s1 : s < 64) : ∃ v, (v = w ∧ s = 0 ∨ v = (w % 18446744073709551616) / 2 ^ s.toNat) ∧ lUshr w s = v := by
  unfold inL at hw
  unfold lUshr
  have h : ((Int64.ofInt w).toUInt64 >>> ((Int32.ofInt s).toInt64.toUInt64 &&& Int64.toUInt64 63)).toInt64.toInt = ((BitVec.ofInt 64 w) >>> ((((BitVec.ofInt 32 s).signExtend 64) &&& 63#64) % 64#64)).toInt := rfl
  rw [h]
  have e32 : (BitVec.ofInt 32 s).toNat = s.toNat := i32_nat s0 (by omega)
  have es : ((BitVec.ofInt 32 s).signExtend 64).toNat = s.toNat := by
    rw [BitVec.signExtend_eq_setWidth_of_msb_false (by
      rw [BitVec.msb_eq_decide]
      simp only [decide_eq_false_iff_not]
      rw [e32]
      omega), BitVec.toNat_setWidth, e32]
    omega
  have e : ((((BitVec.ofInt 32 s).signExtend 64) &&& 63#64) % 64#64).toNat = s.toNat := by
    rw [BitVec.toNat_umod, BitVec.toNat_and, es, show (63#64).toNat = 2 ^ 6 - 1 from rfl, Nat.and_two_pow_sub_one_eq_mod, show (64#64).toNat = 64 from rfl]
    omega
  have e2 : ((2 ^ 64 : Nat) : Int) = 18446744073709551616 := by decide
  have ex : (BitVec.ofInt 64 w).toNat = (w % 18446744073709551616).toNat := by
    rw [BitVec.toNat_ofInt, e2]
  have hn : ((BitVec.ofInt 64 w) >>> ((((BitVec.ofInt 32 s).signExtend 64) &&& 63#64) % 64#64)).toNat = (w % 18446744073709551616).toNat / 2 ^ s.toNat := by
    rw [BitVec.ushiftRight_eq', BitVec.toNat_ushiftRight, e, ex, Nat.shiftRight_eq_div_pow]
  by_cases z : s = 0
  · refine ⟨w, Or.inl ⟨rfl, z⟩, ?_⟩
    rw [BitVec.ushiftRight_eq', e, z]
    show ((BitVec.ofInt 64 w) >>> 0).toInt = w
    rw [BitVec.ushiftRight_zero, BitVec.toInt_ofInt, Int.bmod_def, e2]
    split <;> omega
  · refine ⟨_, Or.inr rfl, ?_⟩
    have hl : (w % 18446744073709551616).toNat / 2 ^ s.toNat ≤ (w % 18446744073709551616).toNat / 2 ^ 1 := Nat.div_le_div_left (Nat.pow_le_pow_right (by decide) (by omega)) (by decide)
    rw [BitVec.toInt_eq_toNat_of_lt (by rw [hn]; omega), hn, Int.natCast_ediv, Int.toNat_of_nonneg (by omega)]
    simp
theorem wb_mod {x y : Int} (h : x % 256 = y % 256) : wb (wb (wr x)) = wb (wb (wr y)) := by
  unfold wb wr
  omega
theorem wb_sh {w k : Int} (hw : inL w) (k0 : 0 ≤ k) (k1 : k < 8) : wb (wb (wr (lUshr w (8 * k)))) = wb (wb (wr (lShr w (8 * k)))) := by
  obtain ⟨v, hv, e⟩ := lUshr_any hw (s := 8 * k) (by omega) (by omega)
  rw [e, lShr_div hw (by omega) (by omega)]
  apply wb_mod
  rcases hv with ⟨rfl, hz⟩ | rfl
  · rw [hz]; simp
  · have hk : k = 0 ∨ k = 1 ∨ k = 2 ∨ k = 3 ∨ k = 4 ∨ k = 5 ∨ k = 6 ∨ k = 7 := by omega
    rcases hk with rfl | rfl | rfl | rfl | rfl | rfl | rfl | rfl <;> simp only [Int.reduceMul, Int.reduceToNat, Int.reducePow] <;> omega
theorem feed_loop {l : Launch} {G : GT} {Q : Int → Sh → Mem → Prop} {c : Int → Int} {S : Sh} {w x3 : Int} (hc : Cn c S) (hw : inL w) : ∀ (n : Nat) (x4 : Int) (V M : Mem), x4 + 1 = n → Rel c (Wv c S V) M → M 0 2 + n ≤ 3000 → n ≤ 8 → (∀ V' M', RunM 2047 n_feed_34 [w, x3, x4] M (M' 0 2) M' → (∀ L j, L = 80 ∨ L % 128 = 81 → V' (c L) j = V (c L) j) → Rel c (Wv c S V') M' → M' 0 2 = M 0 2 + n → Q (M' 0 2) S V') → XJ l G bX11_feed Q 2047 34 [vr (c 60), vl w, vu, vi x3, vi x4] [] S V 0 0 := by
  intro n
  induction n with
  | zero =>
    intro x4 V M e hR h1 h2 hk
    have t := hR.top
    refine vX11_feed_34 ⟨fun _ => ⟨t.vg60, ?_⟩, fun h => absurd (by omega) h⟩
    rw [t.vtl]
    refine hk V M (fun Q hq => st_feed_34 ?_) (fun _ _ _ => rfl) hR (by omega)
    unfold B_feed_34
    exact ⟨fun _ => hq, fun h => absurd (by omega) h⟩
  | succ n ih =>
    intro x4 V M e hR h1 h2 hk
    have t := hR.top
    have t0 := t.tl0
    refine vX11_feed_34 ⟨fun h => absurd h (by omega), fun _ => ⟨by omega, by omega, t.vg60, ?_⟩⟩
    refine CT.of 2046 0 0 (Q1 := fun z S' V' => S' = S ∧ V' = up (up V (c 61) (M 0 2) (wb (wb (wr (lShr w (8 * x4)))))) (c 60) 1 (M 0 2 + 1)) (ct_putByte hR (by omega) ⟨rfl, by rw [wb_sh hw (by omega) (by omega)]⟩) (by decide) (by decide) (by decide) (fun z S' V' hq => ?_)
    obtain ⟨rfl, rfl⟩ := hq
    refine ⟨by omega, by omega, ?_⟩
    refine ih (x4 - 1) _ (up (up M 1 (M 0 2) (wb (wb (wr (lShr w (8 * x4)))))) 0 2 (M 0 2 + 1)) (by omega) ?_ ?_ (by omega) (fun V' M' hrun hV hR' hl => hk V' M' (fun Q hq => st_feed_34 ?_) (fun L j hL => ?_) hR' ?_)
    · rw [Wv_tape hc t0]
      exact hR.tape (by omega) (wb2 _)
    · rw [up_eq]; omega
    · unfold B_feed_34
      exact ⟨fun h => absurd h (by omega), fun _ => ⟨by omega, by omega, by omega, by omega, by omega, by omega, by omega, by omega, hrun _ hq⟩⟩
    · rw [hV L j hL, upc_ne hc (by omega), upc_ne hc (by omega)]
    · rw [up_eq] at hl; omega
theorem call_feed (w n : Int) : CallOK CI bX11_feed n_feed_0 [vl w, vi n] [w, n] := call_upd fun l G c S V M Q hc hR hk => qX11_feed fun _ hw _ => vX11_feed_0 <| by
  have t := hR.top
  have t0 := t.tl0
  have t1 := t.tl1
  have u : ∀ z, RunM 2047 n_feed_0 [w, n] M z M → Q z S V := fun z hr => hk z V M hr (fun _ _ _ => rfl) hR (by omega)
  simp only [t.vg60, t.vtl]
  refine ⟨fun _ => u _ (fun Q hq => ?_), fun _ => ⟨fun _ => ⟨trivial, by omega, by omega, fun _ => ⟨by omega, by omega, ?_⟩, fun _ => u _ (fun Q hq => ?_)⟩, fun _ => u _ (fun Q hq => ?_)⟩⟩
  rotate_left
  · refine feed_loop hc hw n.toNat (n - 1) V M (by omega) hR (by omega) (by omega) (fun V' M' hrun hV hR' hl => hk _ V' M' (fun Q hq => ?_) hV hR' (by omega))
    refine st_feed_0 ?_
    unfold B_feed_0
    exact ⟨fun h => absurd h (by omega), fun _ => ⟨fun _ => ⟨by omega, by omega, fun _ => ⟨by omega, by omega, hrun _ hq⟩, fun h => absurd (by omega) h⟩, fun h => absurd (by omega) h⟩⟩
  all_goals
    refine st_feed_0 ?_
    unfold B_feed_0
    repeat' (first | exact hq | assumption | refine ⟨?_, ?_⟩ | intro _ | omega)

