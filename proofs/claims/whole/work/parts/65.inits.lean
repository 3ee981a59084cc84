/-! ===== the constructors: tokens ===== -/
theorem al {c : Int → Int} {S : Sh} {V N : Mem} {L t n : Int} (hc : Cn c S) (h0 : 0 ≤ S.2.2) (hW : Wv c S V = N) : ∃ c1, Cn c1 (nw S t n) ∧ 0 ≤ (nw S t n).2.2 ∧ Wv c1 (nw S t n) (clr V (S.2.2 + 1)) = nwl N L t n ∧ c1 L = S.2.2 + 1 ∧ ∀ L', L' ≠ L → c1 L' = c L' :=
  ⟨upl c L (S.2.2 + 1), Cn_nw hc h0, by show 0 ≤ S.2.2 + 1; omega, by rw [Wv_nw hc, hW], upl_eq, fun L' q => upl_ne q⟩
def kst : Nat → Int × List Int
  | 0 => (0, [])
  | t + 1 => if rnk (js_b 0 t) ≤ 0 then (0, (kst t).2 ++ [(kst t).1]) else ((kst t).1 * 64 + rnk (js_b 0 t), (kst t).2)
theorem kst_ok : ∀ t : Nat, t < 66 → 0 ≤ (kst t).1 ∧ (kst t).1 ≤ 68719476736 ∧ (kst t).2.length ≤ 11 := by decide +kernel
theorem kst_end : (kst 66).2 = [1369421, 4308, 335815429, 52449483, 8844755282, 20789412040, 791749, 1361093, 369411397, 62596, 5019269, 17364357] := by decide +kernel
theorem kst_a {t : Nat} (h : rnk (js_b 0 t) ≤ 0) : kst (t + 1) = (0, (kst t).2 ++ [(kst t).1]) := by
  show (if rnk (js_b 0 t) ≤ 0 then (0, (kst t).2 ++ [(kst t).1]) else ((kst t).1 * 64 + rnk (js_b 0 t), (kst t).2)) = _
  rw [if_pos h]
theorem kst_b {t : Nat} (h : ¬ rnk (js_b 0 t) ≤ 0) : kst (t + 1) = ((kst t).1 * 64 + rnk (js_b 0 t), (kst t).2) := by
  show (if rnk (js_b 0 t) ≤ 0 then (0, (kst t).2 ++ [(kst t).1]) else ((kst t).1 * 64 + rnk (js_b 0 t), (kst t).2)) = _
  rw [if_neg h]
section TKI
variable {l : Launch} {G : GT} {c : Int → Int} {S : Sh} {Q : Int → Sh → Mem → Prop} {d mc ms : Nat} {N0 : Mem} {r0 : Int}
theorem kw_loop (hc : Cn c S) (x : c 40 = r0) (hd : 7 ≤ d) (g : N0 40 (-1) = 10) (g4 : N0 40 4 = c 44) (t44 : N0 44 (-1) = 22) (n44 : N0 44 (-2) = 12) (hk : ∀ V' N', Wv c S V' = N' → (∀ L k, ¬ (L = 44 ∧ 0 ≤ k) → N' L k = N0 L k) → (∀ i : Nat, i < (kst 66).2.length → N' 44 i = (kst 66).2.getD i 0) → Q 0 S V') : ∀ (r t : Nat) (V N : Mem), t + r = 66 → Wv c S V = N → (∀ L k, ¬ (L = 44 ∧ 0 ≤ k) → N L k = N0 L k) → (∀ i : Nat, i < (kst t).2.length → N 44 i = (kst t).2.getD i 0) → XJ l G bX9_init Q d 51 [vr r0, vl (kst t).1, vu, vi ((kst t).2.length : Int), vi (t : Int), vu] [] S V mc ms := by
  have l66 : ((js_len.getD 0 0 : Nat) : Int) = 66 := rfl
  intro r
  induction r with
  | zero =>
    intro t V N ht hW fn hl
    have e : t = 66 := by omega
    subst e
    refine vX9_init_51 (CT.of 5 0 0 (cst_length (by decide)) (by omega) (Nat.zero_le _) (Nat.zero_le _) (fun z S' V' hq => ?_))
    obtain ⟨rfl, rfl, rfl⟩ := hq
    exact ⟨fun _ => hk _ N hW fn hl, fun q => absurd (by rw [l66]; decide) q⟩
  | succ r ih =>
    intro t V N ht hW fn hl
    obtain ⟨k1, k2, k3⟩ := kst_ok t (by omega)
    refine vX9_init_51 (CT.of 5 0 0 (cst_length (by decide)) (by omega) (Nat.zero_le _) (Nat.zero_le _) (fun z S' V' hq => ?_))
    obtain ⟨rfl, rfl, rfl⟩ := hq
    refine ⟨fun q => absurd q (by rw [l66]; omega), fun _ => CT.of 5 0 0 (cst_charAt (by decide) (by omega) (by rw [l66]; omega)) (by omega) (Nat.zero_le _) (Nat.zero_le _) (fun z S' V' hq => ?_)⟩
    obtain ⟨rfl, rfl, rfl⟩ := hq
    rw [show ((t : Nat) : Int).toNat = t from by omega]
    have rl := rnk_le (js_b 0 t)
    obtain ⟨v', tg, ln⟩ := Wr hW
    have e4 : V' r0 4 = c 44 := by rw [← x, v' _ _ (by decide), fn _ _ (by omega)]; exact g4
    refine CT.pu (by omega) (fun d1 hd1 => ct_rankOf (by omega) ⟨rfl, rfl, fun q => ⟨fun y => absurd y (by omega), fun _ => ?_⟩, fun q => ?_⟩)
    · rw [e4]
      refine ⟨by rw [← x, tg, fn _ _ (by omega)]; exact g, by rw [tg, fn _ _ (by omega)]; exact t44, by omega, by rw [ln, fn _ _ (by omega), n44]; omega, by omega, by omega, by omega, by omega, ?_⟩
      have hh := ih (t + 1) (up V' (c 44) ((kst t).2.length : Int) (kst t).1) (up N 44 ((kst t).2.length : Int) (kst t).1) (by omega) (by rw [Wv_up hc (by omega), hW]) (fun L k q => by rw [up_ne (by omega)]; exact fn L k q) (fun i hi => by
        rw [kst_a q] at hi ⊢
        rw [List.length_append, List.length_singleton] at hi
        by_cases y : i = (kst t).2.length
        · subst y
          rw [up_eq]
          simp [List.getD]
        · rw [up_ne (by omega), hl i (by omega)]
          have : i < (kst t).2.length := by omega
          simp [List.getD, List.getElem?_append, this])
      rw [kst_a q] at hh
      rw [List.length_append, List.length_singleton] at hh
      exact hh
    · refine ⟨by omega, by omega, by omega, by omega, by omega, by omega, ?_⟩
      have hh := ih (t + 1) V' N (by omega) hW fn (by rw [kst_b q]; exact hl)
      rw [kst_b q] at hh
      exact hh
end TKI
