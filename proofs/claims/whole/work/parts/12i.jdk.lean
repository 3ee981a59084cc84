/-! ===== the JDK's members over the texts ===== -/
section JDK
variable {l : Launch} {G : GT} {d mc ms : Nat} {S : Sh} {V : Mem} {i : Nat}
abbrev qS (v : Int) (S : Sh) (V : Mem) : Int → Sh → Mem → Prop := fun z S' V' => z = v ∧ S' = S ∧ V' = V
theorem bShr0 {n : Int} (h : inI n) : bShr n 0 = n := by
  unfold bShr
  have e : (Int32.ofInt 0 &&& 31 : Int32) = 0 := by decide
  rw [e, show Int32.ofInt n >>> (0 : Int32) = Int32.ofInt n from by simp, i32_toInt h]
theorem cst_coder (hi : i < 16) : Ct l G bJ0_coder_7d493 (qS 0 S V) d mc ms [vr ((G.2.2.2.1 i : Int) + 1)] S V := qJ0_coder_7d493 hi (vJ0_coder_7d493_0 hi ⟨by decide, by decide, rfl, rfl, rfl⟩)
theorem cst_latin (hi : i < 16) : Ct l G bJ0_isLatin1_aae02 (qS 1 S V) d mc ms [vr ((G.2.2.2.1 i : Int) + 1)] S V := qJ0_isLatin1_aae02 hi (vJ0_isLatin1_aae02_0 hi ⟨rfl, rfl, rfl⟩)
theorem js_inI (hi : i < 16) : inI ((js_len.getD i 0 : Nat) : Int) := by
  have := js_lt i hi
  unfold inI; omega
theorem cst_length_ (hi : i < 16) : Ct l G bJ0_length_8abf5 (qS ((js_len.getD i 0 : Nat) : Int) S V) (d + 1) mc ms [vr ((G.2.2.2.1 i : Int) + 1)] S V :=
  qJ0_length_8abf5 hi (vJ0_length_8abf5_0 hi (CT.of d 0 0 (cst_coder hi) (Nat.le_refl _) (Nat.zero_le _) (Nat.zero_le _) (fun z S' V' hq => by
    obtain ⟨rfl, rfl, rfl⟩ := hq
    exact ⟨bShr0 (js_inI hi), rfl, rfl⟩)))
theorem cst_length (hi : i < 16) : Ct l G bJ0_length_8abf5 (qS ((js_len.getD i 0 : Nat) : Int) S V) 5 0 0 [vr ((G.2.2.2.1 i : Int) + 1)] S V := cst_length_ hi
theorem cst_chk3 {x y r : Int} (h0 : 0 ≤ x) (h1 : x < y) : Ct l G bJ3_checkIndex_8e157 (qS x S V) d mc ms [vi x, vi y, vr r] S V :=
  qJ3_checkIndex_8e157 (fun _ _ _ => vJ3_checkIndex_8e157_0 ⟨fun c => by omega, fun _ => ⟨fun _ => ⟨rfl, rfl, rfl⟩, fun c => c h1⟩⟩)
theorem cst_chk {x y : Int} (h0 : 0 ≤ x) (h1 : x < y) : Ct l G bJ0_checkIndex_df160 (qS 0 S V) (d + 1) mc ms [vi x, vi y] S V :=
  qJ0_checkIndex_df160 (fun _ _ => vJ0_checkIndex_df160_0 (fun r _ => CT.of d 0 0 (cst_chk3 h0 h1) (Nat.le_refl _) (Nat.zero_le _) (Nat.zero_le _) (fun z S' V' hq => by
    obtain ⟨rfl, rfl, rfl⟩ := hq
    exact ⟨rfl, rfl, rfl⟩)))
theorem js_rng : ∀ i, i < 16 → ∀ k, k < js_len.getD i 0 → 0 ≤ js_b i k ∧ js_b i k ≤ 127 := by decide
theorem and255 : ∀ n : Nat, n < 128 → wc (bAnd n 255) = n := by decide +kernel
theorem js_c {k : Int} (hi : i < 16) (h0 : 0 ≤ k) (h1 : k < (js_len.getD i 0 : Nat)) : wc (bAnd (js_b i k.toNat) 255) = js_b i k.toNat := by
  have h := js_rng i hi k.toNat (by omega)
  have h2 := and255 (js_b i k.toNat).toNat (by omega)
  rw [show (((js_b i k.toNat).toNat : Nat) : Int) = js_b i k.toNat by omega] at h2
  exact h2
theorem cst_charAt {k : Int} (hi : i < 16) (h0 : 0 ≤ k) (h1 : k < (js_len.getD i 0 : Nat)) : Ct l G bJ0_charAt_5068e (qS (js_b i k.toNat) S V) 5 0 0 [vr ((G.2.2.2.1 i : Int) + 1), vi k] S V := by
  have hr := js_rng i hi k.toNat (by omega)
  refine qJ0_charAt_5068e hi (fun _ => vJ0_charAt_5068e_0 hi (CT.of 4 0 0 (cst_latin hi) (by decide) (Nat.zero_le _) (Nat.zero_le _) (fun z S' V' hq => ?_)))
  obtain ⟨rfl, rfl, rfl⟩ := hq
  refine ⟨fun c => absurd c (by decide), fun _ => CT.of 4 0 0 (Q1 := qS (js_b i k.toNat) S' V') ?_ (by decide) (Nat.zero_le _) (Nat.zero_le _) (fun z S2 V2 hq => ?_)⟩
  · refine qJ1_charAt_3b067 hi (fun _ => vJ1_charAt_3b067_0 hi (CT.of 3 0 0 (cst_chk h0 h1) (by decide) (Nat.zero_le _) (Nat.zero_le _) (fun z S' V' hq => ?_)))
    obtain ⟨rfl, rfl, rfl⟩ := hq
    rw [js_c hi h0 h1]
    exact ⟨h0, h1, by omega, by omega, rfl, rfl, rfl⟩
  · obtain ⟨rfl, rfl, rfl⟩ := hq
    exact ⟨by omega, by omega, rfl, rfl, rfl⟩
/-- the first place from k on, of n, that holds c -/
def js_from (i : Nat) (c : Int) : Nat → Nat → Int
  | 0, _ => -1
  | n + 1, k => if js_b i k = c then (k : Int) else js_from i c n (k + 1)
def js_ix (i : Nat) (c : Int) : Int := if 0 ≤ c ∧ c ≤ 255 then js_from i (wb c) (js_len.getD i 0) 0 else -1
theorem js_loop (hi : i < 16) {x1 x2 x4 : Int} : ∀ (n k : Nat), n + k = js_len.getD i 0 → XJ l G bJ1_indexOfChar_4cfef (qS (js_from i x4 n k) S V) d 7 [vr ((G.2.2.2.2.1 i : Int) + 1), vi x1, vi x2, vi ((js_len.getD i 0 : Nat) : Int), vi x4, vi (k : Int)] [] S V mc ms
  | 0, k, h => vJ1_indexOfChar_4cfef_7 hi ⟨fun _ => ⟨rfl, rfl, rfl⟩, fun c => absurd (by omega) c⟩
  | n + 1, k, h => by
    have := js_lt i hi
    refine vJ1_indexOfChar_4cfef_7 hi ⟨fun c => absurd c (by omega), fun _ => ⟨by omega, by omega, fun c => ⟨by omega, by omega, ?_⟩, fun c => ⟨?_, rfl, rfl⟩⟩⟩
    · have ih := js_loop hi (x1 := x1) (x2 := x2) (x4 := x4) n (k + 1) (by omega)
      rw [Int.toNat_natCast] at c
      rw [js_from, if_neg c]
      exact ih
    · rw [Int.toNat_natCast] at c
      rw [js_from, if_pos (Decidable.not_not.mp c)]
theorem cst_indexOf {c : Int} (hi : i < 16) : Ct l G bJ0_indexOf_0f7a4 (qS (js_ix i c) S V) 5 0 0 [vr ((G.2.2.2.1 i : Int) + 1), vi c] S V := by
  have hlt := js_lt i hi
  refine qJ0_indexOf_0f7a4 hi (fun hc => vJ0_indexOf_0f7a4_0 hi (CT.of 4 0 0 (Q1 := qS (js_ix i c) S V) ?_ (by decide) (Nat.zero_le _) (Nat.zero_le _) (fun z S2 V2 hq => hq)))
  refine qJ0_indexOf_7cf53 hi (fun _ _ => vJ0_indexOf_7cf53_0 hi (CT.of 3 0 0 (cst_latin hi) (by decide) (Nat.zero_le _) (Nat.zero_le _) (fun z S' V' hq => ?_)))
  obtain ⟨rfl, rfl, rfl⟩ := hq
  refine ⟨fun c => absurd c (by decide), fun _ => CT.of 3 0 0 (cst_length_ hi) (by decide) (Nat.zero_le _) (Nat.zero_le _) (fun z S2 V2 hq => ?_)⟩
  obtain ⟨rfl, rfl, rfl⟩ := hq
  refine CT.of 3 0 0 (Q1 := qS (js_ix i c) S2 V2) ?_ (by decide) (Nat.zero_le _) (Nat.zero_le _) (fun z S2 V2 hq => hq)
  refine qJ1_indexOf_4cfef hi (fun _ _ _ => vJ1_indexOf_4cfef_0 hi ?_)
  have e1 : imax 0 0 = 0 := rfl
  have e2 : imin ((js_len.getD i 0 : Nat) : Int) ((js_len.getD i 0 : Nat) : Int) = ((js_len.getD i 0 : Nat) : Int) := by unfold imin; split <;> rfl
  rw [e1, e2]
  refine CT.of 2 0 0 (Q1 := qS (if 0 ≤ c ∧ c ≤ 255 then 1 else 0) S2 V2) ?_ (by decide) (Nat.zero_le _) (Nat.zero_le _) (fun z S3 V3 hq => ?_)
  · refine qJ1_canEncode_9a6ad (fun _ => vJ1_canEncode_9a6ad_0 ⟨fun q => ?_, fun q => ⟨fun q2 => ?_, fun q2 => ?_⟩⟩)
    · exact ⟨(if_neg (by omega)).symm, rfl, rfl⟩
    · exact ⟨(if_neg (by omega)).symm, rfl, rfl⟩
    · exact ⟨(if_pos (by omega)).symm, rfl, rfl⟩
  · obtain ⟨rfl, rfl, rfl⟩ := hq
    by_cases h : 0 ≤ c ∧ c ≤ 255
    · rw [if_pos h]
      refine ⟨fun _ => ⟨by decide, fun q => CT.of 2 0 0 (Q1 := qS (js_ix i c) S3 V3) ?_ (by decide) (Nat.zero_le _) (Nat.zero_le _) (fun z S2 V2 hq => hq), fun q => ?_⟩, fun q => absurd (by decide) q⟩
      · refine qJ1_indexOfChar_4cfef hi (fun _ _ _ => vJ1_indexOfChar_4cfef_0 hi ?_)
        have := js_loop (l := l) (G := G) (d := 2) (mc := 0) (ms := 0) (S := S3) (V := V3) hi (x1 := c) (x2 := 0) (x4 := wb c) (js_len.getD i 0) 0 (by omega)
        rw [js_ix, if_pos h]
        exact this
      · have h0 : js_len.getD i 0 = 0 := by omega
        rw [js_ix, if_pos h, h0]
        exact ⟨rfl, rfl, rfl⟩
    · rw [if_neg h]
      refine ⟨fun q => absurd rfl q, fun _ => ?_⟩
      rw [js_ix, if_neg h]
      exact ⟨rfl, rfl, rfl⟩
end JDK
