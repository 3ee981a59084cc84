/-! ===== the reference over a memory without addresses: M 0 k its int field k, M k j element j of its array field k ===== -/
abbrev MP : Type := Nat → List Int → Mem → Prop
abbrev MC : Type := Nat → List Int → Mem → (Int → Mem → Prop) → Prop
def mtL : List Int := [0, 21, 0, 0, 0, 0, 0, 21, 0, 0, 20, 20, 20, 20, 20, 20, 20, 20, 20, 20, 20, 20, 20, 20, 20, 20, 20, 20, 20, 20, 20, 20, 20, 20, 20, 20, 20, 20, 20, 20, 0, 0, 0, 0, 0, 0, 0, 0, 20, 20, 20, 0, 20, 20, 20, 20, 20, 20, 20, 20, 20, 20, 20, 20, 0, 0, 20, 20, 0, 0, 20, 20, 0, 20, 20, 20, 0, 20, 20, 20, 20, 0, 21, 0]
def mlL : List Int := [0, 3000, 0, 0, 0, 0, 0, 30000, 0, 0, 10, 10, 40, 120, 120, 120, 120, 120, 120, 480, 2880, 2880, 11520, 480, 480, 5760, 360, 480, 480, 360, 360, 4320, 4320, 4320, 360, 31000, 31000, 31000, 31000, 31000, 0, 0, 0, 0, 0, 0, 0, 0, 3100, 3100, 3100, 0, 1600, 120, 2880, 480, 5760, 480, 1600, 10, 31000, 31000, 10, 13, 0, 0, 40, 40, 0, 0, 40, 40, 0, 10, 10, 240, 0, 20, 20, 1220, 1220, 0, 3000, 0]
def mt (k : Int) : Int := if 0 ≤ k then mtL.getD k.toNat 0 else 0
def ml (k : Int) : Int := if 0 ≤ k then mlL.getD k.toNat 0 else 0
theorem mt_all : ∀ k : Nat, k < 84 → (mtL.getD k 0 = 0 ∨ mtL.getD k 0 = 20 ∨ mtL.getD k 0 = 21) := by decide
theorem mt_vals (k : Int) : mt k = 0 ∨ mt k = 20 ∨ mt k = 21 := by
  unfold mt
  split
  · by_cases h : k.toNat < 84
    · exact mt_all _ h
    · left
      rw [List.getD_eq_getElem?_getD, List.getElem?_eq_none (by show mtL.length ≤ _; have : mtL.length = 84 := by decide
                                                                omega)]
      rfl
  · exact Or.inl rfl
theorem lt_eq {a b c : Int} (h : a < b) (e : c = b) : a < c := e ▸ h
theorem mt_ne {k t : Int} (h : mt k = t) (ht : t ≠ 0) : mt k ≠ 0 := by rw [h]; exact ht
def MR (m : Int) (a : Int → Int) (S : Sh) (V M : Mem) : Prop :=
  S.1 m = 13 ∧ (∀ k : Int, mt k = 0 → V m k = M 0 k) ∧ (∀ k : Int, mt k ≠ 0 → V m k = a k ∧ S.1 (a k) = mt k ∧ S.2.1 (a k) = ml k ∧ ∀ j, V (a k) j = M k j) ∧ ∀ k k' : Int, mt k ≠ 0 → mt k' ≠ 0 → a k = a k' → k = k'
def MF (m : Int) (a : Int → Int) (V0 V : Mem) : Prop := ∀ r, r ≠ m → (∀ k, mt k ≠ 0 → r ≠ a k) → ∀ j, V r j = V0 r j
section MRROWS
variable {m : Int} {a : Int → Int} {S : Sh} {V V0 V1 M : Mem} {k j z e : Int}
theorem MR.ar (h : MR m a S V M) (hk : mt k ≠ 0) : V m k = a k ∧ S.1 (a k) = mt k ∧ S.2.1 (a k) = ml k ∧ ∀ j, V (a k) j = M k j := h.2.2.1 k hk
theorem MR.ln (h : MR m a S V M) (hk : mt k ≠ 0) (he : ml k = e) : S.2.1 (a k) = e := (h.2.2.1 k hk).2.2.1.trans he
theorem MR.in_ (h : MR m a S V M) (hk : mt k = 0) (he : M 0 k = e) : V m k = e := (h.2.1 k hk).trans he
theorem MR.el (h : MR m a S V M) (hk : mt k ≠ 0) (he : M k j = e) : V (a k) j = e := ((h.2.2.1 k hk).2.2.2 j).trans he
theorem MR.am (h : MR m a S V M) (hk : mt k ≠ 0) : a k ≠ m := fun q => by
  have h1 := (h.2.2.1 k hk).2.1
  rw [q, h.1] at h1
  rcases mt_vals k with h2 | h2 | h2 <;> rw [h2] at h1 <;> revert h1 <;> decide
theorem mt0 : mt 0 = 0 := by decide
theorem MR.putI (h : MR m a S V M) (hk : mt k = 0) : MR m a S (up V m k z) (up M 0 k z) := by
  refine ⟨h.1, fun k' hk' => ?_, fun k' hk' => ?_, h.2.2.2⟩
  · by_cases q : k' = k
    · rw [q, up_eq, up_eq]
    · rw [up_ne (Or.inr q), up_ne (Or.inr q)]; exact h.2.1 k' hk'
  · obtain ⟨h1, h2, h3, h4⟩ := h.ar hk'
    have q : k' ≠ k := fun q => hk' (q ▸ hk)
    have q0 : k' ≠ 0 := fun q => hk' (q ▸ mt0)
    refine ⟨by rw [up_ne (Or.inr q)]; exact h1, h2, h3, fun j => ?_⟩
    rw [up_ne (Or.inl (h.am hk')), up_ne (Or.inl q0)]
    exact h4 j
theorem MR.putA (h : MR m a S V M) (hk : mt k ≠ 0) : MR m a S (up V (a k) j z) (up M k j z) := by
  have q0 : (0 : Int) ≠ k := fun q => hk (q ▸ mt0)
  refine ⟨h.1, fun k' hk' => ?_, fun k' hk' => ?_, h.2.2.2⟩
  · rw [up_ne (Or.inl (Ne.symm (h.am hk))), up_ne (Or.inl q0)]; exact h.2.1 k' hk'
  · obtain ⟨h1, h2, h3, h4⟩ := h.ar hk'
    refine ⟨by rw [up_ne (Or.inl (Ne.symm (h.am hk)))]; exact h1, h2, h3, fun j' => ?_⟩
    by_cases q : k' = k
    · subst q
      by_cases q2 : j' = j
      · rw [q2, up_eq, up_eq]
      · rw [up_ne (Or.inr q2), up_ne (Or.inr q2)]; exact h4 j'
    · rw [up_ne (Or.inl (fun e => q (h.2.2.2 k' k hk' hk e))), up_ne (Or.inl q)]
      exact h4 j'
theorem MF.rf : MF m a V V := fun _ _ _ _ => rfl
theorem MF.trans (h : MF m a V0 V) (h2 : MF m a V V1) : MF m a V0 V1 := fun r h1 h3 j => (h2 r h1 h3 j).trans (h r h1 h3 j)
theorem MF.putI (h : MF m a V0 V) : MF m a V0 (up V m k z) := fun r h1 h3 j => by rw [up_ne (Or.inl h1)]; exact h r h1 h3 j
theorem MF.putA (h : MF m a V0 V) (hk : mt k ≠ 0) : MF m a V0 (up V (a k) j z) := fun r h1 h3 j' => by rw [up_ne (Or.inl (h3 k hk))]; exact h r h1 h3 j'
end MRROWS
def Qm (m : Int) (a : Int → Int) (S : Sh) (V0 : Mem) (Q : Int → Mem → Prop) : Int → Sh → Mem → Prop := fun z S' V' => S' = S ∧ ∃ M', Q z M' ∧ MR m a S V' M' ∧ MF m a V0 V'

abbrev xmTy : Type := Launch → GT → Int → (Int → Int) → (Int → Sh → Mem → Prop) → Nat → Nat → Nat → Sh → Mem → List Int → Prop
abbrev n_feed_0 : Nat := 0
abbrev n_feed_34 : Nat := 1
abbrev n_cut_0 : Nat := 2
abbrev n_isLetter_0 : Nat := 3
abbrev n_isDigit_0 : Nat := 4
abbrev n_at_0 : Nat := 5
abbrev n_next_0 : Nat := 6
abbrev n_next_8 : Nat := 7
abbrev n_next_115 : Nat := 8
abbrev n_next_249 : Nat := 9
abbrev n_isSign_0 : Nat := 10
abbrev n_isWord_0 : Nat := 11
abbrev n_isWord_32 : Nat := 12
abbrev n_isKeyword_0 : Nat := 13
abbrev n_isName_0 : Nat := 14
abbrev n_nameHere_0 : Nat := 15
abbrev n_isSame_0 : Nat := 16
abbrev n_isSame_18 : Nat := 17
abbrev n_isTwo_0 : Nat := 18
abbrev n_expression_0 : Nat := 19
abbrev n_fault_0 : Nat := 20
abbrev n_sign_0 : Nat := 21
abbrev n_newName_0 : Nat := 22
abbrev n_tells_0 : Nat := 23
abbrev n_tells_19 : Nat := 24
abbrev n_tells_72 : Nat := 25
abbrev n_tells_124 : Nat := 26
abbrev n_tells_176 : Nat := 27
abbrev n_enumOf_0 : Nat := 28
abbrev n_enumOf_2 : Nat := 29
abbrev n_readBook_0 : Nat := 30
abbrev n_readBook_39 : Nat := 31
abbrev n_readBook_59 : Nat := 32
abbrev n_readEnum_0 : Nat := 33
abbrev n_readEnum_172 : Nat := 34
abbrev n_readEnum_211 : Nat := 35
abbrev n_readEnum_244 : Nat := 36
abbrev n_readConstant_0 : Nat := 37
abbrev n_readConstant_93 : Nat := 38
abbrev n_readConstant_172 : Nat := 39
abbrev n_readAct_0 : Nat := 40
abbrev n_readAct_36 : Nat := 41
abbrev n_readAct_132 : Nat := 42
abbrev n_readAct_224 : Nat := 43
abbrev n_readMember_0 : Nat := 44
abbrev n_readTable_0 : Nat := 45
abbrev n_readTable_106 : Nat := 46
abbrev n_readEntry_0 : Nat := 47
abbrev n_beginsExpr_0 : Nat := 48
abbrev n_readSwitch_0 : Nat := 49
abbrev n_readSwitch_95 : Nat := 50
abbrev n_readCase_0 : Nat := 51
abbrev n_readCase_26 : Nat := 52
abbrev n_readExpr_0 : Nat := 53
abbrev n_readSum_0 : Nat := 54
abbrev n_readSum_5 : Nat := 55
abbrev n_readTerm_0 : Nat := 56
abbrev n_readTerm_5 : Nat := 57
abbrev n_readFactor_0 : Nat := 58
abbrev n_readFactor_89 : Nat := 59
abbrev n_readFactor_203 : Nat := 60
abbrev n_taken_0 : Nat := 61
abbrev n_readReference_0 : Nat := 62
abbrev n_settle_0 : Nat := 63
abbrev n_settle_79 : Nat := 64
abbrev n_settle_266 : Nat := 65
abbrev n_lacks_0 : Nat := 66
abbrev n_among_0 : Nat := 67
abbrev n_among_3 : Nat := 68
abbrev n_book_0 : Nat := 69
abbrev n_book_22 : Nat := 70
abbrev n_wrong_0 : Nat := 71
abbrev n_asleep_0 : Nat := 72
abbrev n_asleep_2 : Nat := 73
abbrev n_asleep_33 : Nat := 74
abbrev n_asleep_53 : Nat := 75
abbrev n_failing_0 : Nat := 76
abbrev n_use_0 : Nat := 77
abbrev n_starts_0 : Nat := 78
abbrev n_startsHolder_0 : Nat := 79
abbrev n_startsEnum_0 : Nat := 80
abbrev n_startsEnum_2 : Nat := 81
abbrev n_startsEnum_83 : Nat := 82
abbrev n_startsEnum_99 : Nat := 83
abbrev n_startsEnum_173 : Nat := 84
abbrev n_sees_0 : Nat := 85
abbrev n_value_0 : Nat := 86
abbrev n_entryOf_0 : Nat := 87
abbrev n_both_0 : Nat := 88
abbrev n_both_3 : Nat := 89
abbrev n_both_48 : Nat := 90
abbrev n_joined_0 : Nat := 91
abbrev n_isEnum_0 : Nat := 92
abbrev n_isConstant_0 : Nat := 93
abbrev n_begin_0 : Nat := 94
abbrev n_ends_0 : Nat := 95
abbrev n_uses_0 : Nat := 96
abbrev n_told_0 : Nat := 97
abbrev n_about_0 : Nat := 98
abbrev n_isItem_0 : Nat := 99
abbrev n_state_0 : Nat := 100
abbrev n_letter_0 : Nat := 101
abbrev n_body_0 : Nat := 102
abbrev n_use__0 : Nat := 103
abbrev n_argument_0 : Nat := 104
abbrev n_act_0 : Nat := 105
abbrev n_entry_0 : Nat := 106
abbrev n_holder_0 : Nat := 107
abbrev n_branch_0 : Nat := 108
abbrev n_branch_70 : Nat := 109
abbrev n_out_0 : Nat := 110
abbrev n_cause_0 : Nat := 111
abbrev n_start_0 : Nat := 112
abbrev n_seen_0 : Nat := 113
abbrev n_set_0 : Nat := 114
abbrev n_isIn_0 : Nat := 115
abbrev n_add_0 : Nat := 116
abbrev n_take_0 : Nat := 117
abbrev n_join_0 : Nat := 118
abbrev n_member_0 : Nat := 119
abbrev n_member_24 : Nat := 120
abbrev n_map_0 : Nat := 121
abbrev n_isMapped_0 : Nat := 122
abbrev n_put_0 : Nat := 123
abbrev n_get_0 : Nat := 124
abbrev n_constantHere_0 : Nat := 125
abbrev n_constantHere_14 : Nat := 126
abbrev n_constantHere_34 : Nat := 127
abbrev n_constantHere_84 : Nat := 128
abbrev n_encode_0 : Nat := 129
abbrev n_encode_51 : Nat := 130
abbrev n_signal_0 : Nat := 131
abbrev n_put__0 : Nat := 132
abbrev n_decode_0 : Nat := 133
abbrev n_decode_24 : Nat := 134
abbrev n_decode_67 : Nat := 135
abbrev n_decode_119 : Nat := 136
abbrev n_decode_143 : Nat := 137
abbrev n_decode_193 : Nat := 138
def XM : Nat → xmTy
  | 0 => fun l G m a Q d mc ms S V as => XJ l G bX12_feed Q d 0 [vr m, vl (as.getD 0 0), vu, vi (as.getD 1 0), vu] [] S V mc ms
  | 1 => fun l G m a Q d mc ms S V as => XJ l G bX12_feed Q d 34 [vr m, vl (as.getD 0 0), vu, vi (as.getD 1 0), vi (as.getD 2 0)] [] S V mc ms
  | 2 => fun l G m a Q d mc ms S V as => XJ l G bX12_cut Q d 0 [vr m, vi (as.getD 0 0)] [] S V mc ms
  | 3 => fun l G m a Q d mc ms S V as => XJ l G bX12_isLetter Q d 0 [vi (as.getD 0 0)] [] S V mc ms
  | 4 => fun l G m a Q d mc ms S V as => XJ l G bX12_isDigit Q d 0 [vi (as.getD 0 0)] [] S V mc ms
  | 5 => fun l G m a Q d mc ms S V as => XJ l G bX12_at Q d 0 [vr m, vi (as.getD 0 0)] [] S V mc ms
  | 6 => fun l G m a Q d mc ms S V as => XJ l G bX12_next Q d 0 [vr m, vu, vu, vu, vu] [] S V mc ms
  | 7 => fun l G m a Q d mc ms S V as => XJ l G bX12_next Q d 8 [vr m, vu, vu, vu, vu] [] S V mc ms
  | 8 => fun l G m a Q d mc ms S V as => XJ l G bX12_next Q d 115 [vr m, vi (as.getD 0 0), vi (as.getD 1 0), vu, vu] [] S V mc ms
  | 9 => fun l G m a Q d mc ms S V as => XJ l G bX12_next Q d 249 [vr m, vi (as.getD 0 0), vi (as.getD 1 0), vi (as.getD 2 0), vi (as.getD 3 0)] [] S V mc ms
  | 10 => fun l G m a Q d mc ms S V as => XJ l G bX12_isSign Q d 0 [vr m, vi (as.getD 0 0)] [] S V mc ms
  | 11 => fun l G m a Q d mc ms S V as => XJ l G bX12_isWord Q d 0 [vr m, vr ((G.2.2.2.1 (as.getD 0 0).toNat : Int) + 1), vu, vu] [] S V mc ms
  | 12 => fun l G m a Q d mc ms S V as => XJ l G bX12_isWord Q d 32 [vr m, vr ((G.2.2.2.1 (as.getD 0 0).toNat : Int) + 1), vi (as.getD 1 0), vi (as.getD 2 0)] [] S V mc ms
  | 13 => fun l G m a Q d mc ms S V as => XJ l G bX12_isKeyword Q d 0 [vr m] [] S V mc ms
  | 14 => fun l G m a Q d mc ms S V as => XJ l G bX12_isName Q d 0 [vr m] [] S V mc ms
  | 15 => fun l G m a Q d mc ms S V as => XJ l G bX12_nameHere Q d 0 [vr m] [] S V mc ms
  | 16 => fun l G m a Q d mc ms S V as => XJ l G bX12_isSame Q d 0 [vr m, vi (as.getD 0 0), vi (as.getD 1 0), vu, vu] [] S V mc ms
  | 17 => fun l G m a Q d mc ms S V as => XJ l G bX12_isSame Q d 18 [vr m, vi (as.getD 0 0), vi (as.getD 1 0), vi (as.getD 2 0), vi (as.getD 3 0)] [] S V mc ms
  | 18 => fun l G m a Q d mc ms S V as => XJ l G bX12_isTwo Q d 0 [vi (as.getD 0 0)] [] S V mc ms
  | 19 => fun l G m a Q d mc ms S V as => XJ l G bX12_expression Q d 0 [vr m, vi (as.getD 0 0), vi (as.getD 1 0), vi (as.getD 2 0)] [] S V mc ms
  | 20 => fun l G m a Q d mc ms S V as => XJ l G bX12_fault Q d 0 [vr m, vi (as.getD 0 0)] [] S V mc ms
  | 21 => fun l G m a Q d mc ms S V as => XJ l G bX12_sign Q d 0 [vr m, vi (as.getD 0 0), vu] [] S V mc ms
  | 22 => fun l G m a Q d mc ms S V as => XJ l G bX12_newName Q d 0 [vr m, vi (as.getD 0 0)] [] S V mc ms
  | 23 => fun l G m a Q d mc ms S V as => XJ l G bX12_tells Q d 0 [vr m, vu, vu, vu] [] S V mc ms
  | 24 => fun l G m a Q d mc ms S V as => XJ l G bX12_tells Q d 19 [vr m, vi (as.getD 0 0), vi (as.getD 1 0), vi (as.getD 2 0)] [] S V mc ms
  | 25 => fun l G m a Q d mc ms S V as => XJ l G bX12_tells Q d 72 [vr m, vi (as.getD 0 0), vi (as.getD 1 0), vi (as.getD 2 0)] [] S V mc ms
  | 26 => fun l G m a Q d mc ms S V as => XJ l G bX12_tells Q d 124 [vr m, vi (as.getD 0 0), vi (as.getD 1 0), vi (as.getD 2 0)] [] S V mc ms
  | 27 => fun l G m a Q d mc ms S V as => XJ l G bX12_tells Q d 176 [vr m, vi (as.getD 0 0), vi (as.getD 1 0), vi (as.getD 2 0)] [] S V mc ms
  | 28 => fun l G m a Q d mc ms S V as => XJ l G bX12_enumOf Q d 0 [vr m, vi (as.getD 0 0), vu] [] S V mc ms
  | 29 => fun l G m a Q d mc ms S V as => XJ l G bX12_enumOf Q d 2 [vr m, vi (as.getD 0 0), vi (as.getD 1 0)] [] S V mc ms
  | 30 => fun l G m a Q d mc ms S V as => XJ l G bX12_readBook Q d 0 [vr m, vu] [] S V mc ms
  | 31 => fun l G m a Q d mc ms S V as => XJ l G bX12_readBook Q d 39 [vr m, vu] [] S V mc ms
  | 32 => fun l G m a Q d mc ms S V as => XJ l G bX12_readBook Q d 59 [vr m, vi (as.getD 0 0)] [] S V mc ms
  | 33 => fun l G m a Q d mc ms S V as => XJ l G bX12_readEnum Q d 0 [vr m, vu] [] S V mc ms
  | 34 => fun l G m a Q d mc ms S V as => XJ l G bX12_readEnum Q d 172 [vr m, vi (as.getD 0 0)] [] S V mc ms
  | 35 => fun l G m a Q d mc ms S V as => XJ l G bX12_readEnum Q d 211 [vr m, vi (as.getD 0 0)] [] S V mc ms
  | 36 => fun l G m a Q d mc ms S V as => XJ l G bX12_readEnum Q d 244 [vr m, vi (as.getD 0 0)] [] S V mc ms
  | 37 => fun l G m a Q d mc ms S V as => XJ l G bX12_readConstant Q d 0 [vr m, vu, vu, vu] [] S V mc ms
  | 38 => fun l G m a Q d mc ms S V as => XJ l G bX12_readConstant Q d 93 [vr m, vi (as.getD 0 0), vi (as.getD 1 0), vi (as.getD 2 0)] [] S V mc ms
  | 39 => fun l G m a Q d mc ms S V as => XJ l G bX12_readConstant Q d 172 [vr m, vi (as.getD 0 0), vi (as.getD 1 0), vi (as.getD 2 0)] [] S V mc ms
  | 40 => fun l G m a Q d mc ms S V as => XJ l G bX12_readAct Q d 0 [vr m, vi (as.getD 0 0), vu, vu, vu] [] S V mc ms
  | 41 => fun l G m a Q d mc ms S V as => XJ l G bX12_readAct Q d 36 [vr m, vi (as.getD 0 0), vi (as.getD 1 0), vu, vu] [] S V mc ms
  | 42 => fun l G m a Q d mc ms S V as => XJ l G bX12_readAct Q d 132 [vr m, vi (as.getD 0 0), vi (as.getD 1 0), vu, vu] [vi (as.getD 2 0)] S V mc ms
  | 43 => fun l G m a Q d mc ms S V as => XJ l G bX12_readAct Q d 224 [vr m, vi (as.getD 0 0), vi (as.getD 1 0), vi (as.getD 2 0), vu] [vi (as.getD 5 0), vi (as.getD 4 0), vi (as.getD 3 0), vr m] S V mc ms
  | 44 => fun l G m a Q d mc ms S V as => XJ l G bX12_readMember Q d 0 [vr m, vu, vu] [] S V mc ms
  | 45 => fun l G m a Q d mc ms S V as => XJ l G bX12_readTable Q d 0 [vr m, vu, vu] [] S V mc ms
  | 46 => fun l G m a Q d mc ms S V as => XJ l G bX12_readTable Q d 106 [vr m, vi (as.getD 0 0), vi (as.getD 1 0)] [] S V mc ms
  | 47 => fun l G m a Q d mc ms S V as => XJ l G bX12_readEntry Q d 0 [vr m, vi (as.getD 0 0), vu] [] S V mc ms
  | 48 => fun l G m a Q d mc ms S V as => XJ l G bX12_beginsExpr Q d 0 [vr m] [] S V mc ms
  | 49 => fun l G m a Q d mc ms S V as => XJ l G bX12_readSwitch Q d 0 [vr m, vu, vu, vu] [] S V mc ms
  | 50 => fun l G m a Q d mc ms S V as => XJ l G bX12_readSwitch Q d 95 [vr m, vi (as.getD 0 0), vi (as.getD 1 0), vu] [] S V mc ms
  | 51 => fun l G m a Q d mc ms S V as => XJ l G bX12_readCase Q d 0 [vr m, vi (as.getD 0 0), vu, vu, vu] [] S V mc ms
  | 52 => fun l G m a Q d mc ms S V as => XJ l G bX12_readCase Q d 26 [vr m, vi (as.getD 0 0), vi (as.getD 1 0), vi (as.getD 2 0), vu] [] S V mc ms
  | 53 => fun l G m a Q d mc ms S V as => XJ l G bX12_readExpr Q d 0 [vr m, vi (as.getD 0 0), vi (as.getD 1 0), vi (as.getD 2 0)] [] S V mc ms
  | 54 => fun l G m a Q d mc ms S V as => XJ l G bX12_readSum Q d 0 [vr m, vu, vu, vu] [] S V mc ms
  | 55 => fun l G m a Q d mc ms S V as => XJ l G bX12_readSum Q d 5 [vr m, vi (as.getD 0 0), vu, vu] [] S V mc ms
  | 56 => fun l G m a Q d mc ms S V as => XJ l G bX12_readTerm Q d 0 [vr m, vu, vu, vu] [] S V mc ms
  | 57 => fun l G m a Q d mc ms S V as => XJ l G bX12_readTerm Q d 5 [vr m, vi (as.getD 0 0), vu, vu] [] S V mc ms
  | 58 => fun l G m a Q d mc ms S V as => XJ l G bX12_readFactor Q d 0 [vr m, vu, vu] [] S V mc ms
  | 59 => fun l G m a Q d mc ms S V as => XJ l G bX12_readFactor Q d 89 [vr m, vi (as.getD 0 0), vi (as.getD 1 0)] [] S V mc ms
  | 60 => fun l G m a Q d mc ms S V as => XJ l G bX12_readFactor Q d 203 [vr m, vu, vu] [] S V mc ms
  | 61 => fun l G m a Q d mc ms S V as => XJ l G bX12_taken Q d 0 [vr m, vi (as.getD 0 0)] [] S V mc ms
  | 62 => fun l G m a Q d mc ms S V as => XJ l G bX12_readReference Q d 0 [vr m, vu, vu, vu, vu] [] S V mc ms
  | 63 => fun l G m a Q d mc ms S V as => XJ l G bX12_settle Q d 0 [vr m, vi (as.getD 0 0), vu, vu, vu, vu, vu, vu] [] S V mc ms
  | 64 => fun l G m a Q d mc ms S V as => XJ l G bX12_settle Q d 79 [vr m, vi (as.getD 0 0), vi (as.getD 1 0), vi (as.getD 2 0), vu, vu, vu, vu] [vi (as.getD 3 0)] S V mc ms
  | 65 => fun l G m a Q d mc ms S V as => XJ l G bX12_settle Q d 266 [vr m, vi (as.getD 0 0), vi (as.getD 1 0), vi (as.getD 2 0), vi (as.getD 3 0), vi (as.getD 4 0), vi (as.getD 5 0), vi (as.getD 6 0)] [] S V mc ms
  | 66 => fun l G m a Q d mc ms S V as => XJ l G bX12_lacks Q d 0 [vr m, vi (as.getD 0 0)] [] S V mc ms
  | 67 => fun l G m a Q d mc ms S V as => XJ l G bX12_among Q d 0 [vr m, vr (a (as.getD 0 0)), vi (as.getD 1 0), vi (as.getD 2 0), vi (as.getD 3 0), vu] [] S V mc ms
  | 68 => fun l G m a Q d mc ms S V as => XJ l G bX12_among Q d 3 [vr m, vr (a (as.getD 0 0)), vi (as.getD 1 0), vi (as.getD 2 0), vi (as.getD 3 0), vi (as.getD 4 0)] [] S V mc ms
  | 69 => fun l G m a Q d mc ms S V as => XJ l G bX12_book Q d 0 [vr m, vu] [] S V mc ms
  | 70 => fun l G m a Q d mc ms S V as => XJ l G bX12_book Q d 22 [vr m, vi (as.getD 0 0)] [] S V mc ms
  | 71 => fun l G m a Q d mc ms S V as => XJ l G bX12_wrong Q d 0 [vr m] [] S V mc ms
  | 72 => fun l G m a Q d mc ms S V as => XJ l G bX12_asleep Q d 0 [vr m, vi (as.getD 0 0), vu, vu] [] S V mc ms
  | 73 => fun l G m a Q d mc ms S V as => XJ l G bX12_asleep Q d 2 [vr m, vi (as.getD 0 0), vi (as.getD 1 0), vu] [] S V mc ms
  | 74 => fun l G m a Q d mc ms S V as => XJ l G bX12_asleep Q d 33 [vr m, vi (as.getD 0 0), vi (as.getD 1 0), vu] [] S V mc ms
  | 75 => fun l G m a Q d mc ms S V as => XJ l G bX12_asleep Q d 53 [vr m, vi (as.getD 0 0), vi (as.getD 1 0), vi (as.getD 2 0)] [] S V mc ms
  | 76 => fun l G m a Q d mc ms S V as => XJ l G bX12_failing Q d 0 [vr m, vi (as.getD 0 0), vi (as.getD 1 0)] [] S V mc ms
  | 77 => fun l G m a Q d mc ms S V as => XJ l G bX12_use Q d 0 [vr m, vi (as.getD 0 0), vu, vu] [] S V mc ms
  | 78 => fun l G m a Q d mc ms S V as => XJ l G bX12_starts Q d 0 [vr m, vi (as.getD 0 0), vu] [] S V mc ms
  | 79 => fun l G m a Q d mc ms S V as => XJ l G bX12_startsHolder Q d 0 [vr m, vi (as.getD 0 0), vu] [] S V mc ms
  | 80 => fun l G m a Q d mc ms S V as => XJ l G bX12_startsEnum Q d 0 [vr m, vi (as.getD 0 0), vu, vu, vu] [] S V mc ms
  | 81 => fun l G m a Q d mc ms S V as => XJ l G bX12_startsEnum Q d 2 [vr m, vi (as.getD 0 0), vi (as.getD 1 0), vu, vu] [] S V mc ms
  | 82 => fun l G m a Q d mc ms S V as => XJ l G bX12_startsEnum Q d 83 [vr m, vi (as.getD 0 0), vi (as.getD 1 0), vu, vu] [] S V mc ms
  | 83 => fun l G m a Q d mc ms S V as => XJ l G bX12_startsEnum Q d 99 [vr m, vi (as.getD 0 0), vi (as.getD 1 0), vi (as.getD 2 0), vu] [] S V mc ms
  | 84 => fun l G m a Q d mc ms S V as => XJ l G bX12_startsEnum Q d 173 [vr m, vi (as.getD 0 0), vi (as.getD 1 0), vu, vu] [] S V mc ms
  | 85 => fun l G m a Q d mc ms S V as => XJ l G bX12_sees Q d 0 [vr m, vi (as.getD 0 0), vi (as.getD 1 0), vu] [] S V mc ms
  | 86 => fun l G m a Q d mc ms S V as => XJ l G bX12_value Q d 0 [vr m, vi (as.getD 0 0), vi (as.getD 1 0), vi (as.getD 2 0), vu, vu, vu, vu] [] S V mc ms
  | 87 => fun l G m a Q d mc ms S V as => XJ l G bX12_entryOf Q d 0 [vr m, vi (as.getD 0 0), vi (as.getD 1 0), vi (as.getD 2 0), vu, vu, vu] [] S V mc ms
  | 88 => fun l G m a Q d mc ms S V as => XJ l G bX12_both Q d 0 [vr m, vi (as.getD 0 0), vi (as.getD 1 0), vi (as.getD 2 0), vu, vu] [] S V mc ms
  | 89 => fun l G m a Q d mc ms S V as => XJ l G bX12_both Q d 3 [vr m, vi (as.getD 0 0), vi (as.getD 1 0), vi (as.getD 2 0), vi (as.getD 3 0), vu] [] S V mc ms
  | 90 => fun l G m a Q d mc ms S V as => XJ l G bX12_both Q d 48 [vr m, vi (as.getD 0 0), vi (as.getD 1 0), vi (as.getD 2 0), vi (as.getD 3 0), vi (as.getD 4 0)] [] S V mc ms
  | 91 => fun l G m a Q d mc ms S V as => XJ l G bX12_joined Q d 0 [vr m, vi (as.getD 0 0), vi (as.getD 1 0), vi (as.getD 2 0)] [] S V mc ms
  | 92 => fun l G m a Q d mc ms S V as => XJ l G bX12_isEnum Q d 0 [vr m, vi (as.getD 0 0), vi (as.getD 1 0)] [] S V mc ms
  | 93 => fun l G m a Q d mc ms S V as => XJ l G bX12_isConstant Q d 0 [vr m, vi (as.getD 0 0), vi (as.getD 1 0), vi (as.getD 2 0)] [] S V mc ms
  | 94 => fun l G m a Q d mc ms S V as => XJ l G bX12_begin Q d 0 [vr m, vi (as.getD 0 0)] [] S V mc ms
  | 95 => fun l G m a Q d mc ms S V as => XJ l G bX12_ends Q d 0 [vr m, vi (as.getD 0 0)] [] S V mc ms
  | 96 => fun l G m a Q d mc ms S V as => XJ l G bX12_uses Q d 0 [vr m, vi (as.getD 0 0), vi (as.getD 1 0)] [] S V mc ms
  | 97 => fun l G m a Q d mc ms S V as => XJ l G bX12_told Q d 0 [vr m, vi (as.getD 0 0), vi (as.getD 1 0)] [] S V mc ms
  | 98 => fun l G m a Q d mc ms S V as => XJ l G bX12_about Q d 0 [vr m, vi (as.getD 0 0), vi (as.getD 1 0), vi (as.getD 2 0), vu] [] S V mc ms
  | 99 => fun l G m a Q d mc ms S V as => XJ l G bX12_isItem Q d 0 [vr m, vi (as.getD 0 0), vi (as.getD 1 0), vu] [] S V mc ms
  | 100 => fun l G m a Q d mc ms S V as => XJ l G bX12_state Q d 0 [vr m, vi (as.getD 0 0), vi (as.getD 1 0)] [] S V mc ms
  | 101 => fun l G m a Q d mc ms S V as => XJ l G bX12_letter Q d 0 [vr m, vi (as.getD 0 0), vi (as.getD 1 0), vi (as.getD 2 0), vi (as.getD 3 0), vu, vu] [] S V mc ms
  | 102 => fun l G m a Q d mc ms S V as => XJ l G bX12_body Q d 0 [vr m, vi (as.getD 0 0), vi (as.getD 1 0), vi (as.getD 2 0), vi (as.getD 3 0), vu] [] S V mc ms
  | 103 => fun l G m a Q d mc ms S V as => XJ l G bX12_use_ Q d 0 [vr m, vi (as.getD 0 0), vi (as.getD 1 0)] [] S V mc ms
  | 104 => fun l G m a Q d mc ms S V as => XJ l G bX12_argument Q d 0 [vr m, vi (as.getD 0 0), vi (as.getD 1 0), vi (as.getD 2 0), vu] [] S V mc ms
  | 105 => fun l G m a Q d mc ms S V as => XJ l G bX12_act Q d 0 [vr m, vi (as.getD 0 0), vi (as.getD 1 0), vi (as.getD 2 0), vi (as.getD 3 0), vu, vu, vu] [] S V mc ms
  | 106 => fun l G m a Q d mc ms S V as => XJ l G bX12_entry Q d 0 [vr m, vi (as.getD 0 0), vi (as.getD 1 0), vi (as.getD 2 0), vi (as.getD 3 0), vu, vu] [] S V mc ms
  | 107 => fun l G m a Q d mc ms S V as => XJ l G bX12_holder Q d 0 [vr m, vi (as.getD 0 0), vi (as.getD 1 0), vi (as.getD 2 0), vu] [] S V mc ms
  | 108 => fun l G m a Q d mc ms S V as => XJ l G bX12_branch Q d 0 [vr m, vi (as.getD 0 0), vi (as.getD 1 0), vi (as.getD 2 0), vi (as.getD 3 0), vu, vu, vu] [] S V mc ms
  | 109 => fun l G m a Q d mc ms S V as => XJ l G bX12_branch Q d 70 [vr m, vi (as.getD 0 0), vi (as.getD 1 0), vi (as.getD 2 0), vi (as.getD 3 0), vi (as.getD 4 0), vi (as.getD 5 0), vi (as.getD 6 0)] [] S V mc ms
  | 110 => fun l G m a Q d mc ms S V as => XJ l G bX12_out Q d 0 [vr m] [] S V mc ms
  | 111 => fun l G m a Q d mc ms S V as => XJ l G bX12_cause Q d 0 [vr m, vi (as.getD 0 0), vi (as.getD 1 0), vu] [] S V mc ms
  | 112 => fun l G m a Q d mc ms S V as => XJ l G bX12_start Q d 0 [vr m, vi (as.getD 0 0), vi (as.getD 1 0)] [] S V mc ms
  | 113 => fun l G m a Q d mc ms S V as => XJ l G bX12_seen Q d 0 [vr m, vi (as.getD 0 0), vi (as.getD 1 0), vi (as.getD 2 0)] [] S V mc ms
  | 114 => fun l G m a Q d mc ms S V as => XJ l G bX12_set Q d 0 [vr m, vi (as.getD 0 0), vi (as.getD 1 0)] [] S V mc ms
  | 115 => fun l G m a Q d mc ms S V as => XJ l G bX12_isIn Q d 0 [vr m, vi (as.getD 0 0), vi (as.getD 1 0)] [] S V mc ms
  | 116 => fun l G m a Q d mc ms S V as => XJ l G bX12_add Q d 0 [vr m, vi (as.getD 0 0), vi (as.getD 1 0), vu] [] S V mc ms
  | 117 => fun l G m a Q d mc ms S V as => XJ l G bX12_take Q d 0 [vr m, vi (as.getD 0 0), vi (as.getD 1 0), vu] [] S V mc ms
  | 118 => fun l G m a Q d mc ms S V as => XJ l G bX12_join Q d 0 [vr m, vi (as.getD 0 0), vi (as.getD 1 0), vi (as.getD 2 0), vu, vu] [] S V mc ms
  | 119 => fun l G m a Q d mc ms S V as => XJ l G bX12_member Q d 0 [vr m, vi (as.getD 0 0), vi (as.getD 1 0), vu, vu] [] S V mc ms
  | 120 => fun l G m a Q d mc ms S V as => XJ l G bX12_member Q d 24 [vr m, vi (as.getD 0 0), vi (as.getD 1 0), vi (as.getD 2 0), vi (as.getD 3 0)] [] S V mc ms
  | 121 => fun l G m a Q d mc ms S V as => XJ l G bX12_map Q d 0 [vr m, vi (as.getD 0 0), vi (as.getD 1 0)] [] S V mc ms
  | 122 => fun l G m a Q d mc ms S V as => XJ l G bX12_isMapped Q d 0 [vr m, vi (as.getD 0 0), vi (as.getD 1 0)] [] S V mc ms
  | 123 => fun l G m a Q d mc ms S V as => XJ l G bX12_put Q d 0 [vr m, vi (as.getD 0 0), vi (as.getD 1 0), vi (as.getD 2 0), vu] [] S V mc ms
  | 124 => fun l G m a Q d mc ms S V as => XJ l G bX12_get Q d 0 [vr m, vi (as.getD 0 0), vi (as.getD 1 0)] [] S V mc ms
  | 125 => fun l G m a Q d mc ms S V as => XJ l G bX12_constantHere Q d 0 [vr m, vi (as.getD 0 0), vu, vu, vu, vu, vu] [] S V mc ms
  | 126 => fun l G m a Q d mc ms S V as => XJ l G bX12_constantHere Q d 14 [vr m, vi (as.getD 0 0), vi (as.getD 1 0), vu, vu, vu, vu] [] S V mc ms
  | 127 => fun l G m a Q d mc ms S V as => XJ l G bX12_constantHere Q d 34 [vr m, vi (as.getD 0 0), vi (as.getD 1 0), vi (as.getD 2 0), vu, vu, vu] [] S V mc ms
  | 128 => fun l G m a Q d mc ms S V as => XJ l G bX12_constantHere Q d 84 [vr m, vi (as.getD 0 0), vi (as.getD 1 0), vi (as.getD 2 0), vi (as.getD 3 0), vi (as.getD 4 0), vi (as.getD 5 0)] [] S V mc ms
  | 129 => fun l G m a Q d mc ms S V as => XJ l G bX12_encode Q d 0 [vr m, vi (as.getD 0 0), vu, vu, vu, vu, vu] [] S V mc ms
  | 130 => fun l G m a Q d mc ms S V as => XJ l G bX12_encode Q d 51 [vr m, vi (as.getD 0 0), vi (as.getD 1 0), vi (as.getD 2 0), vi (as.getD 3 0), vi (as.getD 4 0), vu] [] S V mc ms
  | 131 => fun l G m a Q d mc ms S V as => XJ l G bX12_signal Q d 0 [vr m, vi (as.getD 0 0), vi (as.getD 1 0), vi (as.getD 2 0), vu] [] S V mc ms
  | 132 => fun l G m a Q d mc ms S V as => XJ l G bX12_put_ Q d 0 [vr m, vi (as.getD 0 0)] [] S V mc ms
  | 133 => fun l G m a Q d mc ms S V as => XJ l G bX12_decode Q d 0 [vr m, vi (as.getD 0 0), vu, vu, vu] [] S V mc ms
  | 134 => fun l G m a Q d mc ms S V as => XJ l G bX12_decode Q d 24 [vr m, vi (as.getD 0 0), vi (as.getD 1 0), vu, vu] [] S V mc ms
  | 135 => fun l G m a Q d mc ms S V as => XJ l G bX12_decode Q d 67 [vr m, vi (as.getD 0 0), vi (as.getD 1 0), vi (as.getD 2 0), vi (as.getD 3 0)] [] S V mc ms
  | 136 => fun l G m a Q d mc ms S V as => XJ l G bX12_decode Q d 119 [vr m, vi (as.getD 0 0), vi (as.getD 1 0), vi (as.getD 2 0), vi (as.getD 3 0)] [] S V mc ms
  | 137 => fun l G m a Q d mc ms S V as => XJ l G bX12_decode Q d 143 [vr m, vi (as.getD 0 0), vi (as.getD 1 0), vi (as.getD 2 0), vi (as.getD 3 0)] [] S V mc ms
  | 138 => fun l G m a Q d mc ms S V as => XJ l G bX12_decode Q d 193 [vr m, vi (as.getD 0 0), vi (as.getD 1 0), vu, vu] [] S V mc ms
  | _ => fun _ _ _ _ _ _ _ _ _ _ _ => True

def mB : Nat → BT
  | 0 => bX12_feed
  | 1 => bX12_feed
  | 2 => bX12_cut
  | 3 => bX12_isLetter
  | 4 => bX12_isDigit
  | 5 => bX12_at
  | 6 => bX12_next
  | 7 => bX12_next
  | 8 => bX12_next
  | 9 => bX12_next
  | 10 => bX12_isSign
  | 11 => bX12_isWord
  | 12 => bX12_isWord
  | 13 => bX12_isKeyword
  | 14 => bX12_isName
  | 15 => bX12_nameHere
  | 16 => bX12_isSame
  | 17 => bX12_isSame
  | 18 => bX12_isTwo
  | 19 => bX12_expression
  | 20 => bX12_fault
  | 21 => bX12_sign
  | 22 => bX12_newName
  | 23 => bX12_tells
  | 24 => bX12_tells
  | 25 => bX12_tells
  | 26 => bX12_tells
  | 27 => bX12_tells
  | 28 => bX12_enumOf
  | 29 => bX12_enumOf
  | 30 => bX12_readBook
  | 31 => bX12_readBook
  | 32 => bX12_readBook
  | 33 => bX12_readEnum
  | 34 => bX12_readEnum
  | 35 => bX12_readEnum
  | 36 => bX12_readEnum
  | 37 => bX12_readConstant
  | 38 => bX12_readConstant
  | 39 => bX12_readConstant
  | 40 => bX12_readAct
  | 41 => bX12_readAct
  | 42 => bX12_readAct
  | 43 => bX12_readAct
  | 44 => bX12_readMember
  | 45 => bX12_readTable
  | 46 => bX12_readTable
  | 47 => bX12_readEntry
  | 48 => bX12_beginsExpr
  | 49 => bX12_readSwitch
  | 50 => bX12_readSwitch
  | 51 => bX12_readCase
  | 52 => bX12_readCase
  | 53 => bX12_readExpr
  | 54 => bX12_readSum
  | 55 => bX12_readSum
  | 56 => bX12_readTerm
  | 57 => bX12_readTerm
  | 58 => bX12_readFactor
  | 59 => bX12_readFactor
  | 60 => bX12_readFactor
  | 61 => bX12_taken
  | 62 => bX12_readReference
  | 63 => bX12_settle
  | 64 => bX12_settle
  | 65 => bX12_settle
  | 66 => bX12_lacks
  | 67 => bX12_among
  | 68 => bX12_among
  | 69 => bX12_book
  | 70 => bX12_book
  | 71 => bX12_wrong
  | 72 => bX12_asleep
  | 73 => bX12_asleep
  | 74 => bX12_asleep
  | 75 => bX12_asleep
  | 76 => bX12_failing
  | 77 => bX12_use
  | 78 => bX12_starts
  | 79 => bX12_startsHolder
  | 80 => bX12_startsEnum
  | 81 => bX12_startsEnum
  | 82 => bX12_startsEnum
  | 83 => bX12_startsEnum
  | 84 => bX12_startsEnum
  | 85 => bX12_sees
  | 86 => bX12_value
  | 87 => bX12_entryOf
  | 88 => bX12_both
  | 89 => bX12_both
  | 90 => bX12_both
  | 91 => bX12_joined
  | 92 => bX12_isEnum
  | 93 => bX12_isConstant
  | 94 => bX12_begin
  | 95 => bX12_ends
  | 96 => bX12_uses
  | 97 => bX12_told
  | 98 => bX12_about
  | 99 => bX12_isItem
  | 100 => bX12_state
  | 101 => bX12_letter
  | 102 => bX12_body
  | 103 => bX12_use_
  | 104 => bX12_argument
  | 105 => bX12_act
  | 106 => bX12_entry
  | 107 => bX12_holder
  | 108 => bX12_branch
  | 109 => bX12_branch
  | 110 => bX12_out
  | 111 => bX12_cause
  | 112 => bX12_start
  | 113 => bX12_seen
  | 114 => bX12_set
  | 115 => bX12_isIn
  | 116 => bX12_add
  | 117 => bX12_take
  | 118 => bX12_join
  | 119 => bX12_member
  | 120 => bX12_member
  | 121 => bX12_map
  | 122 => bX12_isMapped
  | 123 => bX12_put
  | 124 => bX12_get
  | 125 => bX12_constantHere
  | 126 => bX12_constantHere
  | 127 => bX12_constantHere
  | 128 => bX12_constantHere
  | 129 => bX12_encode
  | 130 => bX12_encode
  | 131 => bX12_signal
  | 132 => bX12_put_
  | 133 => bX12_decode
  | 134 => bX12_decode
  | 135 => bX12_decode
  | 136 => bX12_decode
  | 137 => bX12_decode
  | 138 => bX12_decode
  | _ => bX12_feed

def mArgs : Nat → (GT → Int → (Int → Int) → List Int → List AV)
  | 0 => fun G m a as => [vr m, vl (as.getD 0 0), vi (as.getD 1 0)]
  | 1 => fun _ _ _ _ => []
  | 2 => fun G m a as => [vr m, vi (as.getD 0 0)]
  | 3 => fun G m a as => [vi (as.getD 0 0)]
  | 4 => fun G m a as => [vi (as.getD 0 0)]
  | 5 => fun G m a as => [vr m, vi (as.getD 0 0)]
  | 6 => fun G m a as => [vr m]
  | 7 => fun _ _ _ _ => []
  | 8 => fun _ _ _ _ => []
  | 9 => fun _ _ _ _ => []
  | 10 => fun G m a as => [vr m, vi (as.getD 0 0)]
  | 11 => fun G m a as => [vr m, vr ((G.2.2.2.1 (as.getD 0 0).toNat : Int) + 1)]
  | 12 => fun _ _ _ _ => []
  | 13 => fun G m a as => [vr m]
  | 14 => fun G m a as => [vr m]
  | 15 => fun G m a as => [vr m]
  | 16 => fun G m a as => [vr m, vi (as.getD 0 0), vi (as.getD 1 0)]
  | 17 => fun _ _ _ _ => []
  | 18 => fun G m a as => [vi (as.getD 0 0)]
  | 19 => fun G m a as => [vr m, vi (as.getD 0 0), vi (as.getD 1 0), vi (as.getD 2 0)]
  | 20 => fun G m a as => [vr m, vi (as.getD 0 0)]
  | 21 => fun G m a as => [vr m, vi (as.getD 0 0)]
  | 22 => fun G m a as => [vr m, vi (as.getD 0 0)]
  | 23 => fun G m a as => [vr m]
  | 24 => fun _ _ _ _ => []
  | 25 => fun _ _ _ _ => []
  | 26 => fun _ _ _ _ => []
  | 27 => fun _ _ _ _ => []
  | 28 => fun G m a as => [vr m, vi (as.getD 0 0)]
  | 29 => fun _ _ _ _ => []
  | 30 => fun G m a as => [vr m]
  | 31 => fun _ _ _ _ => []
  | 32 => fun _ _ _ _ => []
  | 33 => fun G m a as => [vr m]
  | 34 => fun _ _ _ _ => []
  | 35 => fun _ _ _ _ => []
  | 36 => fun _ _ _ _ => []
  | 37 => fun G m a as => [vr m]
  | 38 => fun _ _ _ _ => []
  | 39 => fun _ _ _ _ => []
  | 40 => fun G m a as => [vr m, vi (as.getD 0 0)]
  | 41 => fun _ _ _ _ => []
  | 42 => fun _ _ _ _ => []
  | 43 => fun _ _ _ _ => []
  | 44 => fun G m a as => [vr m]
  | 45 => fun G m a as => [vr m]
  | 46 => fun _ _ _ _ => []
  | 47 => fun G m a as => [vr m, vi (as.getD 0 0)]
  | 48 => fun G m a as => [vr m]
  | 49 => fun G m a as => [vr m]
  | 50 => fun _ _ _ _ => []
  | 51 => fun G m a as => [vr m, vi (as.getD 0 0)]
  | 52 => fun _ _ _ _ => []
  | 53 => fun G m a as => [vr m, vi (as.getD 0 0), vi (as.getD 1 0), vi (as.getD 2 0)]
  | 54 => fun G m a as => [vr m]
  | 55 => fun _ _ _ _ => []
  | 56 => fun G m a as => [vr m]
  | 57 => fun _ _ _ _ => []
  | 58 => fun G m a as => [vr m]
  | 59 => fun _ _ _ _ => []
  | 60 => fun _ _ _ _ => []
  | 61 => fun G m a as => [vr m, vi (as.getD 0 0)]
  | 62 => fun G m a as => [vr m]
  | 63 => fun G m a as => [vr m, vi (as.getD 0 0)]
  | 64 => fun _ _ _ _ => []
  | 65 => fun _ _ _ _ => []
  | 66 => fun G m a as => [vr m, vi (as.getD 0 0)]
  | 67 => fun G m a as => [vr m, vr (a (as.getD 0 0)), vi (as.getD 1 0), vi (as.getD 2 0), vi (as.getD 3 0)]
  | 68 => fun _ _ _ _ => []
  | 69 => fun G m a as => [vr m]
  | 70 => fun _ _ _ _ => []
  | 71 => fun G m a as => [vr m]
  | 72 => fun G m a as => [vr m, vi (as.getD 0 0)]
  | 73 => fun _ _ _ _ => []
  | 74 => fun _ _ _ _ => []
  | 75 => fun _ _ _ _ => []
  | 76 => fun G m a as => [vr m, vi (as.getD 0 0), vi (as.getD 1 0)]
  | 77 => fun G m a as => [vr m, vi (as.getD 0 0)]
  | 78 => fun G m a as => [vr m, vi (as.getD 0 0)]
  | 79 => fun G m a as => [vr m, vi (as.getD 0 0)]
  | 80 => fun G m a as => [vr m, vi (as.getD 0 0)]
  | 81 => fun _ _ _ _ => []
  | 82 => fun _ _ _ _ => []
  | 83 => fun _ _ _ _ => []
  | 84 => fun _ _ _ _ => []
  | 85 => fun G m a as => [vr m, vi (as.getD 0 0), vi (as.getD 1 0)]
  | 86 => fun G m a as => [vr m, vi (as.getD 0 0), vi (as.getD 1 0), vi (as.getD 2 0)]
  | 87 => fun G m a as => [vr m, vi (as.getD 0 0), vi (as.getD 1 0), vi (as.getD 2 0)]
  | 88 => fun G m a as => [vr m, vi (as.getD 0 0), vi (as.getD 1 0), vi (as.getD 2 0)]
  | 89 => fun _ _ _ _ => []
  | 90 => fun _ _ _ _ => []
  | 91 => fun G m a as => [vr m, vi (as.getD 0 0), vi (as.getD 1 0), vi (as.getD 2 0)]
  | 92 => fun G m a as => [vr m, vi (as.getD 0 0), vi (as.getD 1 0)]
  | 93 => fun G m a as => [vr m, vi (as.getD 0 0), vi (as.getD 1 0), vi (as.getD 2 0)]
  | 94 => fun G m a as => [vr m, vi (as.getD 0 0)]
  | 95 => fun G m a as => [vr m, vi (as.getD 0 0)]
  | 96 => fun G m a as => [vr m, vi (as.getD 0 0), vi (as.getD 1 0)]
  | 97 => fun G m a as => [vr m, vi (as.getD 0 0), vi (as.getD 1 0)]
  | 98 => fun G m a as => [vr m, vi (as.getD 0 0), vi (as.getD 1 0), vi (as.getD 2 0)]
  | 99 => fun G m a as => [vr m, vi (as.getD 0 0), vi (as.getD 1 0)]
  | 100 => fun G m a as => [vr m, vi (as.getD 0 0), vi (as.getD 1 0)]
  | 101 => fun G m a as => [vr m, vi (as.getD 0 0), vi (as.getD 1 0), vi (as.getD 2 0), vi (as.getD 3 0)]
  | 102 => fun G m a as => [vr m, vi (as.getD 0 0), vi (as.getD 1 0), vi (as.getD 2 0), vi (as.getD 3 0)]
  | 103 => fun G m a as => [vr m, vi (as.getD 0 0), vi (as.getD 1 0)]
  | 104 => fun G m a as => [vr m, vi (as.getD 0 0), vi (as.getD 1 0), vi (as.getD 2 0)]
  | 105 => fun G m a as => [vr m, vi (as.getD 0 0), vi (as.getD 1 0), vi (as.getD 2 0), vi (as.getD 3 0)]
  | 106 => fun G m a as => [vr m, vi (as.getD 0 0), vi (as.getD 1 0), vi (as.getD 2 0), vi (as.getD 3 0)]
  | 107 => fun G m a as => [vr m, vi (as.getD 0 0), vi (as.getD 1 0), vi (as.getD 2 0)]
  | 108 => fun G m a as => [vr m, vi (as.getD 0 0), vi (as.getD 1 0), vi (as.getD 2 0), vi (as.getD 3 0)]
  | 109 => fun _ _ _ _ => []
  | 110 => fun G m a as => [vr m]
  | 111 => fun G m a as => [vr m, vi (as.getD 0 0), vi (as.getD 1 0)]
  | 112 => fun G m a as => [vr m, vi (as.getD 0 0), vi (as.getD 1 0)]
  | 113 => fun G m a as => [vr m, vi (as.getD 0 0), vi (as.getD 1 0), vi (as.getD 2 0)]
  | 114 => fun G m a as => [vr m, vi (as.getD 0 0), vi (as.getD 1 0)]
  | 115 => fun G m a as => [vr m, vi (as.getD 0 0), vi (as.getD 1 0)]
  | 116 => fun G m a as => [vr m, vi (as.getD 0 0), vi (as.getD 1 0)]
  | 117 => fun G m a as => [vr m, vi (as.getD 0 0), vi (as.getD 1 0)]
  | 118 => fun G m a as => [vr m, vi (as.getD 0 0), vi (as.getD 1 0), vi (as.getD 2 0)]
  | 119 => fun G m a as => [vr m, vi (as.getD 0 0), vi (as.getD 1 0)]
  | 120 => fun _ _ _ _ => []
  | 121 => fun G m a as => [vr m, vi (as.getD 0 0), vi (as.getD 1 0)]
  | 122 => fun G m a as => [vr m, vi (as.getD 0 0), vi (as.getD 1 0)]
  | 123 => fun G m a as => [vr m, vi (as.getD 0 0), vi (as.getD 1 0), vi (as.getD 2 0)]
  | 124 => fun G m a as => [vr m, vi (as.getD 0 0), vi (as.getD 1 0)]
  | 125 => fun G m a as => [vr m, vi (as.getD 0 0)]
  | 126 => fun _ _ _ _ => []
  | 127 => fun _ _ _ _ => []
  | 128 => fun _ _ _ _ => []
  | 129 => fun G m a as => [vr m, vi (as.getD 0 0)]
  | 130 => fun _ _ _ _ => []
  | 131 => fun G m a as => [vr m, vi (as.getD 0 0), vi (as.getD 1 0), vi (as.getD 2 0)]
  | 132 => fun G m a as => [vr m, vi (as.getD 0 0)]
  | 133 => fun G m a as => [vr m, vi (as.getD 0 0)]
  | 134 => fun _ _ _ _ => []
  | 135 => fun _ _ _ _ => []
  | 136 => fun _ _ _ _ => []
  | 137 => fun _ _ _ _ => []
  | 138 => fun _ _ _ _ => []
  | _ => fun _ _ _ _ => []

def mE : Nat → Bool
  | 0 => true
  | 1 => false
  | 2 => true
  | 3 => true
  | 4 => true
  | 5 => true
  | 6 => true
  | 7 => false
  | 8 => false
  | 9 => false
  | 10 => true
  | 11 => true
  | 12 => false
  | 13 => true
  | 14 => true
  | 15 => true
  | 16 => true
  | 17 => false
  | 18 => true
  | 19 => true
  | 20 => true
  | 21 => true
  | 22 => true
  | 23 => true
  | 24 => false
  | 25 => false
  | 26 => false
  | 27 => false
  | 28 => true
  | 29 => false
  | 30 => true
  | 31 => false
  | 32 => false
  | 33 => true
  | 34 => false
  | 35 => false
  | 36 => false
  | 37 => true
  | 38 => false
  | 39 => false
  | 40 => true
  | 41 => false
  | 42 => false
  | 43 => false
  | 44 => true
  | 45 => true
  | 46 => false
  | 47 => true
  | 48 => true
  | 49 => true
  | 50 => false
  | 51 => true
  | 52 => false
  | 53 => true
  | 54 => true
  | 55 => false
  | 56 => true
  | 57 => false
  | 58 => true
  | 59 => false
  | 60 => false
  | 61 => true
  | 62 => true
  | 63 => true
  | 64 => false
  | 65 => false
  | 66 => true
  | 67 => true
  | 68 => false
  | 69 => true
  | 70 => false
  | 71 => true
  | 72 => true
  | 73 => false
  | 74 => false
  | 75 => false
  | 76 => true
  | 77 => true
  | 78 => true
  | 79 => true
  | 80 => true
  | 81 => false
  | 82 => false
  | 83 => false
  | 84 => false
  | 85 => true
  | 86 => true
  | 87 => true
  | 88 => true
  | 89 => false
  | 90 => false
  | 91 => true
  | 92 => true
  | 93 => true
  | 94 => true
  | 95 => true
  | 96 => true
  | 97 => true
  | 98 => true
  | 99 => true
  | 100 => true
  | 101 => true
  | 102 => true
  | 103 => true
  | 104 => true
  | 105 => true
  | 106 => true
  | 107 => true
  | 108 => true
  | 109 => false
  | 110 => true
  | 111 => true
  | 112 => true
  | 113 => true
  | 114 => true
  | 115 => true
  | 116 => true
  | 117 => true
  | 118 => true
  | 119 => true
  | 120 => false
  | 121 => true
  | 122 => true
  | 123 => true
  | 124 => true
  | 125 => true
  | 126 => false
  | 127 => false
  | 128 => false
  | 129 => true
  | 130 => false
  | 131 => true
  | 132 => true
  | 133 => true
  | 134 => false
  | 135 => false
  | 136 => false
  | 137 => false
  | 138 => false
  | _ => false

def RCok (l : Launch) (G : GT) (m : Int) (a : Int → Int) (S : Sh) (V0 : Mem) (Q : Int → Mem → Prop) (d mc ms : Nat) (rc : MP) : Prop := ∀ (id : Nat) (as : List Int) (M V : Mem), rc id as M → MR m a S V M → MF m a V0 V → XM id l G m a (Qm m a S V0 Q) (d + 1) mc ms S V as
def CLok (l : Launch) (G : GT) (m : Int) (a : Int → Int) (S : Sh) (d : Nat) (cl : MC) : Prop := ∀ (id : Nat), mE id = true → ∀ (as : List Int) (M V : Mem) (K : Int → Mem → Prop), cl id as M K → MR m a S V M → Ct l G (mB id) (Qm m a S V K) d 0 0 (mArgs id G m a as) S V
