def PMb : Nat → (MP → MC → (Int → Mem → Prop) → Nat → List Int → Mem → Prop)
  | 0 => fun rc cl Q d as M => B_feed_0 rc cl Q d (as.getD 0 0) (as.getD 1 0) M
  | 1 => fun rc cl Q d as M => B_feed_34 rc cl Q d (as.getD 0 0) (as.getD 1 0) (as.getD 2 0) M
  | 2 => fun rc cl Q d as M => B_cut_0 rc cl Q d (as.getD 0 0) M
  | 3 => fun rc cl Q d as M => B_isLetter_0 rc cl Q d (as.getD 0 0) M
  | 4 => fun rc cl Q d as M => B_isDigit_0 rc cl Q d (as.getD 0 0) M
  | 5 => fun rc cl Q d as M => B_at_0 rc cl Q d (as.getD 0 0) M
  | 6 => fun rc cl Q d as M => B_next_0 rc cl Q d  M
  | 7 => fun rc cl Q d as M => B_next_8 rc cl Q d  M
  | 8 => fun rc cl Q d as M => B_next_115 rc cl Q d (as.getD 0 0) (as.getD 1 0) M
  | 9 => fun rc cl Q d as M => B_next_249 rc cl Q d (as.getD 0 0) (as.getD 1 0) (as.getD 2 0) (as.getD 3 0) M
  | 10 => fun rc cl Q d as M => B_isSign_0 rc cl Q d (as.getD 0 0) M
  | 11 => fun rc cl Q d as M => B_isWord_0 rc cl Q d (as.getD 0 0) M
  | 12 => fun rc cl Q d as M => B_isWord_32 rc cl Q d (as.getD 0 0) (as.getD 1 0) (as.getD 2 0) M
  | 13 => fun rc cl Q d as M => B_isKeyword_0 rc cl Q d  M
  | 14 => fun rc cl Q d as M => B_isName_0 rc cl Q d  M
  | 15 => fun rc cl Q d as M => B_nameHere_0 rc cl Q d  M
  | 16 => fun rc cl Q d as M => B_isSame_0 rc cl Q d (as.getD 0 0) (as.getD 1 0) M
  | 17 => fun rc cl Q d as M => B_isSame_18 rc cl Q d (as.getD 0 0) (as.getD 1 0) (as.getD 2 0) (as.getD 3 0) M
  | 18 => fun rc cl Q d as M => B_isTwo_0 rc cl Q d (as.getD 0 0) M
  | 19 => fun rc cl Q d as M => B_expression_0 rc cl Q d (as.getD 0 0) (as.getD 1 0) (as.getD 2 0) M
  | 20 => fun rc cl Q d as M => B_fault_0 rc cl Q d (as.getD 0 0) M
  | 21 => fun rc cl Q d as M => B_sign_0 rc cl Q d (as.getD 0 0) M
  | 22 => fun rc cl Q d as M => B_newName_0 rc cl Q d (as.getD 0 0) M
  | 23 => fun rc cl Q d as M => B_tells_0 rc cl Q d  M
  | 24 => fun rc cl Q d as M => B_tells_19 rc cl Q d (as.getD 0 0) (as.getD 1 0) (as.getD 2 0) M
  | 25 => fun rc cl Q d as M => B_tells_72 rc cl Q d (as.getD 0 0) (as.getD 1 0) (as.getD 2 0) M
  | 26 => fun rc cl Q d as M => B_tells_124 rc cl Q d (as.getD 0 0) (as.getD 1 0) (as.getD 2 0) M
  | 27 => fun rc cl Q d as M => B_tells_176 rc cl Q d (as.getD 0 0) (as.getD 1 0) (as.getD 2 0) M
  | 28 => fun rc cl Q d as M => B_enumOf_0 rc cl Q d (as.getD 0 0) M
  | 29 => fun rc cl Q d as M => B_enumOf_2 rc cl Q d (as.getD 0 0) (as.getD 1 0) M
  | 30 => fun rc cl Q d as M => B_readBook_0 rc cl Q d  M
  | 31 => fun rc cl Q d as M => B_readBook_39 rc cl Q d  M
  | 32 => fun rc cl Q d as M => B_readBook_59 rc cl Q d (as.getD 0 0) M
  | 33 => fun rc cl Q d as M => B_readEnum_0 rc cl Q d  M
  | 34 => fun rc cl Q d as M => B_readEnum_172 rc cl Q d (as.getD 0 0) M
  | 35 => fun rc cl Q d as M => B_readEnum_211 rc cl Q d (as.getD 0 0) M
  | 36 => fun rc cl Q d as M => B_readEnum_244 rc cl Q d (as.getD 0 0) M
  | 37 => fun rc cl Q d as M => B_readConstant_0 rc cl Q d  M
  | 38 => fun rc cl Q d as M => B_readConstant_93 rc cl Q d (as.getD 0 0) (as.getD 1 0) (as.getD 2 0) M
  | 39 => fun rc cl Q d as M => B_readConstant_172 rc cl Q d (as.getD 0 0) (as.getD 1 0) (as.getD 2 0) M
  | 40 => fun rc cl Q d as M => B_readAct_0 rc cl Q d (as.getD 0 0) M
  | 41 => fun rc cl Q d as M => B_readAct_36 rc cl Q d (as.getD 0 0) (as.getD 1 0) M
  | 42 => fun rc cl Q d as M => B_readAct_132 rc cl Q d (as.getD 0 0) (as.getD 1 0) (as.getD 2 0) M
  | 43 => fun rc cl Q d as M => B_readAct_224 rc cl Q d (as.getD 0 0) (as.getD 1 0) (as.getD 2 0) (as.getD 3 0) (as.getD 4 0) (as.getD 5 0) M
  | 44 => fun rc cl Q d as M => B_readMember_0 rc cl Q d  M
  | 45 => fun rc cl Q d as M => B_readTable_0 rc cl Q d  M
  | 46 => fun rc cl Q d as M => B_readTable_106 rc cl Q d (as.getD 0 0) (as.getD 1 0) M
  | 47 => fun rc cl Q d as M => B_readEntry_0 rc cl Q d (as.getD 0 0) M
  | 48 => fun rc cl Q d as M => B_beginsExpr_0 rc cl Q d  M
  | 49 => fun rc cl Q d as M => B_readSwitch_0 rc cl Q d  M
  | 50 => fun rc cl Q d as M => B_readSwitch_95 rc cl Q d (as.getD 0 0) (as.getD 1 0) M
  | 51 => fun rc cl Q d as M => B_readCase_0 rc cl Q d (as.getD 0 0) M
  | 52 => fun rc cl Q d as M => B_readCase_26 rc cl Q d (as.getD 0 0) (as.getD 1 0) (as.getD 2 0) M
  | 53 => fun rc cl Q d as M => B_readExpr_0 rc cl Q d (as.getD 0 0) (as.getD 1 0) (as.getD 2 0) M
  | 54 => fun rc cl Q d as M => B_readSum_0 rc cl Q d  M
  | 55 => fun rc cl Q d as M => B_readSum_5 rc cl Q d (as.getD 0 0) M
  | 56 => fun rc cl Q d as M => B_readTerm_0 rc cl Q d  M
  | 57 => fun rc cl Q d as M => B_readTerm_5 rc cl Q d (as.getD 0 0) M
  | 58 => fun rc cl Q d as M => B_readFactor_0 rc cl Q d  M
  | 59 => fun rc cl Q d as M => B_readFactor_89 rc cl Q d (as.getD 0 0) (as.getD 1 0) M
  | 60 => fun rc cl Q d as M => B_readFactor_203 rc cl Q d  M
  | 61 => fun rc cl Q d as M => B_taken_0 rc cl Q d (as.getD 0 0) M
  | 62 => fun rc cl Q d as M => B_readReference_0 rc cl Q d  M
  | 63 => fun rc cl Q d as M => B_settle_0 rc cl Q d (as.getD 0 0) M
  | 64 => fun rc cl Q d as M => B_settle_79 rc cl Q d (as.getD 0 0) (as.getD 1 0) (as.getD 2 0) (as.getD 3 0) M
  | 65 => fun rc cl Q d as M => B_settle_266 rc cl Q d (as.getD 0 0) (as.getD 1 0) (as.getD 2 0) (as.getD 3 0) (as.getD 4 0) (as.getD 5 0) (as.getD 6 0) M
  | 66 => fun rc cl Q d as M => B_lacks_0 rc cl Q d (as.getD 0 0) M
  | 67 => fun rc cl Q d as M => B_among_0 rc cl Q d (as.getD 0 0) (as.getD 1 0) (as.getD 2 0) (as.getD 3 0) M
  | 68 => fun rc cl Q d as M => B_among_3 rc cl Q d (as.getD 0 0) (as.getD 1 0) (as.getD 2 0) (as.getD 3 0) (as.getD 4 0) M
  | 69 => fun rc cl Q d as M => B_book_0 rc cl Q d  M
  | 70 => fun rc cl Q d as M => B_book_22 rc cl Q d (as.getD 0 0) M
  | 71 => fun rc cl Q d as M => B_wrong_0 rc cl Q d  M
  | 72 => fun rc cl Q d as M => B_asleep_0 rc cl Q d (as.getD 0 0) M
  | 73 => fun rc cl Q d as M => B_asleep_2 rc cl Q d (as.getD 0 0) (as.getD 1 0) M
  | 74 => fun rc cl Q d as M => B_asleep_33 rc cl Q d (as.getD 0 0) (as.getD 1 0) M
  | 75 => fun rc cl Q d as M => B_asleep_53 rc cl Q d (as.getD 0 0) (as.getD 1 0) (as.getD 2 0) M
  | 76 => fun rc cl Q d as M => B_failing_0 rc cl Q d (as.getD 0 0) (as.getD 1 0) M
  | 77 => fun rc cl Q d as M => B_use_0 rc cl Q d (as.getD 0 0) M
  | 78 => fun rc cl Q d as M => B_starts_0 rc cl Q d (as.getD 0 0) M
  | 79 => fun rc cl Q d as M => B_startsHolder_0 rc cl Q d (as.getD 0 0) M
  | 80 => fun rc cl Q d as M => B_startsEnum_0 rc cl Q d (as.getD 0 0) M
  | 81 => fun rc cl Q d as M => B_startsEnum_2 rc cl Q d (as.getD 0 0) (as.getD 1 0) M
  | 82 => fun rc cl Q d as M => B_startsEnum_83 rc cl Q d (as.getD 0 0) (as.getD 1 0) M
  | 83 => fun rc cl Q d as M => B_startsEnum_99 rc cl Q d (as.getD 0 0) (as.getD 1 0) (as.getD 2 0) M
  | 84 => fun rc cl Q d as M => B_startsEnum_173 rc cl Q d (as.getD 0 0) (as.getD 1 0) M
  | 85 => fun rc cl Q d as M => B_sees_0 rc cl Q d (as.getD 0 0) (as.getD 1 0) M
  | 86 => fun rc cl Q d as M => B_value_0 rc cl Q d (as.getD 0 0) (as.getD 1 0) (as.getD 2 0) M
  | 87 => fun rc cl Q d as M => B_entryOf_0 rc cl Q d (as.getD 0 0) (as.getD 1 0) (as.getD 2 0) M
  | 88 => fun rc cl Q d as M => B_both_0 rc cl Q d (as.getD 0 0) (as.getD 1 0) (as.getD 2 0) M
  | 89 => fun rc cl Q d as M => B_both_3 rc cl Q d (as.getD 0 0) (as.getD 1 0) (as.getD 2 0) (as.getD 3 0) M
  | 90 => fun rc cl Q d as M => B_both_48 rc cl Q d (as.getD 0 0) (as.getD 1 0) (as.getD 2 0) (as.getD 3 0) (as.getD 4 0) M
  | 91 => fun rc cl Q d as M => B_joined_0 rc cl Q d (as.getD 0 0) (as.getD 1 0) (as.getD 2 0) M
  | 92 => fun rc cl Q d as M => B_isEnum_0 rc cl Q d (as.getD 0 0) (as.getD 1 0) M
  | 93 => fun rc cl Q d as M => B_isConstant_0 rc cl Q d (as.getD 0 0) (as.getD 1 0) (as.getD 2 0) M
  | 94 => fun rc cl Q d as M => B_begin_0 rc cl Q d (as.getD 0 0) M
  | 95 => fun rc cl Q d as M => B_ends_0 rc cl Q d (as.getD 0 0) M
  | 96 => fun rc cl Q d as M => B_uses_0 rc cl Q d (as.getD 0 0) (as.getD 1 0) M
  | 97 => fun rc cl Q d as M => B_told_0 rc cl Q d (as.getD 0 0) (as.getD 1 0) M
  | 98 => fun rc cl Q d as M => B_about_0 rc cl Q d (as.getD 0 0) (as.getD 1 0) (as.getD 2 0) M
  | 99 => fun rc cl Q d as M => B_isItem_0 rc cl Q d (as.getD 0 0) (as.getD 1 0) M
  | 100 => fun rc cl Q d as M => B_state_0 rc cl Q d (as.getD 0 0) (as.getD 1 0) M
  | 101 => fun rc cl Q d as M => B_letter_0 rc cl Q d (as.getD 0 0) (as.getD 1 0) (as.getD 2 0) (as.getD 3 0) M
  | 102 => fun rc cl Q d as M => B_body_0 rc cl Q d (as.getD 0 0) (as.getD 1 0) (as.getD 2 0) (as.getD 3 0) M
  | 103 => fun rc cl Q d as M => B_use__0 rc cl Q d (as.getD 0 0) (as.getD 1 0) M
  | 104 => fun rc cl Q d as M => B_argument_0 rc cl Q d (as.getD 0 0) (as.getD 1 0) (as.getD 2 0) M
  | 105 => fun rc cl Q d as M => B_act_0 rc cl Q d (as.getD 0 0) (as.getD 1 0) (as.getD 2 0) (as.getD 3 0) M
  | 106 => fun rc cl Q d as M => B_entry_0 rc cl Q d (as.getD 0 0) (as.getD 1 0) (as.getD 2 0) (as.getD 3 0) M
  | 107 => fun rc cl Q d as M => B_holder_0 rc cl Q d (as.getD 0 0) (as.getD 1 0) (as.getD 2 0) M
  | 108 => fun rc cl Q d as M => B_branch_0 rc cl Q d (as.getD 0 0) (as.getD 1 0) (as.getD 2 0) (as.getD 3 0) M
  | 109 => fun rc cl Q d as M => B_branch_70 rc cl Q d (as.getD 0 0) (as.getD 1 0) (as.getD 2 0) (as.getD 3 0) (as.getD 4 0) (as.getD 5 0) (as.getD 6 0) M
  | 110 => fun rc cl Q d as M => B_out_0 rc cl Q d  M
  | 111 => fun rc cl Q d as M => B_cause_0 rc cl Q d (as.getD 0 0) (as.getD 1 0) M
  | 112 => fun rc cl Q d as M => B_start_0 rc cl Q d (as.getD 0 0) (as.getD 1 0) M
  | 113 => fun rc cl Q d as M => B_seen_0 rc cl Q d (as.getD 0 0) (as.getD 1 0) (as.getD 2 0) M
  | 114 => fun rc cl Q d as M => B_set_0 rc cl Q d (as.getD 0 0) (as.getD 1 0) M
  | 115 => fun rc cl Q d as M => B_isIn_0 rc cl Q d (as.getD 0 0) (as.getD 1 0) M
  | 116 => fun rc cl Q d as M => B_add_0 rc cl Q d (as.getD 0 0) (as.getD 1 0) M
  | 117 => fun rc cl Q d as M => B_take_0 rc cl Q d (as.getD 0 0) (as.getD 1 0) M
  | 118 => fun rc cl Q d as M => B_join_0 rc cl Q d (as.getD 0 0) (as.getD 1 0) (as.getD 2 0) M
  | 119 => fun rc cl Q d as M => B_member_0 rc cl Q d (as.getD 0 0) (as.getD 1 0) M
  | 120 => fun rc cl Q d as M => B_member_24 rc cl Q d (as.getD 0 0) (as.getD 1 0) (as.getD 2 0) (as.getD 3 0) M
  | 121 => fun rc cl Q d as M => B_map_0 rc cl Q d (as.getD 0 0) (as.getD 1 0) M
  | 122 => fun rc cl Q d as M => B_isMapped_0 rc cl Q d (as.getD 0 0) (as.getD 1 0) M
  | 123 => fun rc cl Q d as M => B_put_0 rc cl Q d (as.getD 0 0) (as.getD 1 0) (as.getD 2 0) M
  | 124 => fun rc cl Q d as M => B_get_0 rc cl Q d (as.getD 0 0) (as.getD 1 0) M
  | 125 => fun rc cl Q d as M => B_constantHere_0 rc cl Q d (as.getD 0 0) M
  | 126 => fun rc cl Q d as M => B_constantHere_14 rc cl Q d (as.getD 0 0) (as.getD 1 0) M
  | 127 => fun rc cl Q d as M => B_constantHere_34 rc cl Q d (as.getD 0 0) (as.getD 1 0) (as.getD 2 0) M
  | 128 => fun rc cl Q d as M => B_constantHere_84 rc cl Q d (as.getD 0 0) (as.getD 1 0) (as.getD 2 0) (as.getD 3 0) (as.getD 4 0) (as.getD 5 0) M
  | 129 => fun rc cl Q d as M => B_encode_0 rc cl Q d (as.getD 0 0) M
  | 130 => fun rc cl Q d as M => B_encode_51 rc cl Q d (as.getD 0 0) (as.getD 1 0) (as.getD 2 0) (as.getD 3 0) (as.getD 4 0) M
  | 131 => fun rc cl Q d as M => B_signal_0 rc cl Q d (as.getD 0 0) (as.getD 1 0) (as.getD 2 0) M
  | 132 => fun rc cl Q d as M => B_put__0 rc cl Q d (as.getD 0 0) M
  | 133 => fun rc cl Q d as M => B_decode_0 rc cl Q d (as.getD 0 0) M
  | 134 => fun rc cl Q d as M => B_decode_24 rc cl Q d (as.getD 0 0) (as.getD 1 0) M
  | 135 => fun rc cl Q d as M => B_decode_67 rc cl Q d (as.getD 0 0) (as.getD 1 0) (as.getD 2 0) (as.getD 3 0) M
  | 136 => fun rc cl Q d as M => B_decode_119 rc cl Q d (as.getD 0 0) (as.getD 1 0) (as.getD 2 0) (as.getD 3 0) M
  | 137 => fun rc cl Q d as M => B_decode_143 rc cl Q d (as.getD 0 0) (as.getD 1 0) (as.getD 2 0) (as.getD 3 0) M
  | 138 => fun rc cl Q d as M => B_decode_193 rc cl Q d (as.getD 0 0) (as.getD 1 0) M
  | _ => fun _ _ _ _ _ _ => False

def PML (d : Nat) (cl : MC) (Q : Int → Mem → Prop) (id : Nat) (as : List Int) (M : Mem) : Prop := ∀ X : MP, (∀ (id : Nat) (as : List Int) (M : Mem) (Y : MP), (∀ i' as' M', Y i' as' M' → X i' as' M') → PMb id Y cl Q d as M → X id as M) → X id as M
def PM : Nat → MC
  | 0 => fun _ _ _ _ => False
  | d + 1 => fun id as M Q => PML d (PM d) Q id as M
theorem PM_step {d id : Nat} {as : List Int} {M : Mem} {Q : Int → Mem → Prop} (h : PMb id (fun i' as' M' => PM (d + 1) i' as' M' Q) (PM d) Q d as M) : PM (d + 1) id as M Q :=
  fun X hX => hX id as M (fun i' as' M' => PM (d + 1) i' as' M' Q) (fun i' as' M' h' => h' X hX) h
theorem PM_body {l : Launch} {G : GT} {m : Int} {a : Int → Int} {d mc ms : Nat} {S : Sh} {Q : Int → Mem → Prop} {rc : MP} {cl : MC} {V0 : Mem} (hrc : RCok l G m a S V0 Q d mc ms rc) (hcl : CLok l G m a S d cl) : ∀ (id : Nat) (as : List Int) (M V : Mem), PMb id rc cl Q d as M → MR m a S V M → MF m a V0 V → XM id l G m a (Qm m a S V0 Q) (d + 1) mc ms S V as
  | 0, as, M, V, h, mr, mf => s_feed_0 hrc hcl mr mf h
  | 1, as, M, V, h, mr, mf => s_feed_34 hrc hcl mr mf h
  | 2, as, M, V, h, mr, mf => s_cut_0 hrc hcl mr mf h
  | 3, as, M, V, h, mr, mf => s_isLetter_0 hrc hcl mr mf h
  | 4, as, M, V, h, mr, mf => s_isDigit_0 hrc hcl mr mf h
  | 5, as, M, V, h, mr, mf => s_at_0 hrc hcl mr mf h
  | 6, as, M, V, h, mr, mf => s_next_0 hrc hcl mr mf h
  | 7, as, M, V, h, mr, mf => s_next_8 hrc hcl mr mf h
  | 8, as, M, V, h, mr, mf => s_next_115 hrc hcl mr mf h
  | 9, as, M, V, h, mr, mf => s_next_249 hrc hcl mr mf h
  | 10, as, M, V, h, mr, mf => s_isSign_0 hrc hcl mr mf h
  | 11, as, M, V, h, mr, mf => s_isWord_0 hrc hcl mr mf h
  | 12, as, M, V, h, mr, mf => s_isWord_32 hrc hcl mr mf h
  | 13, as, M, V, h, mr, mf => s_isKeyword_0 hrc hcl mr mf h
  | 14, as, M, V, h, mr, mf => s_isName_0 hrc hcl mr mf h
  | 15, as, M, V, h, mr, mf => s_nameHere_0 hrc hcl mr mf h
  | 16, as, M, V, h, mr, mf => s_isSame_0 hrc hcl mr mf h
  | 17, as, M, V, h, mr, mf => s_isSame_18 hrc hcl mr mf h
  | 18, as, M, V, h, mr, mf => s_isTwo_0 hrc hcl mr mf h
  | 19, as, M, V, h, mr, mf => s_expression_0 hrc hcl mr mf h
  | 20, as, M, V, h, mr, mf => s_fault_0 hrc hcl mr mf h
  | 21, as, M, V, h, mr, mf => s_sign_0 hrc hcl mr mf h
  | 22, as, M, V, h, mr, mf => s_newName_0 hrc hcl mr mf h
  | 23, as, M, V, h, mr, mf => s_tells_0 hrc hcl mr mf h
  | 24, as, M, V, h, mr, mf => s_tells_19 hrc hcl mr mf h
  | 25, as, M, V, h, mr, mf => s_tells_72 hrc hcl mr mf h
  | 26, as, M, V, h, mr, mf => s_tells_124 hrc hcl mr mf h
  | 27, as, M, V, h, mr, mf => s_tells_176 hrc hcl mr mf h
  | 28, as, M, V, h, mr, mf => s_enumOf_0 hrc hcl mr mf h
  | 29, as, M, V, h, mr, mf => s_enumOf_2 hrc hcl mr mf h
  | 30, as, M, V, h, mr, mf => s_readBook_0 hrc hcl mr mf h
  | 31, as, M, V, h, mr, mf => s_readBook_39 hrc hcl mr mf h
  | 32, as, M, V, h, mr, mf => s_readBook_59 hrc hcl mr mf h
  | 33, as, M, V, h, mr, mf => s_readEnum_0 hrc hcl mr mf h
  | 34, as, M, V, h, mr, mf => s_readEnum_172 hrc hcl mr mf h
  | 35, as, M, V, h, mr, mf => s_readEnum_211 hrc hcl mr mf h
  | 36, as, M, V, h, mr, mf => s_readEnum_244 hrc hcl mr mf h
  | 37, as, M, V, h, mr, mf => s_readConstant_0 hrc hcl mr mf h
  | 38, as, M, V, h, mr, mf => s_readConstant_93 hrc hcl mr mf h
  | 39, as, M, V, h, mr, mf => s_readConstant_172 hrc hcl mr mf h
  | 40, as, M, V, h, mr, mf => s_readAct_0 hrc hcl mr mf h
  | 41, as, M, V, h, mr, mf => s_readAct_36 hrc hcl mr mf h
  | 42, as, M, V, h, mr, mf => s_readAct_132 hrc hcl mr mf h
  | 43, as, M, V, h, mr, mf => s_readAct_224 hrc hcl mr mf h
  | 44, as, M, V, h, mr, mf => s_readMember_0 hrc hcl mr mf h
  | 45, as, M, V, h, mr, mf => s_readTable_0 hrc hcl mr mf h
  | 46, as, M, V, h, mr, mf => s_readTable_106 hrc hcl mr mf h
  | 47, as, M, V, h, mr, mf => s_readEntry_0 hrc hcl mr mf h
  | 48, as, M, V, h, mr, mf => s_beginsExpr_0 hrc hcl mr mf h
  | 49, as, M, V, h, mr, mf => s_readSwitch_0 hrc hcl mr mf h
  | 50, as, M, V, h, mr, mf => s_readSwitch_95 hrc hcl mr mf h
  | 51, as, M, V, h, mr, mf => s_readCase_0 hrc hcl mr mf h
  | 52, as, M, V, h, mr, mf => s_readCase_26 hrc hcl mr mf h
  | 53, as, M, V, h, mr, mf => s_readExpr_0 hrc hcl mr mf h
  | 54, as, M, V, h, mr, mf => s_readSum_0 hrc hcl mr mf h
  | 55, as, M, V, h, mr, mf => s_readSum_5 hrc hcl mr mf h
  | 56, as, M, V, h, mr, mf => s_readTerm_0 hrc hcl mr mf h
  | 57, as, M, V, h, mr, mf => s_readTerm_5 hrc hcl mr mf h
  | 58, as, M, V, h, mr, mf => s_readFactor_0 hrc hcl mr mf h
  | 59, as, M, V, h, mr, mf => s_readFactor_89 hrc hcl mr mf h
  | 60, as, M, V, h, mr, mf => s_readFactor_203 hrc hcl mr mf h
  | 61, as, M, V, h, mr, mf => s_taken_0 hrc hcl mr mf h
  | 62, as, M, V, h, mr, mf => s_readReference_0 hrc hcl mr mf h
  | 63, as, M, V, h, mr, mf => s_settle_0 hrc hcl mr mf h
  | 64, as, M, V, h, mr, mf => s_settle_79 hrc hcl mr mf h
  | 65, as, M, V, h, mr, mf => s_settle_266 hrc hcl mr mf h
  | 66, as, M, V, h, mr, mf => s_lacks_0 hrc hcl mr mf h
  | 67, as, M, V, h, mr, mf => s_among_0 hrc hcl mr mf h
  | 68, as, M, V, h, mr, mf => s_among_3 hrc hcl mr mf h
  | 69, as, M, V, h, mr, mf => s_book_0 hrc hcl mr mf h
  | 70, as, M, V, h, mr, mf => s_book_22 hrc hcl mr mf h
  | 71, as, M, V, h, mr, mf => s_wrong_0 hrc hcl mr mf h
  | 72, as, M, V, h, mr, mf => s_asleep_0 hrc hcl mr mf h
  | 73, as, M, V, h, mr, mf => s_asleep_2 hrc hcl mr mf h
  | 74, as, M, V, h, mr, mf => s_asleep_33 hrc hcl mr mf h
  | 75, as, M, V, h, mr, mf => s_asleep_53 hrc hcl mr mf h
  | 76, as, M, V, h, mr, mf => s_failing_0 hrc hcl mr mf h
  | 77, as, M, V, h, mr, mf => s_use_0 hrc hcl mr mf h
  | 78, as, M, V, h, mr, mf => s_starts_0 hrc hcl mr mf h
  | 79, as, M, V, h, mr, mf => s_startsHolder_0 hrc hcl mr mf h
  | 80, as, M, V, h, mr, mf => s_startsEnum_0 hrc hcl mr mf h
  | 81, as, M, V, h, mr, mf => s_startsEnum_2 hrc hcl mr mf h
  | 82, as, M, V, h, mr, mf => s_startsEnum_83 hrc hcl mr mf h
  | 83, as, M, V, h, mr, mf => s_startsEnum_99 hrc hcl mr mf h
  | 84, as, M, V, h, mr, mf => s_startsEnum_173 hrc hcl mr mf h
  | 85, as, M, V, h, mr, mf => s_sees_0 hrc hcl mr mf h
  | 86, as, M, V, h, mr, mf => s_value_0 hrc hcl mr mf h
  | 87, as, M, V, h, mr, mf => s_entryOf_0 hrc hcl mr mf h
  | 88, as, M, V, h, mr, mf => s_both_0 hrc hcl mr mf h
  | 89, as, M, V, h, mr, mf => s_both_3 hrc hcl mr mf h
  | 90, as, M, V, h, mr, mf => s_both_48 hrc hcl mr mf h
  | 91, as, M, V, h, mr, mf => s_joined_0 hrc hcl mr mf h
  | 92, as, M, V, h, mr, mf => s_isEnum_0 hrc hcl mr mf h
  | 93, as, M, V, h, mr, mf => s_isConstant_0 hrc hcl mr mf h
  | 94, as, M, V, h, mr, mf => s_begin_0 hrc hcl mr mf h
  | 95, as, M, V, h, mr, mf => s_ends_0 hrc hcl mr mf h
  | 96, as, M, V, h, mr, mf => s_uses_0 hrc hcl mr mf h
  | 97, as, M, V, h, mr, mf => s_told_0 hrc hcl mr mf h
  | 98, as, M, V, h, mr, mf => s_about_0 hrc hcl mr mf h
  | 99, as, M, V, h, mr, mf => s_isItem_0 hrc hcl mr mf h
  | 100, as, M, V, h, mr, mf => s_state_0 hrc hcl mr mf h
  | 101, as, M, V, h, mr, mf => s_letter_0 hrc hcl mr mf h
  | 102, as, M, V, h, mr, mf => s_body_0 hrc hcl mr mf h
  | 103, as, M, V, h, mr, mf => s_use__0 hrc hcl mr mf h
  | 104, as, M, V, h, mr, mf => s_argument_0 hrc hcl mr mf h
  | 105, as, M, V, h, mr, mf => s_act_0 hrc hcl mr mf h
  | 106, as, M, V, h, mr, mf => s_entry_0 hrc hcl mr mf h
  | 107, as, M, V, h, mr, mf => s_holder_0 hrc hcl mr mf h
  | 108, as, M, V, h, mr, mf => s_branch_0 hrc hcl mr mf h
  | 109, as, M, V, h, mr, mf => s_branch_70 hrc hcl mr mf h
  | 110, as, M, V, h, mr, mf => s_out_0 hrc hcl mr mf h
  | 111, as, M, V, h, mr, mf => s_cause_0 hrc hcl mr mf h
  | 112, as, M, V, h, mr, mf => s_start_0 hrc hcl mr mf h
  | 113, as, M, V, h, mr, mf => s_seen_0 hrc hcl mr mf h
  | 114, as, M, V, h, mr, mf => s_set_0 hrc hcl mr mf h
  | 115, as, M, V, h, mr, mf => s_isIn_0 hrc hcl mr mf h
  | 116, as, M, V, h, mr, mf => s_add_0 hrc hcl mr mf h
  | 117, as, M, V, h, mr, mf => s_take_0 hrc hcl mr mf h
  | 118, as, M, V, h, mr, mf => s_join_0 hrc hcl mr mf h
  | 119, as, M, V, h, mr, mf => s_member_0 hrc hcl mr mf h
  | 120, as, M, V, h, mr, mf => s_member_24 hrc hcl mr mf h
  | 121, as, M, V, h, mr, mf => s_map_0 hrc hcl mr mf h
  | 122, as, M, V, h, mr, mf => s_isMapped_0 hrc hcl mr mf h
  | 123, as, M, V, h, mr, mf => s_put_0 hrc hcl mr mf h
  | 124, as, M, V, h, mr, mf => s_get_0 hrc hcl mr mf h
  | 125, as, M, V, h, mr, mf => s_constantHere_0 hrc hcl mr mf h
  | 126, as, M, V, h, mr, mf => s_constantHere_14 hrc hcl mr mf h
  | 127, as, M, V, h, mr, mf => s_constantHere_34 hrc hcl mr mf h
  | 128, as, M, V, h, mr, mf => s_constantHere_84 hrc hcl mr mf h
  | 129, as, M, V, h, mr, mf => s_encode_0 hrc hcl mr mf h
  | 130, as, M, V, h, mr, mf => s_encode_51 hrc hcl mr mf h
  | 131, as, M, V, h, mr, mf => s_signal_0 hrc hcl mr mf h
  | 132, as, M, V, h, mr, mf => s_put__0 hrc hcl mr mf h
  | 133, as, M, V, h, mr, mf => s_decode_0 hrc hcl mr mf h
  | 134, as, M, V, h, mr, mf => s_decode_24 hrc hcl mr mf h
  | 135, as, M, V, h, mr, mf => s_decode_67 hrc hcl mr mf h
  | 136, as, M, V, h, mr, mf => s_decode_119 hrc hcl mr mf h
  | 137, as, M, V, h, mr, mf => s_decode_143 hrc hcl mr mf h
  | 138, as, M, V, h, mr, mf => s_decode_193 hrc hcl mr mf h
  | n + 139, as, M, V, h, mr, mf => trivial
theorem PM_loop {l : Launch} {G : GT} {m : Int} {a : Int → Int} {d mc ms : Nat} {S : Sh} {Q : Int → Mem → Prop} {V0 : Mem} (hcl : CLok l G m a S d (PM d)) : RCok l G m a S V0 Q d mc ms (fun id as M => PM (d + 1) id as M Q) := fun id as M V h mr mf =>
  h (fun id as M => ∀ V, MR m a S V M → MF m a V0 V → XM id l G m a (Qm m a S V0 Q) (d + 1) mc ms S V as) (fun id as M Y hY hb V mr mf => PM_body (rc := Y) (fun i' as' M' V' hy mr' mf' => hY i' as' M' hy V' mr' mf') hcl id as M V hb mr mf) V mr mf
theorem PM_ct {l : Launch} {G : GT} {m : Int} {a : Int → Int} {d : Nat} {S : Sh} (hcl : CLok l G m a S d (PM d)) : ∀ (id : Nat), mE id = true → ∀ (as : List Int) (M V : Mem) (K : Int → Mem → Prop), PM (d + 1) id as M K → MR m a S V M → Ct l G (mB id) (Qm m a S V K) (d + 1) 0 0 (mArgs id G m a as) S V
  | 0, _, as, M, V, K, h, mr => Ct.of okX12_feed.1 trivial (Nat.le_of_ble_eq_true rfl) (fun _ => PM_loop hcl n_feed_0 as M V h mr MF.rf)
  | 1, hE, _, _, _, _, _, _ => by cases hE
  | 2, _, as, M, V, K, h, mr => Ct.of okX12_cut.1 trivial (Nat.le_of_ble_eq_true rfl) (fun _ => PM_loop hcl n_cut_0 as M V h mr MF.rf)
  | 3, _, as, M, V, K, h, mr => Ct.of okX12_isLetter.1 trivial (Nat.le_of_ble_eq_true rfl) (fun _ => PM_loop hcl n_isLetter_0 as M V h mr MF.rf)
  | 4, _, as, M, V, K, h, mr => Ct.of okX12_isDigit.1 trivial (Nat.le_of_ble_eq_true rfl) (fun _ => PM_loop hcl n_isDigit_0 as M V h mr MF.rf)
  | 5, _, as, M, V, K, h, mr => Ct.of okX12_at.1 trivial (Nat.le_of_ble_eq_true rfl) (fun _ => PM_loop hcl n_at_0 as M V h mr MF.rf)
  | 6, _, as, M, V, K, h, mr => Ct.of okX12_next.1 trivial (Nat.le_of_ble_eq_true rfl) (fun _ => PM_loop hcl n_next_0 as M V h mr MF.rf)
  | 7, hE, _, _, _, _, _, _ => by cases hE
  | 8, hE, _, _, _, _, _, _ => by cases hE
  | 9, hE, _, _, _, _, _, _ => by cases hE
  | 10, _, as, M, V, K, h, mr => Ct.of okX12_isSign.1 trivial (Nat.le_of_ble_eq_true rfl) (fun _ => PM_loop hcl n_isSign_0 as M V h mr MF.rf)
  | 11, _, as, M, V, K, h, mr => Ct.of okX12_isWord.1 trivial (Nat.le_of_ble_eq_true rfl) (fun _ => PM_loop hcl n_isWord_0 as M V h mr MF.rf)
  | 12, hE, _, _, _, _, _, _ => by cases hE
  | 13, _, as, M, V, K, h, mr => Ct.of okX12_isKeyword.1 trivial (Nat.le_of_ble_eq_true rfl) (fun _ => PM_loop hcl n_isKeyword_0 as M V h mr MF.rf)
  | 14, _, as, M, V, K, h, mr => Ct.of okX12_isName.1 trivial (Nat.le_of_ble_eq_true rfl) (fun _ => PM_loop hcl n_isName_0 as M V h mr MF.rf)
  | 15, _, as, M, V, K, h, mr => Ct.of okX12_nameHere.1 trivial (Nat.le_of_ble_eq_true rfl) (fun _ => PM_loop hcl n_nameHere_0 as M V h mr MF.rf)
  | 16, _, as, M, V, K, h, mr => Ct.of okX12_isSame.1 trivial (Nat.le_of_ble_eq_true rfl) (fun _ => PM_loop hcl n_isSame_0 as M V h mr MF.rf)
  | 17, hE, _, _, _, _, _, _ => by cases hE
  | 18, _, as, M, V, K, h, mr => Ct.of okX12_isTwo.1 trivial (Nat.le_of_ble_eq_true rfl) (fun _ => PM_loop hcl n_isTwo_0 as M V h mr MF.rf)
  | 19, _, as, M, V, K, h, mr => Ct.of okX12_expression.1 trivial (Nat.le_of_ble_eq_true rfl) (fun _ => PM_loop hcl n_expression_0 as M V h mr MF.rf)
  | 20, _, as, M, V, K, h, mr => Ct.of okX12_fault.1 trivial (Nat.le_of_ble_eq_true rfl) (fun _ => PM_loop hcl n_fault_0 as M V h mr MF.rf)
  | 21, _, as, M, V, K, h, mr => Ct.of okX12_sign.1 trivial (Nat.le_of_ble_eq_true rfl) (fun _ => PM_loop hcl n_sign_0 as M V h mr MF.rf)
  | 22, _, as, M, V, K, h, mr => Ct.of okX12_newName.1 trivial (Nat.le_of_ble_eq_true rfl) (fun _ => PM_loop hcl n_newName_0 as M V h mr MF.rf)
  | 23, _, as, M, V, K, h, mr => Ct.of okX12_tells.1 trivial (Nat.le_of_ble_eq_true rfl) (fun _ => PM_loop hcl n_tells_0 as M V h mr MF.rf)
  | 24, hE, _, _, _, _, _, _ => by cases hE
  | 25, hE, _, _, _, _, _, _ => by cases hE
  | 26, hE, _, _, _, _, _, _ => by cases hE
  | 27, hE, _, _, _, _, _, _ => by cases hE
  | 28, _, as, M, V, K, h, mr => Ct.of okX12_enumOf.1 trivial (Nat.le_of_ble_eq_true rfl) (fun _ => PM_loop hcl n_enumOf_0 as M V h mr MF.rf)
  | 29, hE, _, _, _, _, _, _ => by cases hE
  | 30, _, as, M, V, K, h, mr => Ct.of okX12_readBook.1 trivial (Nat.le_of_ble_eq_true rfl) (fun _ => PM_loop hcl n_readBook_0 as M V h mr MF.rf)
  | 31, hE, _, _, _, _, _, _ => by cases hE
  | 32, hE, _, _, _, _, _, _ => by cases hE
  | 33, _, as, M, V, K, h, mr => Ct.of okX12_readEnum.1 trivial (Nat.le_of_ble_eq_true rfl) (fun _ => PM_loop hcl n_readEnum_0 as M V h mr MF.rf)
  | 34, hE, _, _, _, _, _, _ => by cases hE
  | 35, hE, _, _, _, _, _, _ => by cases hE
  | 36, hE, _, _, _, _, _, _ => by cases hE
  | 37, _, as, M, V, K, h, mr => Ct.of okX12_readConstant.1 trivial (Nat.le_of_ble_eq_true rfl) (fun _ => PM_loop hcl n_readConstant_0 as M V h mr MF.rf)
  | 38, hE, _, _, _, _, _, _ => by cases hE
  | 39, hE, _, _, _, _, _, _ => by cases hE
  | 40, _, as, M, V, K, h, mr => Ct.of okX12_readAct.1 trivial (Nat.le_of_ble_eq_true rfl) (fun _ => PM_loop hcl n_readAct_0 as M V h mr MF.rf)
  | 41, hE, _, _, _, _, _, _ => by cases hE
  | 42, hE, _, _, _, _, _, _ => by cases hE
  | 43, hE, _, _, _, _, _, _ => by cases hE
  | 44, _, as, M, V, K, h, mr => Ct.of okX12_readMember.1 trivial (Nat.le_of_ble_eq_true rfl) (fun _ => PM_loop hcl n_readMember_0 as M V h mr MF.rf)
  | 45, _, as, M, V, K, h, mr => Ct.of okX12_readTable.1 trivial (Nat.le_of_ble_eq_true rfl) (fun _ => PM_loop hcl n_readTable_0 as M V h mr MF.rf)
  | 46, hE, _, _, _, _, _, _ => by cases hE
  | 47, _, as, M, V, K, h, mr => Ct.of okX12_readEntry.1 trivial (Nat.le_of_ble_eq_true rfl) (fun _ => PM_loop hcl n_readEntry_0 as M V h mr MF.rf)
  | 48, _, as, M, V, K, h, mr => Ct.of okX12_beginsExpr.1 trivial (Nat.le_of_ble_eq_true rfl) (fun _ => PM_loop hcl n_beginsExpr_0 as M V h mr MF.rf)
  | 49, _, as, M, V, K, h, mr => Ct.of okX12_readSwitch.1 trivial (Nat.le_of_ble_eq_true rfl) (fun _ => PM_loop hcl n_readSwitch_0 as M V h mr MF.rf)
  | 50, hE, _, _, _, _, _, _ => by cases hE
  | 51, _, as, M, V, K, h, mr => Ct.of okX12_readCase.1 trivial (Nat.le_of_ble_eq_true rfl) (fun _ => PM_loop hcl n_readCase_0 as M V h mr MF.rf)
  | 52, hE, _, _, _, _, _, _ => by cases hE
  | 53, _, as, M, V, K, h, mr => Ct.of okX12_readExpr.1 trivial (Nat.le_of_ble_eq_true rfl) (fun _ => PM_loop hcl n_readExpr_0 as M V h mr MF.rf)
  | 54, _, as, M, V, K, h, mr => Ct.of okX12_readSum.1 trivial (Nat.le_of_ble_eq_true rfl) (fun _ => PM_loop hcl n_readSum_0 as M V h mr MF.rf)
  | 55, hE, _, _, _, _, _, _ => by cases hE
  | 56, _, as, M, V, K, h, mr => Ct.of okX12_readTerm.1 trivial (Nat.le_of_ble_eq_true rfl) (fun _ => PM_loop hcl n_readTerm_0 as M V h mr MF.rf)
  | 57, hE, _, _, _, _, _, _ => by cases hE
  | 58, _, as, M, V, K, h, mr => Ct.of okX12_readFactor.1 trivial (Nat.le_of_ble_eq_true rfl) (fun _ => PM_loop hcl n_readFactor_0 as M V h mr MF.rf)
  | 59, hE, _, _, _, _, _, _ => by cases hE
  | 60, hE, _, _, _, _, _, _ => by cases hE
  | 61, _, as, M, V, K, h, mr => Ct.of okX12_taken.1 trivial (Nat.le_of_ble_eq_true rfl) (fun _ => PM_loop hcl n_taken_0 as M V h mr MF.rf)
  | 62, _, as, M, V, K, h, mr => Ct.of okX12_readReference.1 trivial (Nat.le_of_ble_eq_true rfl) (fun _ => PM_loop hcl n_readReference_0 as M V h mr MF.rf)
  | 63, _, as, M, V, K, h, mr => Ct.of okX12_settle.1 trivial (Nat.le_of_ble_eq_true rfl) (fun _ => PM_loop hcl n_settle_0 as M V h mr MF.rf)
  | 64, hE, _, _, _, _, _, _ => by cases hE
  | 65, hE, _, _, _, _, _, _ => by cases hE
  | 66, _, as, M, V, K, h, mr => Ct.of okX12_lacks.1 trivial (Nat.le_of_ble_eq_true rfl) (fun _ => PM_loop hcl n_lacks_0 as M V h mr MF.rf)
  | 67, _, as, M, V, K, h, mr => Ct.of okX12_among.1 trivial (Nat.le_of_ble_eq_true rfl) (fun _ => PM_loop hcl n_among_0 as M V h mr MF.rf)
  | 68, hE, _, _, _, _, _, _ => by cases hE
  | 69, _, as, M, V, K, h, mr => Ct.of okX12_book.1 trivial (Nat.le_of_ble_eq_true rfl) (fun _ => PM_loop hcl n_book_0 as M V h mr MF.rf)
  | 70, hE, _, _, _, _, _, _ => by cases hE
  | 71, _, as, M, V, K, h, mr => Ct.of okX12_wrong.1 trivial (Nat.le_of_ble_eq_true rfl) (fun _ => PM_loop hcl n_wrong_0 as M V h mr MF.rf)
  | 72, _, as, M, V, K, h, mr => Ct.of okX12_asleep.1 trivial (Nat.le_of_ble_eq_true rfl) (fun _ => PM_loop hcl n_asleep_0 as M V h mr MF.rf)
  | 73, hE, _, _, _, _, _, _ => by cases hE
  | 74, hE, _, _, _, _, _, _ => by cases hE
  | 75, hE, _, _, _, _, _, _ => by cases hE
  | 76, _, as, M, V, K, h, mr => Ct.of okX12_failing.1 trivial (Nat.le_of_ble_eq_true rfl) (fun _ => PM_loop hcl n_failing_0 as M V h mr MF.rf)
  | 77, _, as, M, V, K, h, mr => Ct.of okX12_use.1 trivial (Nat.le_of_ble_eq_true rfl) (fun _ => PM_loop hcl n_use_0 as M V h mr MF.rf)
  | 78, _, as, M, V, K, h, mr => Ct.of okX12_starts.1 trivial (Nat.le_of_ble_eq_true rfl) (fun _ => PM_loop hcl n_starts_0 as M V h mr MF.rf)
  | 79, _, as, M, V, K, h, mr => Ct.of okX12_startsHolder.1 trivial (Nat.le_of_ble_eq_true rfl) (fun _ => PM_loop hcl n_startsHolder_0 as M V h mr MF.rf)
  | 80, _, as, M, V, K, h, mr => Ct.of okX12_startsEnum.1 trivial (Nat.le_of_ble_eq_true rfl) (fun _ => PM_loop hcl n_startsEnum_0 as M V h mr MF.rf)
  | 81, hE, _, _, _, _, _, _ => by cases hE
  | 82, hE, _, _, _, _, _, _ => by cases hE
  | 83, hE, _, _, _, _, _, _ => by cases hE
  | 84, hE, _, _, _, _, _, _ => by cases hE
  | 85, _, as, M, V, K, h, mr => Ct.of okX12_sees.1 trivial (Nat.le_of_ble_eq_true rfl) (fun _ => PM_loop hcl n_sees_0 as M V h mr MF.rf)
  | 86, _, as, M, V, K, h, mr => Ct.of okX12_value.1 trivial (Nat.le_of_ble_eq_true rfl) (fun _ => PM_loop hcl n_value_0 as M V h mr MF.rf)
  | 87, _, as, M, V, K, h, mr => Ct.of okX12_entryOf.1 trivial (Nat.le_of_ble_eq_true rfl) (fun _ => PM_loop hcl n_entryOf_0 as M V h mr MF.rf)
  | 88, _, as, M, V, K, h, mr => Ct.of okX12_both.1 trivial (Nat.le_of_ble_eq_true rfl) (fun _ => PM_loop hcl n_both_0 as M V h mr MF.rf)
  | 89, hE, _, _, _, _, _, _ => by cases hE
  | 90, hE, _, _, _, _, _, _ => by cases hE
  | 91, _, as, M, V, K, h, mr => Ct.of okX12_joined.1 trivial (Nat.le_of_ble_eq_true rfl) (fun _ => PM_loop hcl n_joined_0 as M V h mr MF.rf)
  | 92, _, as, M, V, K, h, mr => Ct.of okX12_isEnum.1 trivial (Nat.le_of_ble_eq_true rfl) (fun _ => PM_loop hcl n_isEnum_0 as M V h mr MF.rf)
  | 93, _, as, M, V, K, h, mr => Ct.of okX12_isConstant.1 trivial (Nat.le_of_ble_eq_true rfl) (fun _ => PM_loop hcl n_isConstant_0 as M V h mr MF.rf)
  | 94, _, as, M, V, K, h, mr => Ct.of okX12_begin.1 trivial (Nat.le_of_ble_eq_true rfl) (fun _ => PM_loop hcl n_begin_0 as M V h mr MF.rf)
  | 95, _, as, M, V, K, h, mr => Ct.of okX12_ends.1 trivial (Nat.le_of_ble_eq_true rfl) (fun _ => PM_loop hcl n_ends_0 as M V h mr MF.rf)
  | 96, _, as, M, V, K, h, mr => Ct.of okX12_uses.1 trivial (Nat.le_of_ble_eq_true rfl) (fun _ => PM_loop hcl n_uses_0 as M V h mr MF.rf)
  | 97, _, as, M, V, K, h, mr => Ct.of okX12_told.1 trivial (Nat.le_of_ble_eq_true rfl) (fun _ => PM_loop hcl n_told_0 as M V h mr MF.rf)
  | 98, _, as, M, V, K, h, mr => Ct.of okX12_about.1 trivial (Nat.le_of_ble_eq_true rfl) (fun _ => PM_loop hcl n_about_0 as M V h mr MF.rf)
  | 99, _, as, M, V, K, h, mr => Ct.of okX12_isItem.1 trivial (Nat.le_of_ble_eq_true rfl) (fun _ => PM_loop hcl n_isItem_0 as M V h mr MF.rf)
  | 100, _, as, M, V, K, h, mr => Ct.of okX12_state.1 trivial (Nat.le_of_ble_eq_true rfl) (fun _ => PM_loop hcl n_state_0 as M V h mr MF.rf)
  | 101, _, as, M, V, K, h, mr => Ct.of okX12_letter.1 trivial (Nat.le_of_ble_eq_true rfl) (fun _ => PM_loop hcl n_letter_0 as M V h mr MF.rf)
  | 102, _, as, M, V, K, h, mr => Ct.of okX12_body.1 trivial (Nat.le_of_ble_eq_true rfl) (fun _ => PM_loop hcl n_body_0 as M V h mr MF.rf)
  | 103, _, as, M, V, K, h, mr => Ct.of okX12_use_.1 trivial (Nat.le_of_ble_eq_true rfl) (fun _ => PM_loop hcl n_use__0 as M V h mr MF.rf)
  | 104, _, as, M, V, K, h, mr => Ct.of okX12_argument.1 trivial (Nat.le_of_ble_eq_true rfl) (fun _ => PM_loop hcl n_argument_0 as M V h mr MF.rf)
  | 105, _, as, M, V, K, h, mr => Ct.of okX12_act.1 trivial (Nat.le_of_ble_eq_true rfl) (fun _ => PM_loop hcl n_act_0 as M V h mr MF.rf)
  | 106, _, as, M, V, K, h, mr => Ct.of okX12_entry.1 trivial (Nat.le_of_ble_eq_true rfl) (fun _ => PM_loop hcl n_entry_0 as M V h mr MF.rf)
  | 107, _, as, M, V, K, h, mr => Ct.of okX12_holder.1 trivial (Nat.le_of_ble_eq_true rfl) (fun _ => PM_loop hcl n_holder_0 as M V h mr MF.rf)
  | 108, _, as, M, V, K, h, mr => Ct.of okX12_branch.1 trivial (Nat.le_of_ble_eq_true rfl) (fun _ => PM_loop hcl n_branch_0 as M V h mr MF.rf)
  | 109, hE, _, _, _, _, _, _ => by cases hE
  | 110, _, as, M, V, K, h, mr => Ct.of okX12_out.1 trivial (Nat.le_of_ble_eq_true rfl) (fun _ => PM_loop hcl n_out_0 as M V h mr MF.rf)
  | 111, _, as, M, V, K, h, mr => Ct.of okX12_cause.1 trivial (Nat.le_of_ble_eq_true rfl) (fun _ => PM_loop hcl n_cause_0 as M V h mr MF.rf)
  | 112, _, as, M, V, K, h, mr => Ct.of okX12_start.1 trivial (Nat.le_of_ble_eq_true rfl) (fun _ => PM_loop hcl n_start_0 as M V h mr MF.rf)
  | 113, _, as, M, V, K, h, mr => Ct.of okX12_seen.1 trivial (Nat.le_of_ble_eq_true rfl) (fun _ => PM_loop hcl n_seen_0 as M V h mr MF.rf)
  | 114, _, as, M, V, K, h, mr => Ct.of okX12_set.1 trivial (Nat.le_of_ble_eq_true rfl) (fun _ => PM_loop hcl n_set_0 as M V h mr MF.rf)
  | 115, _, as, M, V, K, h, mr => Ct.of okX12_isIn.1 trivial (Nat.le_of_ble_eq_true rfl) (fun _ => PM_loop hcl n_isIn_0 as M V h mr MF.rf)
  | 116, _, as, M, V, K, h, mr => Ct.of okX12_add.1 trivial (Nat.le_of_ble_eq_true rfl) (fun _ => PM_loop hcl n_add_0 as M V h mr MF.rf)
  | 117, _, as, M, V, K, h, mr => Ct.of okX12_take.1 trivial (Nat.le_of_ble_eq_true rfl) (fun _ => PM_loop hcl n_take_0 as M V h mr MF.rf)
  | 118, _, as, M, V, K, h, mr => Ct.of okX12_join.1 trivial (Nat.le_of_ble_eq_true rfl) (fun _ => PM_loop hcl n_join_0 as M V h mr MF.rf)
  | 119, _, as, M, V, K, h, mr => Ct.of okX12_member.1 trivial (Nat.le_of_ble_eq_true rfl) (fun _ => PM_loop hcl n_member_0 as M V h mr MF.rf)
  | 120, hE, _, _, _, _, _, _ => by cases hE
  | 121, _, as, M, V, K, h, mr => Ct.of okX12_map.1 trivial (Nat.le_of_ble_eq_true rfl) (fun _ => PM_loop hcl n_map_0 as M V h mr MF.rf)
  | 122, _, as, M, V, K, h, mr => Ct.of okX12_isMapped.1 trivial (Nat.le_of_ble_eq_true rfl) (fun _ => PM_loop hcl n_isMapped_0 as M V h mr MF.rf)
  | 123, _, as, M, V, K, h, mr => Ct.of okX12_put.1 trivial (Nat.le_of_ble_eq_true rfl) (fun _ => PM_loop hcl n_put_0 as M V h mr MF.rf)
  | 124, _, as, M, V, K, h, mr => Ct.of okX12_get.1 trivial (Nat.le_of_ble_eq_true rfl) (fun _ => PM_loop hcl n_get_0 as M V h mr MF.rf)
  | 125, _, as, M, V, K, h, mr => Ct.of okX12_constantHere.1 trivial (Nat.le_of_ble_eq_true rfl) (fun _ => PM_loop hcl n_constantHere_0 as M V h mr MF.rf)
  | 126, hE, _, _, _, _, _, _ => by cases hE
  | 127, hE, _, _, _, _, _, _ => by cases hE
  | 128, hE, _, _, _, _, _, _ => by cases hE
  | 129, _, as, M, V, K, h, mr => Ct.of okX12_encode.1 trivial (Nat.le_of_ble_eq_true rfl) (fun _ => PM_loop hcl n_encode_0 as M V h mr MF.rf)
  | 130, hE, _, _, _, _, _, _ => by cases hE
  | 131, _, as, M, V, K, h, mr => Ct.of okX12_signal.1 trivial (Nat.le_of_ble_eq_true rfl) (fun _ => PM_loop hcl n_signal_0 as M V h mr MF.rf)
  | 132, _, as, M, V, K, h, mr => Ct.of okX12_put_.1 trivial (Nat.le_of_ble_eq_true rfl) (fun _ => PM_loop hcl n_put__0 as M V h mr MF.rf)
  | 133, _, as, M, V, K, h, mr => Ct.of okX12_decode.1 trivial (Nat.le_of_ble_eq_true rfl) (fun _ => PM_loop hcl n_decode_0 as M V h mr MF.rf)
  | 134, hE, _, _, _, _, _, _ => by cases hE
  | 135, hE, _, _, _, _, _, _ => by cases hE
  | 136, hE, _, _, _, _, _, _ => by cases hE
  | 137, hE, _, _, _, _, _, _ => by cases hE
  | 138, hE, _, _, _, _, _, _ => by cases hE
  | n + 139, hE, _, _, _, _, _, _ => by cases hE
theorem PM_sound {l : Launch} {G : GT} {m : Int} {a : Int → Int} {S : Sh} : ∀ d, CLok l G m a S d (PM d)
  | 0 => fun _ _ _ _ _ _ h => h.elim
  | d + 1 => PM_ct (PM_sound d)
