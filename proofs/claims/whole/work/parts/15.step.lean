/-! ===== one step of each body of the reference ===== -/
theorem st_feed_0 {d : Nat} {x1 x3 : Int} {M : Mem} {Q : Int → Mem → Prop} (h : B_feed_0 (fun i' as' M' => PM (d + 1) i' as' M' Q) (PM d) Q d x1 x3 M) : PM (d + 1) n_feed_0 [x1, x3] M Q := PM_step (id := n_feed_0) (as := [x1, x3]) h
theorem st_feed_34 {d : Nat} {x1 x3 x4 : Int} {M : Mem} {Q : Int → Mem → Prop} (h : B_feed_34 (fun i' as' M' => PM (d + 1) i' as' M' Q) (PM d) Q d x1 x3 x4 M) : PM (d + 1) n_feed_34 [x1, x3, x4] M Q := PM_step (id := n_feed_34) (as := [x1, x3, x4]) h
theorem st_cut_0 {d : Nat} {x1 : Int} {M : Mem} {Q : Int → Mem → Prop} (h : B_cut_0 (fun i' as' M' => PM (d + 1) i' as' M' Q) (PM d) Q d x1 M) : PM (d + 1) n_cut_0 [x1] M Q := PM_step (id := n_cut_0) (as := [x1]) h
theorem st_isLetter_0 {d : Nat} {x0 : Int} {M : Mem} {Q : Int → Mem → Prop} (h : B_isLetter_0 (fun i' as' M' => PM (d + 1) i' as' M' Q) (PM d) Q d x0 M) : PM (d + 1) n_isLetter_0 [x0] M Q := PM_step (id := n_isLetter_0) (as := [x0]) h
theorem st_isDigit_0 {d : Nat} {x0 : Int} {M : Mem} {Q : Int → Mem → Prop} (h : B_isDigit_0 (fun i' as' M' => PM (d + 1) i' as' M' Q) (PM d) Q d x0 M) : PM (d + 1) n_isDigit_0 [x0] M Q := PM_step (id := n_isDigit_0) (as := [x0]) h
theorem st_at_0 {d : Nat} {x1 : Int} {M : Mem} {Q : Int → Mem → Prop} (h : B_at_0 (fun i' as' M' => PM (d + 1) i' as' M' Q) (PM d) Q d x1 M) : PM (d + 1) n_at_0 [x1] M Q := PM_step (id := n_at_0) (as := [x1]) h
theorem st_next_0 {d : Nat} {M : Mem} {Q : Int → Mem → Prop} (h : B_next_0 (fun i' as' M' => PM (d + 1) i' as' M' Q) (PM d) Q d M) : PM (d + 1) n_next_0 [] M Q := PM_step (id := n_next_0) (as := []) h
theorem st_next_8 {d : Nat} {M : Mem} {Q : Int → Mem → Prop} (h : B_next_8 (fun i' as' M' => PM (d + 1) i' as' M' Q) (PM d) Q d M) : PM (d + 1) n_next_8 [] M Q := PM_step (id := n_next_8) (as := []) h
theorem st_next_115 {d : Nat} {x1 x2 : Int} {M : Mem} {Q : Int → Mem → Prop} (h : B_next_115 (fun i' as' M' => PM (d + 1) i' as' M' Q) (PM d) Q d x1 x2 M) : PM (d + 1) n_next_115 [x1, x2] M Q := PM_step (id := n_next_115) (as := [x1, x2]) h
theorem st_next_249 {d : Nat} {x1 x2 x3 x4 : Int} {M : Mem} {Q : Int → Mem → Prop} (h : B_next_249 (fun i' as' M' => PM (d + 1) i' as' M' Q) (PM d) Q d x1 x2 x3 x4 M) : PM (d + 1) n_next_249 [x1, x2, x3, x4] M Q := PM_step (id := n_next_249) (as := [x1, x2, x3, x4]) h
theorem st_isSign_0 {d : Nat} {x1 : Int} {M : Mem} {Q : Int → Mem → Prop} (h : B_isSign_0 (fun i' as' M' => PM (d + 1) i' as' M' Q) (PM d) Q d x1 M) : PM (d + 1) n_isSign_0 [x1] M Q := PM_step (id := n_isSign_0) (as := [x1]) h
theorem st_isWord_0 {d : Nat} {x1 : Int} {M : Mem} {Q : Int → Mem → Prop} (h : B_isWord_0 (fun i' as' M' => PM (d + 1) i' as' M' Q) (PM d) Q d x1 M) : PM (d + 1) n_isWord_0 [x1] M Q := PM_step (id := n_isWord_0) (as := [x1]) h
theorem st_isWord_32 {d : Nat} {x1 x2 x3 : Int} {M : Mem} {Q : Int → Mem → Prop} (h : B_isWord_32 (fun i' as' M' => PM (d + 1) i' as' M' Q) (PM d) Q d x1 x2 x3 M) : PM (d + 1) n_isWord_32 [x1, x2, x3] M Q := PM_step (id := n_isWord_32) (as := [x1, x2, x3]) h
theorem st_isKeyword_0 {d : Nat} {M : Mem} {Q : Int → Mem → Prop} (h : B_isKeyword_0 (fun i' as' M' => PM (d + 1) i' as' M' Q) (PM d) Q d M) : PM (d + 1) n_isKeyword_0 [] M Q := PM_step (id := n_isKeyword_0) (as := []) h
theorem st_isName_0 {d : Nat} {M : Mem} {Q : Int → Mem → Prop} (h : B_isName_0 (fun i' as' M' => PM (d + 1) i' as' M' Q) (PM d) Q d M) : PM (d + 1) n_isName_0 [] M Q := PM_step (id := n_isName_0) (as := []) h
theorem st_nameHere_0 {d : Nat} {M : Mem} {Q : Int → Mem → Prop} (h : B_nameHere_0 (fun i' as' M' => PM (d + 1) i' as' M' Q) (PM d) Q d M) : PM (d + 1) n_nameHere_0 [] M Q := PM_step (id := n_nameHere_0) (as := []) h
theorem st_isSame_0 {d : Nat} {x1 x2 : Int} {M : Mem} {Q : Int → Mem → Prop} (h : B_isSame_0 (fun i' as' M' => PM (d + 1) i' as' M' Q) (PM d) Q d x1 x2 M) : PM (d + 1) n_isSame_0 [x1, x2] M Q := PM_step (id := n_isSame_0) (as := [x1, x2]) h
theorem st_isSame_18 {d : Nat} {x1 x2 x3 x4 : Int} {M : Mem} {Q : Int → Mem → Prop} (h : B_isSame_18 (fun i' as' M' => PM (d + 1) i' as' M' Q) (PM d) Q d x1 x2 x3 x4 M) : PM (d + 1) n_isSame_18 [x1, x2, x3, x4] M Q := PM_step (id := n_isSame_18) (as := [x1, x2, x3, x4]) h
theorem st_isTwo_0 {d : Nat} {x0 : Int} {M : Mem} {Q : Int → Mem → Prop} (h : B_isTwo_0 (fun i' as' M' => PM (d + 1) i' as' M' Q) (PM d) Q d x0 M) : PM (d + 1) n_isTwo_0 [x0] M Q := PM_step (id := n_isTwo_0) (as := [x0]) h
theorem st_expression_0 {d : Nat} {x1 x2 x3 : Int} {M : Mem} {Q : Int → Mem → Prop} (h : B_expression_0 (fun i' as' M' => PM (d + 1) i' as' M' Q) (PM d) Q d x1 x2 x3 M) : PM (d + 1) n_expression_0 [x1, x2, x3] M Q := PM_step (id := n_expression_0) (as := [x1, x2, x3]) h
theorem st_fault_0 {d : Nat} {x1 : Int} {M : Mem} {Q : Int → Mem → Prop} (h : B_fault_0 (fun i' as' M' => PM (d + 1) i' as' M' Q) (PM d) Q d x1 M) : PM (d + 1) n_fault_0 [x1] M Q := PM_step (id := n_fault_0) (as := [x1]) h
theorem st_sign_0 {d : Nat} {x1 : Int} {M : Mem} {Q : Int → Mem → Prop} (h : B_sign_0 (fun i' as' M' => PM (d + 1) i' as' M' Q) (PM d) Q d x1 M) : PM (d + 1) n_sign_0 [x1] M Q := PM_step (id := n_sign_0) (as := [x1]) h
theorem st_newName_0 {d : Nat} {x1 : Int} {M : Mem} {Q : Int → Mem → Prop} (h : B_newName_0 (fun i' as' M' => PM (d + 1) i' as' M' Q) (PM d) Q d x1 M) : PM (d + 1) n_newName_0 [x1] M Q := PM_step (id := n_newName_0) (as := [x1]) h
theorem st_tells_0 {d : Nat} {M : Mem} {Q : Int → Mem → Prop} (h : B_tells_0 (fun i' as' M' => PM (d + 1) i' as' M' Q) (PM d) Q d M) : PM (d + 1) n_tells_0 [] M Q := PM_step (id := n_tells_0) (as := []) h
theorem st_tells_19 {d : Nat} {x1 x2 x3 : Int} {M : Mem} {Q : Int → Mem → Prop} (h : B_tells_19 (fun i' as' M' => PM (d + 1) i' as' M' Q) (PM d) Q d x1 x2 x3 M) : PM (d + 1) n_tells_19 [x1, x2, x3] M Q := PM_step (id := n_tells_19) (as := [x1, x2, x3]) h
theorem st_tells_72 {d : Nat} {x1 x2 x3 : Int} {M : Mem} {Q : Int → Mem → Prop} (h : B_tells_72 (fun i' as' M' => PM (d + 1) i' as' M' Q) (PM d) Q d x1 x2 x3 M) : PM (d + 1) n_tells_72 [x1, x2, x3] M Q := PM_step (id := n_tells_72) (as := [x1, x2, x3]) h
theorem st_tells_124 {d : Nat} {x1 x2 x3 : Int} {M : Mem} {Q : Int → Mem → Prop} (h : B_tells_124 (fun i' as' M' => PM (d + 1) i' as' M' Q) (PM d) Q d x1 x2 x3 M) : PM (d + 1) n_tells_124 [x1, x2, x3] M Q := PM_step (id := n_tells_124) (as := [x1, x2, x3]) h
theorem st_tells_176 {d : Nat} {x1 x2 x3 : Int} {M : Mem} {Q : Int → Mem → Prop} (h : B_tells_176 (fun i' as' M' => PM (d + 1) i' as' M' Q) (PM d) Q d x1 x2 x3 M) : PM (d + 1) n_tells_176 [x1, x2, x3] M Q := PM_step (id := n_tells_176) (as := [x1, x2, x3]) h
theorem st_enumOf_0 {d : Nat} {x1 : Int} {M : Mem} {Q : Int → Mem → Prop} (h : B_enumOf_0 (fun i' as' M' => PM (d + 1) i' as' M' Q) (PM d) Q d x1 M) : PM (d + 1) n_enumOf_0 [x1] M Q := PM_step (id := n_enumOf_0) (as := [x1]) h
theorem st_enumOf_2 {d : Nat} {x1 x2 : Int} {M : Mem} {Q : Int → Mem → Prop} (h : B_enumOf_2 (fun i' as' M' => PM (d + 1) i' as' M' Q) (PM d) Q d x1 x2 M) : PM (d + 1) n_enumOf_2 [x1, x2] M Q := PM_step (id := n_enumOf_2) (as := [x1, x2]) h
theorem st_readBook_0 {d : Nat} {M : Mem} {Q : Int → Mem → Prop} (h : B_readBook_0 (fun i' as' M' => PM (d + 1) i' as' M' Q) (PM d) Q d M) : PM (d + 1) n_readBook_0 [] M Q := PM_step (id := n_readBook_0) (as := []) h
theorem st_readBook_39 {d : Nat} {M : Mem} {Q : Int → Mem → Prop} (h : B_readBook_39 (fun i' as' M' => PM (d + 1) i' as' M' Q) (PM d) Q d M) : PM (d + 1) n_readBook_39 [] M Q := PM_step (id := n_readBook_39) (as := []) h
theorem st_readBook_59 {d : Nat} {x1 : Int} {M : Mem} {Q : Int → Mem → Prop} (h : B_readBook_59 (fun i' as' M' => PM (d + 1) i' as' M' Q) (PM d) Q d x1 M) : PM (d + 1) n_readBook_59 [x1] M Q := PM_step (id := n_readBook_59) (as := [x1]) h
theorem st_readEnum_0 {d : Nat} {M : Mem} {Q : Int → Mem → Prop} (h : B_readEnum_0 (fun i' as' M' => PM (d + 1) i' as' M' Q) (PM d) Q d M) : PM (d + 1) n_readEnum_0 [] M Q := PM_step (id := n_readEnum_0) (as := []) h
theorem st_readEnum_172 {d : Nat} {x1 : Int} {M : Mem} {Q : Int → Mem → Prop} (h : B_readEnum_172 (fun i' as' M' => PM (d + 1) i' as' M' Q) (PM d) Q d x1 M) : PM (d + 1) n_readEnum_172 [x1] M Q := PM_step (id := n_readEnum_172) (as := [x1]) h
theorem st_readEnum_211 {d : Nat} {x1 : Int} {M : Mem} {Q : Int → Mem → Prop} (h : B_readEnum_211 (fun i' as' M' => PM (d + 1) i' as' M' Q) (PM d) Q d x1 M) : PM (d + 1) n_readEnum_211 [x1] M Q := PM_step (id := n_readEnum_211) (as := [x1]) h
theorem st_readEnum_244 {d : Nat} {x1 : Int} {M : Mem} {Q : Int → Mem → Prop} (h : B_readEnum_244 (fun i' as' M' => PM (d + 1) i' as' M' Q) (PM d) Q d x1 M) : PM (d + 1) n_readEnum_244 [x1] M Q := PM_step (id := n_readEnum_244) (as := [x1]) h
theorem st_readConstant_0 {d : Nat} {M : Mem} {Q : Int → Mem → Prop} (h : B_readConstant_0 (fun i' as' M' => PM (d + 1) i' as' M' Q) (PM d) Q d M) : PM (d + 1) n_readConstant_0 [] M Q := PM_step (id := n_readConstant_0) (as := []) h
theorem st_readConstant_93 {d : Nat} {x1 x2 x3 : Int} {M : Mem} {Q : Int → Mem → Prop} (h : B_readConstant_93 (fun i' as' M' => PM (d + 1) i' as' M' Q) (PM d) Q d x1 x2 x3 M) : PM (d + 1) n_readConstant_93 [x1, x2, x3] M Q := PM_step (id := n_readConstant_93) (as := [x1, x2, x3]) h
theorem st_readConstant_172 {d : Nat} {x1 x2 x3 : Int} {M : Mem} {Q : Int → Mem → Prop} (h : B_readConstant_172 (fun i' as' M' => PM (d + 1) i' as' M' Q) (PM d) Q d x1 x2 x3 M) : PM (d + 1) n_readConstant_172 [x1, x2, x3] M Q := PM_step (id := n_readConstant_172) (as := [x1, x2, x3]) h
theorem st_readAct_0 {d : Nat} {x1 : Int} {M : Mem} {Q : Int → Mem → Prop} (h : B_readAct_0 (fun i' as' M' => PM (d + 1) i' as' M' Q) (PM d) Q d x1 M) : PM (d + 1) n_readAct_0 [x1] M Q := PM_step (id := n_readAct_0) (as := [x1]) h
theorem st_readAct_36 {d : Nat} {x1 x2 : Int} {M : Mem} {Q : Int → Mem → Prop} (h : B_readAct_36 (fun i' as' M' => PM (d + 1) i' as' M' Q) (PM d) Q d x1 x2 M) : PM (d + 1) n_readAct_36 [x1, x2] M Q := PM_step (id := n_readAct_36) (as := [x1, x2]) h
theorem st_readAct_132 {d : Nat} {x1 x2 y0 : Int} {M : Mem} {Q : Int → Mem → Prop} (h : B_readAct_132 (fun i' as' M' => PM (d + 1) i' as' M' Q) (PM d) Q d x1 x2 y0 M) : PM (d + 1) n_readAct_132 [x1, x2, y0] M Q := PM_step (id := n_readAct_132) (as := [x1, x2, y0]) h
theorem st_readAct_224 {d : Nat} {x1 x2 x3 y1 y2 y3 : Int} {M : Mem} {Q : Int → Mem → Prop} (h : B_readAct_224 (fun i' as' M' => PM (d + 1) i' as' M' Q) (PM d) Q d x1 x2 x3 y1 y2 y3 M) : PM (d + 1) n_readAct_224 [x1, x2, x3, y1, y2, y3] M Q := PM_step (id := n_readAct_224) (as := [x1, x2, x3, y1, y2, y3]) h
theorem st_readMember_0 {d : Nat} {M : Mem} {Q : Int → Mem → Prop} (h : B_readMember_0 (fun i' as' M' => PM (d + 1) i' as' M' Q) (PM d) Q d M) : PM (d + 1) n_readMember_0 [] M Q := PM_step (id := n_readMember_0) (as := []) h
theorem st_readTable_0 {d : Nat} {M : Mem} {Q : Int → Mem → Prop} (h : B_readTable_0 (fun i' as' M' => PM (d + 1) i' as' M' Q) (PM d) Q d M) : PM (d + 1) n_readTable_0 [] M Q := PM_step (id := n_readTable_0) (as := []) h
theorem st_readTable_106 {d : Nat} {x1 x2 : Int} {M : Mem} {Q : Int → Mem → Prop} (h : B_readTable_106 (fun i' as' M' => PM (d + 1) i' as' M' Q) (PM d) Q d x1 x2 M) : PM (d + 1) n_readTable_106 [x1, x2] M Q := PM_step (id := n_readTable_106) (as := [x1, x2]) h
theorem st_readEntry_0 {d : Nat} {x1 : Int} {M : Mem} {Q : Int → Mem → Prop} (h : B_readEntry_0 (fun i' as' M' => PM (d + 1) i' as' M' Q) (PM d) Q d x1 M) : PM (d + 1) n_readEntry_0 [x1] M Q := PM_step (id := n_readEntry_0) (as := [x1]) h
theorem st_beginsExpr_0 {d : Nat} {M : Mem} {Q : Int → Mem → Prop} (h : B_beginsExpr_0 (fun i' as' M' => PM (d + 1) i' as' M' Q) (PM d) Q d M) : PM (d + 1) n_beginsExpr_0 [] M Q := PM_step (id := n_beginsExpr_0) (as := []) h
theorem st_readSwitch_0 {d : Nat} {M : Mem} {Q : Int → Mem → Prop} (h : B_readSwitch_0 (fun i' as' M' => PM (d + 1) i' as' M' Q) (PM d) Q d M) : PM (d + 1) n_readSwitch_0 [] M Q := PM_step (id := n_readSwitch_0) (as := []) h
theorem st_readSwitch_95 {d : Nat} {x1 x2 : Int} {M : Mem} {Q : Int → Mem → Prop} (h : B_readSwitch_95 (fun i' as' M' => PM (d + 1) i' as' M' Q) (PM d) Q d x1 x2 M) : PM (d + 1) n_readSwitch_95 [x1, x2] M Q := PM_step (id := n_readSwitch_95) (as := [x1, x2]) h
theorem st_readCase_0 {d : Nat} {x1 : Int} {M : Mem} {Q : Int → Mem → Prop} (h : B_readCase_0 (fun i' as' M' => PM (d + 1) i' as' M' Q) (PM d) Q d x1 M) : PM (d + 1) n_readCase_0 [x1] M Q := PM_step (id := n_readCase_0) (as := [x1]) h
theorem st_readCase_26 {d : Nat} {x1 x2 x3 : Int} {M : Mem} {Q : Int → Mem → Prop} (h : B_readCase_26 (fun i' as' M' => PM (d + 1) i' as' M' Q) (PM d) Q d x1 x2 x3 M) : PM (d + 1) n_readCase_26 [x1, x2, x3] M Q := PM_step (id := n_readCase_26) (as := [x1, x2, x3]) h
theorem st_readExpr_0 {d : Nat} {x1 x2 x3 : Int} {M : Mem} {Q : Int → Mem → Prop} (h : B_readExpr_0 (fun i' as' M' => PM (d + 1) i' as' M' Q) (PM d) Q d x1 x2 x3 M) : PM (d + 1) n_readExpr_0 [x1, x2, x3] M Q := PM_step (id := n_readExpr_0) (as := [x1, x2, x3]) h
theorem st_readSum_0 {d : Nat} {M : Mem} {Q : Int → Mem → Prop} (h : B_readSum_0 (fun i' as' M' => PM (d + 1) i' as' M' Q) (PM d) Q d M) : PM (d + 1) n_readSum_0 [] M Q := PM_step (id := n_readSum_0) (as := []) h
theorem st_readSum_5 {d : Nat} {x1 : Int} {M : Mem} {Q : Int → Mem → Prop} (h : B_readSum_5 (fun i' as' M' => PM (d + 1) i' as' M' Q) (PM d) Q d x1 M) : PM (d + 1) n_readSum_5 [x1] M Q := PM_step (id := n_readSum_5) (as := [x1]) h
theorem st_readTerm_0 {d : Nat} {M : Mem} {Q : Int → Mem → Prop} (h : B_readTerm_0 (fun i' as' M' => PM (d + 1) i' as' M' Q) (PM d) Q d M) : PM (d + 1) n_readTerm_0 [] M Q := PM_step (id := n_readTerm_0) (as := []) h
theorem st_readTerm_5 {d : Nat} {x1 : Int} {M : Mem} {Q : Int → Mem → Prop} (h : B_readTerm_5 (fun i' as' M' => PM (d + 1) i' as' M' Q) (PM d) Q d x1 M) : PM (d + 1) n_readTerm_5 [x1] M Q := PM_step (id := n_readTerm_5) (as := [x1]) h
theorem st_readFactor_0 {d : Nat} {M : Mem} {Q : Int → Mem → Prop} (h : B_readFactor_0 (fun i' as' M' => PM (d + 1) i' as' M' Q) (PM d) Q d M) : PM (d + 1) n_readFactor_0 [] M Q := PM_step (id := n_readFactor_0) (as := []) h
theorem st_readFactor_89 {d : Nat} {x1 x2 : Int} {M : Mem} {Q : Int → Mem → Prop} (h : B_readFactor_89 (fun i' as' M' => PM (d + 1) i' as' M' Q) (PM d) Q d x1 x2 M) : PM (d + 1) n_readFactor_89 [x1, x2] M Q := PM_step (id := n_readFactor_89) (as := [x1, x2]) h
theorem st_readFactor_203 {d : Nat} {M : Mem} {Q : Int → Mem → Prop} (h : B_readFactor_203 (fun i' as' M' => PM (d + 1) i' as' M' Q) (PM d) Q d M) : PM (d + 1) n_readFactor_203 [] M Q := PM_step (id := n_readFactor_203) (as := []) h
theorem st_taken_0 {d : Nat} {x1 : Int} {M : Mem} {Q : Int → Mem → Prop} (h : B_taken_0 (fun i' as' M' => PM (d + 1) i' as' M' Q) (PM d) Q d x1 M) : PM (d + 1) n_taken_0 [x1] M Q := PM_step (id := n_taken_0) (as := [x1]) h
theorem st_readReference_0 {d : Nat} {M : Mem} {Q : Int → Mem → Prop} (h : B_readReference_0 (fun i' as' M' => PM (d + 1) i' as' M' Q) (PM d) Q d M) : PM (d + 1) n_readReference_0 [] M Q := PM_step (id := n_readReference_0) (as := []) h
theorem st_settle_0 {d : Nat} {x1 : Int} {M : Mem} {Q : Int → Mem → Prop} (h : B_settle_0 (fun i' as' M' => PM (d + 1) i' as' M' Q) (PM d) Q d x1 M) : PM (d + 1) n_settle_0 [x1] M Q := PM_step (id := n_settle_0) (as := [x1]) h
theorem st_settle_79 {d : Nat} {x1 x2 x3 y0 : Int} {M : Mem} {Q : Int → Mem → Prop} (h : B_settle_79 (fun i' as' M' => PM (d + 1) i' as' M' Q) (PM d) Q d x1 x2 x3 y0 M) : PM (d + 1) n_settle_79 [x1, x2, x3, y0] M Q := PM_step (id := n_settle_79) (as := [x1, x2, x3, y0]) h
theorem st_settle_266 {d : Nat} {x1 x2 x3 x4 x5 x6 x7 : Int} {M : Mem} {Q : Int → Mem → Prop} (h : B_settle_266 (fun i' as' M' => PM (d + 1) i' as' M' Q) (PM d) Q d x1 x2 x3 x4 x5 x6 x7 M) : PM (d + 1) n_settle_266 [x1, x2, x3, x4, x5, x6, x7] M Q := PM_step (id := n_settle_266) (as := [x1, x2, x3, x4, x5, x6, x7]) h
theorem st_lacks_0 {d : Nat} {x1 : Int} {M : Mem} {Q : Int → Mem → Prop} (h : B_lacks_0 (fun i' as' M' => PM (d + 1) i' as' M' Q) (PM d) Q d x1 M) : PM (d + 1) n_lacks_0 [x1] M Q := PM_step (id := n_lacks_0) (as := [x1]) h
theorem st_among_0 {d : Nat} {x1 x2 x3 x4 : Int} {M : Mem} {Q : Int → Mem → Prop} (h : B_among_0 (fun i' as' M' => PM (d + 1) i' as' M' Q) (PM d) Q d x1 x2 x3 x4 M) : PM (d + 1) n_among_0 [x1, x2, x3, x4] M Q := PM_step (id := n_among_0) (as := [x1, x2, x3, x4]) h
theorem st_among_3 {d : Nat} {x1 x2 x3 x4 x5 : Int} {M : Mem} {Q : Int → Mem → Prop} (h : B_among_3 (fun i' as' M' => PM (d + 1) i' as' M' Q) (PM d) Q d x1 x2 x3 x4 x5 M) : PM (d + 1) n_among_3 [x1, x2, x3, x4, x5] M Q := PM_step (id := n_among_3) (as := [x1, x2, x3, x4, x5]) h
theorem st_book_0 {d : Nat} {M : Mem} {Q : Int → Mem → Prop} (h : B_book_0 (fun i' as' M' => PM (d + 1) i' as' M' Q) (PM d) Q d M) : PM (d + 1) n_book_0 [] M Q := PM_step (id := n_book_0) (as := []) h
theorem st_book_22 {d : Nat} {x1 : Int} {M : Mem} {Q : Int → Mem → Prop} (h : B_book_22 (fun i' as' M' => PM (d + 1) i' as' M' Q) (PM d) Q d x1 M) : PM (d + 1) n_book_22 [x1] M Q := PM_step (id := n_book_22) (as := [x1]) h
theorem st_wrong_0 {d : Nat} {M : Mem} {Q : Int → Mem → Prop} (h : B_wrong_0 (fun i' as' M' => PM (d + 1) i' as' M' Q) (PM d) Q d M) : PM (d + 1) n_wrong_0 [] M Q := PM_step (id := n_wrong_0) (as := []) h
theorem st_asleep_0 {d : Nat} {x1 : Int} {M : Mem} {Q : Int → Mem → Prop} (h : B_asleep_0 (fun i' as' M' => PM (d + 1) i' as' M' Q) (PM d) Q d x1 M) : PM (d + 1) n_asleep_0 [x1] M Q := PM_step (id := n_asleep_0) (as := [x1]) h
theorem st_asleep_2 {d : Nat} {x1 x2 : Int} {M : Mem} {Q : Int → Mem → Prop} (h : B_asleep_2 (fun i' as' M' => PM (d + 1) i' as' M' Q) (PM d) Q d x1 x2 M) : PM (d + 1) n_asleep_2 [x1, x2] M Q := PM_step (id := n_asleep_2) (as := [x1, x2]) h
theorem st_asleep_33 {d : Nat} {x1 x2 : Int} {M : Mem} {Q : Int → Mem → Prop} (h : B_asleep_33 (fun i' as' M' => PM (d + 1) i' as' M' Q) (PM d) Q d x1 x2 M) : PM (d + 1) n_asleep_33 [x1, x2] M Q := PM_step (id := n_asleep_33) (as := [x1, x2]) h
theorem st_asleep_53 {d : Nat} {x1 x2 x3 : Int} {M : Mem} {Q : Int → Mem → Prop} (h : B_asleep_53 (fun i' as' M' => PM (d + 1) i' as' M' Q) (PM d) Q d x1 x2 x3 M) : PM (d + 1) n_asleep_53 [x1, x2, x3] M Q := PM_step (id := n_asleep_53) (as := [x1, x2, x3]) h
theorem st_failing_0 {d : Nat} {x1 x2 : Int} {M : Mem} {Q : Int → Mem → Prop} (h : B_failing_0 (fun i' as' M' => PM (d + 1) i' as' M' Q) (PM d) Q d x1 x2 M) : PM (d + 1) n_failing_0 [x1, x2] M Q := PM_step (id := n_failing_0) (as := [x1, x2]) h
theorem st_use_0 {d : Nat} {x1 : Int} {M : Mem} {Q : Int → Mem → Prop} (h : B_use_0 (fun i' as' M' => PM (d + 1) i' as' M' Q) (PM d) Q d x1 M) : PM (d + 1) n_use_0 [x1] M Q := PM_step (id := n_use_0) (as := [x1]) h
theorem st_starts_0 {d : Nat} {x1 : Int} {M : Mem} {Q : Int → Mem → Prop} (h : B_starts_0 (fun i' as' M' => PM (d + 1) i' as' M' Q) (PM d) Q d x1 M) : PM (d + 1) n_starts_0 [x1] M Q := PM_step (id := n_starts_0) (as := [x1]) h
theorem st_startsHolder_0 {d : Nat} {x1 : Int} {M : Mem} {Q : Int → Mem → Prop} (h : B_startsHolder_0 (fun i' as' M' => PM (d + 1) i' as' M' Q) (PM d) Q d x1 M) : PM (d + 1) n_startsHolder_0 [x1] M Q := PM_step (id := n_startsHolder_0) (as := [x1]) h
theorem st_startsEnum_0 {d : Nat} {x1 : Int} {M : Mem} {Q : Int → Mem → Prop} (h : B_startsEnum_0 (fun i' as' M' => PM (d + 1) i' as' M' Q) (PM d) Q d x1 M) : PM (d + 1) n_startsEnum_0 [x1] M Q := PM_step (id := n_startsEnum_0) (as := [x1]) h
theorem st_startsEnum_2 {d : Nat} {x1 x2 : Int} {M : Mem} {Q : Int → Mem → Prop} (h : B_startsEnum_2 (fun i' as' M' => PM (d + 1) i' as' M' Q) (PM d) Q d x1 x2 M) : PM (d + 1) n_startsEnum_2 [x1, x2] M Q := PM_step (id := n_startsEnum_2) (as := [x1, x2]) h
theorem st_startsEnum_83 {d : Nat} {x1 x2 : Int} {M : Mem} {Q : Int → Mem → Prop} (h : B_startsEnum_83 (fun i' as' M' => PM (d + 1) i' as' M' Q) (PM d) Q d x1 x2 M) : PM (d + 1) n_startsEnum_83 [x1, x2] M Q := PM_step (id := n_startsEnum_83) (as := [x1, x2]) h
theorem st_startsEnum_99 {d : Nat} {x1 x2 x3 : Int} {M : Mem} {Q : Int → Mem → Prop} (h : B_startsEnum_99 (fun i' as' M' => PM (d + 1) i' as' M' Q) (PM d) Q d x1 x2 x3 M) : PM (d + 1) n_startsEnum_99 [x1, x2, x3] M Q := PM_step (id := n_startsEnum_99) (as := [x1, x2, x3]) h
theorem st_startsEnum_173 {d : Nat} {x1 x2 : Int} {M : Mem} {Q : Int → Mem → Prop} (h : B_startsEnum_173 (fun i' as' M' => PM (d + 1) i' as' M' Q) (PM d) Q d x1 x2 M) : PM (d + 1) n_startsEnum_173 [x1, x2] M Q := PM_step (id := n_startsEnum_173) (as := [x1, x2]) h
theorem st_sees_0 {d : Nat} {x1 x2 : Int} {M : Mem} {Q : Int → Mem → Prop} (h : B_sees_0 (fun i' as' M' => PM (d + 1) i' as' M' Q) (PM d) Q d x1 x2 M) : PM (d + 1) n_sees_0 [x1, x2] M Q := PM_step (id := n_sees_0) (as := [x1, x2]) h
theorem st_value_0 {d : Nat} {x1 x2 x3 : Int} {M : Mem} {Q : Int → Mem → Prop} (h : B_value_0 (fun i' as' M' => PM (d + 1) i' as' M' Q) (PM d) Q d x1 x2 x3 M) : PM (d + 1) n_value_0 [x1, x2, x3] M Q := PM_step (id := n_value_0) (as := [x1, x2, x3]) h
theorem st_entryOf_0 {d : Nat} {x1 x2 x3 : Int} {M : Mem} {Q : Int → Mem → Prop} (h : B_entryOf_0 (fun i' as' M' => PM (d + 1) i' as' M' Q) (PM d) Q d x1 x2 x3 M) : PM (d + 1) n_entryOf_0 [x1, x2, x3] M Q := PM_step (id := n_entryOf_0) (as := [x1, x2, x3]) h
theorem st_both_0 {d : Nat} {x1 x2 x3 : Int} {M : Mem} {Q : Int → Mem → Prop} (h : B_both_0 (fun i' as' M' => PM (d + 1) i' as' M' Q) (PM d) Q d x1 x2 x3 M) : PM (d + 1) n_both_0 [x1, x2, x3] M Q := PM_step (id := n_both_0) (as := [x1, x2, x3]) h
theorem st_both_3 {d : Nat} {x1 x2 x3 x4 : Int} {M : Mem} {Q : Int → Mem → Prop} (h : B_both_3 (fun i' as' M' => PM (d + 1) i' as' M' Q) (PM d) Q d x1 x2 x3 x4 M) : PM (d + 1) n_both_3 [x1, x2, x3, x4] M Q := PM_step (id := n_both_3) (as := [x1, x2, x3, x4]) h
theorem st_both_48 {d : Nat} {x1 x2 x3 x4 x5 : Int} {M : Mem} {Q : Int → Mem → Prop} (h : B_both_48 (fun i' as' M' => PM (d + 1) i' as' M' Q) (PM d) Q d x1 x2 x3 x4 x5 M) : PM (d + 1) n_both_48 [x1, x2, x3, x4, x5] M Q := PM_step (id := n_both_48) (as := [x1, x2, x3, x4, x5]) h
theorem st_joined_0 {d : Nat} {x1 x2 x3 : Int} {M : Mem} {Q : Int → Mem → Prop} (h : B_joined_0 (fun i' as' M' => PM (d + 1) i' as' M' Q) (PM d) Q d x1 x2 x3 M) : PM (d + 1) n_joined_0 [x1, x2, x3] M Q := PM_step (id := n_joined_0) (as := [x1, x2, x3]) h
theorem st_isEnum_0 {d : Nat} {x1 x2 : Int} {M : Mem} {Q : Int → Mem → Prop} (h : B_isEnum_0 (fun i' as' M' => PM (d + 1) i' as' M' Q) (PM d) Q d x1 x2 M) : PM (d + 1) n_isEnum_0 [x1, x2] M Q := PM_step (id := n_isEnum_0) (as := [x1, x2]) h
theorem st_isConstant_0 {d : Nat} {x1 x2 x3 : Int} {M : Mem} {Q : Int → Mem → Prop} (h : B_isConstant_0 (fun i' as' M' => PM (d + 1) i' as' M' Q) (PM d) Q d x1 x2 x3 M) : PM (d + 1) n_isConstant_0 [x1, x2, x3] M Q := PM_step (id := n_isConstant_0) (as := [x1, x2, x3]) h
theorem st_begin_0 {d : Nat} {x1 : Int} {M : Mem} {Q : Int → Mem → Prop} (h : B_begin_0 (fun i' as' M' => PM (d + 1) i' as' M' Q) (PM d) Q d x1 M) : PM (d + 1) n_begin_0 [x1] M Q := PM_step (id := n_begin_0) (as := [x1]) h
theorem st_ends_0 {d : Nat} {x1 : Int} {M : Mem} {Q : Int → Mem → Prop} (h : B_ends_0 (fun i' as' M' => PM (d + 1) i' as' M' Q) (PM d) Q d x1 M) : PM (d + 1) n_ends_0 [x1] M Q := PM_step (id := n_ends_0) (as := [x1]) h
theorem st_uses_0 {d : Nat} {x1 x2 : Int} {M : Mem} {Q : Int → Mem → Prop} (h : B_uses_0 (fun i' as' M' => PM (d + 1) i' as' M' Q) (PM d) Q d x1 x2 M) : PM (d + 1) n_uses_0 [x1, x2] M Q := PM_step (id := n_uses_0) (as := [x1, x2]) h
theorem st_told_0 {d : Nat} {x1 x2 : Int} {M : Mem} {Q : Int → Mem → Prop} (h : B_told_0 (fun i' as' M' => PM (d + 1) i' as' M' Q) (PM d) Q d x1 x2 M) : PM (d + 1) n_told_0 [x1, x2] M Q := PM_step (id := n_told_0) (as := [x1, x2]) h
theorem st_about_0 {d : Nat} {x1 x2 x3 : Int} {M : Mem} {Q : Int → Mem → Prop} (h : B_about_0 (fun i' as' M' => PM (d + 1) i' as' M' Q) (PM d) Q d x1 x2 x3 M) : PM (d + 1) n_about_0 [x1, x2, x3] M Q := PM_step (id := n_about_0) (as := [x1, x2, x3]) h
theorem st_isItem_0 {d : Nat} {x1 x2 : Int} {M : Mem} {Q : Int → Mem → Prop} (h : B_isItem_0 (fun i' as' M' => PM (d + 1) i' as' M' Q) (PM d) Q d x1 x2 M) : PM (d + 1) n_isItem_0 [x1, x2] M Q := PM_step (id := n_isItem_0) (as := [x1, x2]) h
theorem st_state_0 {d : Nat} {x1 x2 : Int} {M : Mem} {Q : Int → Mem → Prop} (h : B_state_0 (fun i' as' M' => PM (d + 1) i' as' M' Q) (PM d) Q d x1 x2 M) : PM (d + 1) n_state_0 [x1, x2] M Q := PM_step (id := n_state_0) (as := [x1, x2]) h
theorem st_letter_0 {d : Nat} {x1 x2 x3 x4 : Int} {M : Mem} {Q : Int → Mem → Prop} (h : B_letter_0 (fun i' as' M' => PM (d + 1) i' as' M' Q) (PM d) Q d x1 x2 x3 x4 M) : PM (d + 1) n_letter_0 [x1, x2, x3, x4] M Q := PM_step (id := n_letter_0) (as := [x1, x2, x3, x4]) h
theorem st_body_0 {d : Nat} {x1 x2 x3 x4 : Int} {M : Mem} {Q : Int → Mem → Prop} (h : B_body_0 (fun i' as' M' => PM (d + 1) i' as' M' Q) (PM d) Q d x1 x2 x3 x4 M) : PM (d + 1) n_body_0 [x1, x2, x3, x4] M Q := PM_step (id := n_body_0) (as := [x1, x2, x3, x4]) h
theorem st_use__0 {d : Nat} {x1 x2 : Int} {M : Mem} {Q : Int → Mem → Prop} (h : B_use__0 (fun i' as' M' => PM (d + 1) i' as' M' Q) (PM d) Q d x1 x2 M) : PM (d + 1) n_use__0 [x1, x2] M Q := PM_step (id := n_use__0) (as := [x1, x2]) h
theorem st_argument_0 {d : Nat} {x1 x2 x3 : Int} {M : Mem} {Q : Int → Mem → Prop} (h : B_argument_0 (fun i' as' M' => PM (d + 1) i' as' M' Q) (PM d) Q d x1 x2 x3 M) : PM (d + 1) n_argument_0 [x1, x2, x3] M Q := PM_step (id := n_argument_0) (as := [x1, x2, x3]) h
theorem st_act_0 {d : Nat} {x1 x2 x3 x4 : Int} {M : Mem} {Q : Int → Mem → Prop} (h : B_act_0 (fun i' as' M' => PM (d + 1) i' as' M' Q) (PM d) Q d x1 x2 x3 x4 M) : PM (d + 1) n_act_0 [x1, x2, x3, x4] M Q := PM_step (id := n_act_0) (as := [x1, x2, x3, x4]) h
theorem st_entry_0 {d : Nat} {x1 x2 x3 x4 : Int} {M : Mem} {Q : Int → Mem → Prop} (h : B_entry_0 (fun i' as' M' => PM (d + 1) i' as' M' Q) (PM d) Q d x1 x2 x3 x4 M) : PM (d + 1) n_entry_0 [x1, x2, x3, x4] M Q := PM_step (id := n_entry_0) (as := [x1, x2, x3, x4]) h
theorem st_holder_0 {d : Nat} {x1 x2 x3 : Int} {M : Mem} {Q : Int → Mem → Prop} (h : B_holder_0 (fun i' as' M' => PM (d + 1) i' as' M' Q) (PM d) Q d x1 x2 x3 M) : PM (d + 1) n_holder_0 [x1, x2, x3] M Q := PM_step (id := n_holder_0) (as := [x1, x2, x3]) h
theorem st_branch_0 {d : Nat} {x1 x2 x3 x4 : Int} {M : Mem} {Q : Int → Mem → Prop} (h : B_branch_0 (fun i' as' M' => PM (d + 1) i' as' M' Q) (PM d) Q d x1 x2 x3 x4 M) : PM (d + 1) n_branch_0 [x1, x2, x3, x4] M Q := PM_step (id := n_branch_0) (as := [x1, x2, x3, x4]) h
theorem st_branch_70 {d : Nat} {x1 x2 x3 x4 x5 x6 x7 : Int} {M : Mem} {Q : Int → Mem → Prop} (h : B_branch_70 (fun i' as' M' => PM (d + 1) i' as' M' Q) (PM d) Q d x1 x2 x3 x4 x5 x6 x7 M) : PM (d + 1) n_branch_70 [x1, x2, x3, x4, x5, x6, x7] M Q := PM_step (id := n_branch_70) (as := [x1, x2, x3, x4, x5, x6, x7]) h
theorem st_out_0 {d : Nat} {M : Mem} {Q : Int → Mem → Prop} (h : B_out_0 (fun i' as' M' => PM (d + 1) i' as' M' Q) (PM d) Q d M) : PM (d + 1) n_out_0 [] M Q := PM_step (id := n_out_0) (as := []) h
theorem st_cause_0 {d : Nat} {x1 x2 : Int} {M : Mem} {Q : Int → Mem → Prop} (h : B_cause_0 (fun i' as' M' => PM (d + 1) i' as' M' Q) (PM d) Q d x1 x2 M) : PM (d + 1) n_cause_0 [x1, x2] M Q := PM_step (id := n_cause_0) (as := [x1, x2]) h
theorem st_start_0 {d : Nat} {x1 x2 : Int} {M : Mem} {Q : Int → Mem → Prop} (h : B_start_0 (fun i' as' M' => PM (d + 1) i' as' M' Q) (PM d) Q d x1 x2 M) : PM (d + 1) n_start_0 [x1, x2] M Q := PM_step (id := n_start_0) (as := [x1, x2]) h
theorem st_seen_0 {d : Nat} {x1 x2 x3 : Int} {M : Mem} {Q : Int → Mem → Prop} (h : B_seen_0 (fun i' as' M' => PM (d + 1) i' as' M' Q) (PM d) Q d x1 x2 x3 M) : PM (d + 1) n_seen_0 [x1, x2, x3] M Q := PM_step (id := n_seen_0) (as := [x1, x2, x3]) h
theorem st_set_0 {d : Nat} {x1 x2 : Int} {M : Mem} {Q : Int → Mem → Prop} (h : B_set_0 (fun i' as' M' => PM (d + 1) i' as' M' Q) (PM d) Q d x1 x2 M) : PM (d + 1) n_set_0 [x1, x2] M Q := PM_step (id := n_set_0) (as := [x1, x2]) h
theorem st_isIn_0 {d : Nat} {x1 x2 : Int} {M : Mem} {Q : Int → Mem → Prop} (h : B_isIn_0 (fun i' as' M' => PM (d + 1) i' as' M' Q) (PM d) Q d x1 x2 M) : PM (d + 1) n_isIn_0 [x1, x2] M Q := PM_step (id := n_isIn_0) (as := [x1, x2]) h
theorem st_add_0 {d : Nat} {x1 x2 : Int} {M : Mem} {Q : Int → Mem → Prop} (h : B_add_0 (fun i' as' M' => PM (d + 1) i' as' M' Q) (PM d) Q d x1 x2 M) : PM (d + 1) n_add_0 [x1, x2] M Q := PM_step (id := n_add_0) (as := [x1, x2]) h
theorem st_take_0 {d : Nat} {x1 x2 : Int} {M : Mem} {Q : Int → Mem → Prop} (h : B_take_0 (fun i' as' M' => PM (d + 1) i' as' M' Q) (PM d) Q d x1 x2 M) : PM (d + 1) n_take_0 [x1, x2] M Q := PM_step (id := n_take_0) (as := [x1, x2]) h
theorem st_join_0 {d : Nat} {x1 x2 x3 : Int} {M : Mem} {Q : Int → Mem → Prop} (h : B_join_0 (fun i' as' M' => PM (d + 1) i' as' M' Q) (PM d) Q d x1 x2 x3 M) : PM (d + 1) n_join_0 [x1, x2, x3] M Q := PM_step (id := n_join_0) (as := [x1, x2, x3]) h
theorem st_member_0 {d : Nat} {x1 x2 : Int} {M : Mem} {Q : Int → Mem → Prop} (h : B_member_0 (fun i' as' M' => PM (d + 1) i' as' M' Q) (PM d) Q d x1 x2 M) : PM (d + 1) n_member_0 [x1, x2] M Q := PM_step (id := n_member_0) (as := [x1, x2]) h
theorem st_member_24 {d : Nat} {x1 x2 x3 x4 : Int} {M : Mem} {Q : Int → Mem → Prop} (h : B_member_24 (fun i' as' M' => PM (d + 1) i' as' M' Q) (PM d) Q d x1 x2 x3 x4 M) : PM (d + 1) n_member_24 [x1, x2, x3, x4] M Q := PM_step (id := n_member_24) (as := [x1, x2, x3, x4]) h
theorem st_map_0 {d : Nat} {x1 x2 : Int} {M : Mem} {Q : Int → Mem → Prop} (h : B_map_0 (fun i' as' M' => PM (d + 1) i' as' M' Q) (PM d) Q d x1 x2 M) : PM (d + 1) n_map_0 [x1, x2] M Q := PM_step (id := n_map_0) (as := [x1, x2]) h
theorem st_isMapped_0 {d : Nat} {x1 x2 : Int} {M : Mem} {Q : Int → Mem → Prop} (h : B_isMapped_0 (fun i' as' M' => PM (d + 1) i' as' M' Q) (PM d) Q d x1 x2 M) : PM (d + 1) n_isMapped_0 [x1, x2] M Q := PM_step (id := n_isMapped_0) (as := [x1, x2]) h
theorem st_put_0 {d : Nat} {x1 x2 x3 : Int} {M : Mem} {Q : Int → Mem → Prop} (h : B_put_0 (fun i' as' M' => PM (d + 1) i' as' M' Q) (PM d) Q d x1 x2 x3 M) : PM (d + 1) n_put_0 [x1, x2, x3] M Q := PM_step (id := n_put_0) (as := [x1, x2, x3]) h
theorem st_get_0 {d : Nat} {x1 x2 : Int} {M : Mem} {Q : Int → Mem → Prop} (h : B_get_0 (fun i' as' M' => PM (d + 1) i' as' M' Q) (PM d) Q d x1 x2 M) : PM (d + 1) n_get_0 [x1, x2] M Q := PM_step (id := n_get_0) (as := [x1, x2]) h
theorem st_constantHere_0 {d : Nat} {x1 : Int} {M : Mem} {Q : Int → Mem → Prop} (h : B_constantHere_0 (fun i' as' M' => PM (d + 1) i' as' M' Q) (PM d) Q d x1 M) : PM (d + 1) n_constantHere_0 [x1] M Q := PM_step (id := n_constantHere_0) (as := [x1]) h
theorem st_constantHere_14 {d : Nat} {x1 x2 : Int} {M : Mem} {Q : Int → Mem → Prop} (h : B_constantHere_14 (fun i' as' M' => PM (d + 1) i' as' M' Q) (PM d) Q d x1 x2 M) : PM (d + 1) n_constantHere_14 [x1, x2] M Q := PM_step (id := n_constantHere_14) (as := [x1, x2]) h
theorem st_constantHere_34 {d : Nat} {x1 x2 x3 : Int} {M : Mem} {Q : Int → Mem → Prop} (h : B_constantHere_34 (fun i' as' M' => PM (d + 1) i' as' M' Q) (PM d) Q d x1 x2 x3 M) : PM (d + 1) n_constantHere_34 [x1, x2, x3] M Q := PM_step (id := n_constantHere_34) (as := [x1, x2, x3]) h
theorem st_constantHere_84 {d : Nat} {x1 x2 x3 x4 x5 x6 : Int} {M : Mem} {Q : Int → Mem → Prop} (h : B_constantHere_84 (fun i' as' M' => PM (d + 1) i' as' M' Q) (PM d) Q d x1 x2 x3 x4 x5 x6 M) : PM (d + 1) n_constantHere_84 [x1, x2, x3, x4, x5, x6] M Q := PM_step (id := n_constantHere_84) (as := [x1, x2, x3, x4, x5, x6]) h
theorem st_encode_0 {d : Nat} {x1 : Int} {M : Mem} {Q : Int → Mem → Prop} (h : B_encode_0 (fun i' as' M' => PM (d + 1) i' as' M' Q) (PM d) Q d x1 M) : PM (d + 1) n_encode_0 [x1] M Q := PM_step (id := n_encode_0) (as := [x1]) h
theorem st_encode_51 {d : Nat} {x1 x2 x3 x4 x5 : Int} {M : Mem} {Q : Int → Mem → Prop} (h : B_encode_51 (fun i' as' M' => PM (d + 1) i' as' M' Q) (PM d) Q d x1 x2 x3 x4 x5 M) : PM (d + 1) n_encode_51 [x1, x2, x3, x4, x5] M Q := PM_step (id := n_encode_51) (as := [x1, x2, x3, x4, x5]) h
theorem st_signal_0 {d : Nat} {x1 x2 x3 : Int} {M : Mem} {Q : Int → Mem → Prop} (h : B_signal_0 (fun i' as' M' => PM (d + 1) i' as' M' Q) (PM d) Q d x1 x2 x3 M) : PM (d + 1) n_signal_0 [x1, x2, x3] M Q := PM_step (id := n_signal_0) (as := [x1, x2, x3]) h
theorem st_put__0 {d : Nat} {x1 : Int} {M : Mem} {Q : Int → Mem → Prop} (h : B_put__0 (fun i' as' M' => PM (d + 1) i' as' M' Q) (PM d) Q d x1 M) : PM (d + 1) n_put__0 [x1] M Q := PM_step (id := n_put__0) (as := [x1]) h
theorem st_decode_0 {d : Nat} {x1 : Int} {M : Mem} {Q : Int → Mem → Prop} (h : B_decode_0 (fun i' as' M' => PM (d + 1) i' as' M' Q) (PM d) Q d x1 M) : PM (d + 1) n_decode_0 [x1] M Q := PM_step (id := n_decode_0) (as := [x1]) h
theorem st_decode_24 {d : Nat} {x1 x2 : Int} {M : Mem} {Q : Int → Mem → Prop} (h : B_decode_24 (fun i' as' M' => PM (d + 1) i' as' M' Q) (PM d) Q d x1 x2 M) : PM (d + 1) n_decode_24 [x1, x2] M Q := PM_step (id := n_decode_24) (as := [x1, x2]) h
theorem st_decode_67 {d : Nat} {x1 x2 x3 x4 : Int} {M : Mem} {Q : Int → Mem → Prop} (h : B_decode_67 (fun i' as' M' => PM (d + 1) i' as' M' Q) (PM d) Q d x1 x2 x3 x4 M) : PM (d + 1) n_decode_67 [x1, x2, x3, x4] M Q := PM_step (id := n_decode_67) (as := [x1, x2, x3, x4]) h
theorem st_decode_119 {d : Nat} {x1 x2 x3 x4 : Int} {M : Mem} {Q : Int → Mem → Prop} (h : B_decode_119 (fun i' as' M' => PM (d + 1) i' as' M' Q) (PM d) Q d x1 x2 x3 x4 M) : PM (d + 1) n_decode_119 [x1, x2, x3, x4] M Q := PM_step (id := n_decode_119) (as := [x1, x2, x3, x4]) h
theorem st_decode_143 {d : Nat} {x1 x2 x3 x4 : Int} {M : Mem} {Q : Int → Mem → Prop} (h : B_decode_143 (fun i' as' M' => PM (d + 1) i' as' M' Q) (PM d) Q d x1 x2 x3 x4 M) : PM (d + 1) n_decode_143 [x1, x2, x3, x4] M Q := PM_step (id := n_decode_143) (as := [x1, x2, x3, x4]) h
theorem st_decode_193 {d : Nat} {x1 x2 : Int} {M : Mem} {Q : Int → Mem → Prop} (h : B_decode_193 (fun i' as' M' => PM (d + 1) i' as' M' Q) (PM d) Q d x1 x2 M) : PM (d + 1) n_decode_193 [x1, x2] M Q := PM_step (id := n_decode_193) (as := [x1, x2]) h
/-! ===== bits ===== -/
theorem bAnd1 (x : Int) : bAnd x 1 = x % 2 := by
  unfold bAnd
  have h : (Int32.ofInt x &&& Int32.ofInt 1).toInt = (((BitVec.ofInt 32 x) &&& 1#32).toInt) := rfl
  rw [h]
  rw [BitVec.toInt_eq_toNat_of_lt (by
    rw [BitVec.toNat_and]
    have : (BitVec.ofInt 32 x).toNat &&& (1#32).toNat ≤ (1#32).toNat := Nat.and_le_right
    have e : (1#32).toNat = 1 := rfl
    omega)]
  rw [BitVec.toNat_and, show (1#32).toNat = 1 from rfl, Nat.and_one_is_mod, BitVec.toNat_ofInt]
  omega
theorem bAndM {k : Nat} {m : Int} (hk : k ≤ 31) (hm : m = 2 ^ k - 1) (x : Int) : bAnd x m = x % 2 ^ k := by
  unfold bAnd
  have h : (Int32.ofInt x &&& Int32.ofInt m).toInt = (((BitVec.ofInt 32 x) &&& (BitVec.ofInt 32 m)).toInt) := rfl
  rw [h]
  have hp : (2 : Nat) ^ k ≤ 2 ^ 31 := Nat.pow_le_pow_right (by decide) hk
  have hp0 : 0 < (2 : Nat) ^ k := Nat.pow_pos (by decide)
  have hpe : ((2 : Int) ^ k) = ((2 ^ k : Nat) : Int) := by simp
  have hmn : (BitVec.ofInt 32 m).toNat = 2 ^ k - 1 := by
    rw [BitVec.toNat_ofInt, hm, hpe]
    have e : (2 : Nat) ^ 31 = 2147483648 := by decide
    have e2 : ((2 ^ 32 : Nat) : Int) = 4294967296 := by decide
    rw [e] at hp
    rw [e2]
    omega
  have hnat : ((BitVec.ofInt 32 x) &&& (BitVec.ofInt 32 m)).toNat = (BitVec.ofInt 32 x).toNat % 2 ^ k := by
    rw [BitVec.toNat_and, hmn, Nat.and_two_pow_sub_one_eq_mod]
  rw [BitVec.toInt_eq_toNat_of_lt (by
    rw [hnat]
    have := Nat.mod_lt (BitVec.ofInt 32 x).toNat hp0
    have e : (2 : Nat) ^ 31 = 2147483648 := by decide
    omega)]
  rw [hnat, BitVec.toNat_ofInt, hpe]
  have hd : (2 ^ k : Nat) ∣ 2 ^ 32 := Nat.pow_dvd_pow 2 (by omega)
  have h0 : 0 ≤ x % ((2 ^ 32 : Nat) : Int) := Int.emod_nonneg _ (by decide)
  rw [Int.natCast_emod, Int.toNat_of_nonneg h0]
  exact Int.emod_emod_of_dvd x (Int.ofNat_dvd.mpr hd)
theorem i32_nat {x : Int} (h0 : 0 ≤ x) (h1 : x < 2147483648) : (BitVec.ofInt 32 x).toNat = x.toNat := by
  rw [BitVec.toNat_ofInt]
  have e2 : ((2 ^ 32 : Nat) : Int) = 4294967296 := by decide
  rw [e2]
  omega
theorem sh31 {i : Int} (h0 : 0 ≤ i) (h1 : i < 32) : ((BitVec.ofInt 32 i) &&& 31#32).toNat = i.toNat := by
  rw [BitVec.toNat_and, i32_nat h0 (by omega), show (31#32).toNat = 2 ^ 5 - 1 from rfl, Nat.and_two_pow_sub_one_eq_mod]
  omega
theorem bUshr_pos {x i : Int} (h0 : 0 ≤ x) (h1 : x < 2147483648) (i0 : 0 ≤ i) (i1 : i < 32) : bUshr x i = x / 2 ^ i.toNat := by
  unfold bUshr
  have h : ((Int32.ofInt x).toUInt32 >>> ((Int32.ofInt i).toUInt32 &&& Int32.toUInt32 31)).toInt32.toInt = ((BitVec.ofInt 32 x) >>> ((((BitVec.ofInt 32 i) &&& 31#32)) % 32#32)).toInt := rfl
  rw [h]
  have e : ((((BitVec.ofInt 32 i) &&& 31#32)) % 32#32).toNat = i.toNat := by
    rw [BitVec.toNat_umod, sh31 i0 i1, show (32#32).toNat = 32 from rfl]
    omega
  have hn : ((BitVec.ofInt 32 x) >>> ((((BitVec.ofInt 32 i) &&& 31#32)) % 32#32)).toNat = x.toNat / 2 ^ i.toNat := by
    rw [BitVec.ushiftRight_eq', BitVec.toNat_ushiftRight, e, i32_nat h0 h1, Nat.shiftRight_eq_div_pow]
  have hl : x.toNat / 2 ^ i.toNat ≤ x.toNat := Nat.div_le_self _ _
  rw [BitVec.toInt_eq_toNat_of_lt (by rw [hn]; omega), hn, Int.natCast_ediv, Int.toNat_of_nonneg h0]
  simp
theorem bShr_pos {x i : Int} (h0 : 0 ≤ x) (h1 : x < 2147483648) (i0 : 0 ≤ i) (i1 : i < 32) : bShr x i = x / 2 ^ i.toNat := by
  unfold bShr
  have h : (Int32.ofInt x >>> (Int32.ofInt i &&& 31)).toInt = ((BitVec.ofInt 32 x).sshiftRight' ((((BitVec.ofInt 32 i) &&& 31#32)).smod 32#32)).toInt := rfl
  rw [h]
  have e : ((((BitVec.ofInt 32 i) &&& 31#32)).smod 32#32).toNat = i.toNat := by
    have q := sh31 i0 i1
    have hm : ((BitVec.ofInt 32 i) &&& 31#32).msb = false := by
      rw [BitVec.msb_eq_decide]
      simp only [decide_eq_false_iff_not]
      rw [q]
      omega
    rw [BitVec.smod_eq, hm, show (32#32).msb = false from rfl]
    show ((((BitVec.ofInt 32 i) &&& 31#32)) % 32#32).toNat = _
    rw [BitVec.toNat_umod, q, show (32#32).toNat = 32 from rfl]
    omega
  have hx : (BitVec.ofInt 32 x).toInt = x := by
    rw [BitVec.toInt_eq_toNat_of_lt (by rw [i32_nat h0 h1]; omega), i32_nat h0 h1]
    omega
  rw [BitVec.sshiftRight', e, BitVec.toInt_sshiftRight, hx, Int.shiftRight_eq_div_pow]
  simp
theorem lUshr_pos {x s : Int} (h0 : 0 ≤ x) (h1 : x < 9223372036854775808) (i0 : 0 ≤ s) (i1 : s < 64) : lUshr x s = x / 2 ^ s.toNat := by
  unfold lUshr
  have h : ((Int64.ofInt x).toUInt64 >>> ((Int32.ofInt s).toInt64.toUInt64 &&& Int64.toUInt64 63)).toInt64.toInt = ((BitVec.ofInt 64 x) >>> ((((BitVec.ofInt 32 s).signExtend 64) &&& 63#64) % 64#64)).toInt := rfl
  rw [h]
  have e32 : (BitVec.ofInt 32 s).toNat = s.toNat := i32_nat i0 (by omega)
  have es : ((BitVec.ofInt 32 s).signExtend 64).toNat = s.toNat := by
    rw [BitVec.signExtend_eq_setWidth_of_msb_false (by
      rw [BitVec.msb_eq_decide]
      simp only [decide_eq_false_iff_not]
      rw [e32]
      omega), BitVec.toNat_setWidth, e32]
    omega
  have e : ((((BitVec.ofInt 32 s).signExtend 64) &&& 63#64) % 64#64).toNat = s.toNat := by
    rw [BitVec.toNat_umod, BitVec.toNat_and, es, show (63#64).toNat = 2 ^ 6 - 1 from rfl, Nat.and_two_pow_sub_one_eq_mod, show (64#64).toNat = 64 from rfl]
    omega
  have ex : (BitVec.ofInt 64 x).toNat = x.toNat := by
    rw [BitVec.toNat_ofInt]
    have e2 : ((2 ^ 64 : Nat) : Int) = 18446744073709551616 := by decide
    rw [e2]
    omega
  have hn : ((BitVec.ofInt 64 x) >>> ((((BitVec.ofInt 32 s).signExtend 64) &&& 63#64) % 64#64)).toNat = x.toNat / 2 ^ s.toNat := by
    rw [BitVec.ushiftRight_eq', BitVec.toNat_ushiftRight, e, ex, Nat.shiftRight_eq_div_pow]
  have hl : x.toNat / 2 ^ s.toNat ≤ x.toNat := Nat.div_le_self _ _
  rw [BitVec.toInt_eq_toNat_of_lt (by rw [hn]; omega), hn, Int.natCast_ediv, Int.toNat_of_nonneg h0]
  simp
theorem ofNat_i32 {n : Nat} (h : n < 2147483648) : (BitVec.ofNat 32 n).toInt = (n : Int) := by
  rw [BitVec.toInt_eq_toNat_of_lt (by rw [BitVec.toNat_ofNat]; omega), BitVec.toNat_ofNat]
  omega
theorem toInt_small {v : BitVec 32} (h : v.toNat < 2147483648) : v.toInt = (v.toNat : Int) := BitVec.toInt_eq_toNat_of_lt (by omega)
theorem bOr_nat {x y : Int} (x0 : 0 ≤ x) (x1 : x < 2147483648) (y0 : 0 ≤ y) (y1 : y < 2147483648) : bOr x y = ((x.toNat ||| y.toNat : Nat) : Int) := by
  unfold bOr
  have h : (Int32.ofInt x ||| Int32.ofInt y).toInt = ((BitVec.ofInt 32 x) ||| (BitVec.ofInt 32 y)).toInt := rfl
  have hl : x.toNat ||| y.toNat < 2 ^ 31 := Nat.or_lt_two_pow (by omega) (by omega)
  rw [h, toInt_small (by rw [BitVec.toNat_or, i32_nat x0 x1, i32_nat y0 y1]; exact hl), BitVec.toNat_or, i32_nat x0 x1, i32_nat y0 y1]
theorem bXor_nat {x y : Int} (x0 : 0 ≤ x) (x1 : x < 2147483648) (y0 : 0 ≤ y) (y1 : y < 2147483648) : bXor x y = ((x.toNat ^^^ y.toNat : Nat) : Int) := by
  unfold bXor
  have h : (Int32.ofInt x ^^^ Int32.ofInt y).toInt = ((BitVec.ofInt 32 x) ^^^ (BitVec.ofInt 32 y)).toInt := rfl
  have hl : x.toNat ^^^ y.toNat < 2 ^ 31 := Nat.xor_lt_two_pow (by omega) (by omega)
  rw [h, toInt_small (by rw [BitVec.toNat_xor, i32_nat x0 x1, i32_nat y0 y1]; exact hl), BitVec.toNat_xor, i32_nat x0 x1, i32_nat y0 y1]
theorem bAnd_nat {x y : Int} (x0 : 0 ≤ x) (x1 : x < 2147483648) : bAnd x y = ((x.toNat &&& (BitVec.ofInt 32 y).toNat : Nat) : Int) := by
  unfold bAnd
  have h : (Int32.ofInt x &&& Int32.ofInt y).toInt = ((BitVec.ofInt 32 x) &&& (BitVec.ofInt 32 y)).toInt := rfl
  have hl : x.toNat &&& (BitVec.ofInt 32 y).toNat ≤ x.toNat := Nat.and_le_left
  rw [h, toInt_small (by rw [BitVec.toNat_and, i32_nat x0 x1]; omega), BitVec.toNat_and, i32_nat x0 x1]
theorem bAnd_bd {x y : Int} (x0 : 0 ≤ x) (x1 : x < 2147483648) : 0 ≤ bAnd x y ∧ bAnd x y ≤ x := by
  rw [bAnd_nat x0 x1]
  have hl : x.toNat &&& (BitVec.ofInt 32 y).toNat ≤ x.toNat := Nat.and_le_left
  omega
theorem bShl1 {i : Int} (i0 : 0 ≤ i) (i1 : i < 31) : bShl 1 i = ((2 ^ i.toNat : Nat) : Int) := by
  unfold bShl
  have h : (Int32.ofInt 1 <<< (Int32.ofInt i &&& 31)).toInt = ((1#32) <<< ((((BitVec.ofInt 32 i) &&& 31#32)).smod 32#32)).toInt := rfl
  rw [h]
  have e : ((((BitVec.ofInt 32 i) &&& 31#32)).smod 32#32).toNat = i.toNat := by
    have q := sh31 i0 (by omega)
    have hm : ((BitVec.ofInt 32 i) &&& 31#32).msb = false := by
      rw [BitVec.msb_eq_decide]
      simp only [decide_eq_false_iff_not]
      rw [q]
      omega
    rw [BitVec.smod_eq, hm, show (32#32).msb = false from rfl]
    show ((((BitVec.ofInt 32 i) &&& 31#32)) % 32#32).toNat = _
    rw [BitVec.toNat_umod, q, show (32#32).toNat = 32 from rfl]
    omega
  have hp : 2 ^ i.toNat < 2 ^ 31 := Nat.pow_lt_pow_right (by decide) (by omega)
  have hn : ((1#32) <<< ((((BitVec.ofInt 32 i) &&& 31#32)).smod 32#32)).toNat = 2 ^ i.toNat := by
    rw [BitVec.shiftLeft_eq', BitVec.toNat_shiftLeft, e, show (1#32).toNat = 1 from rfl, Nat.shiftLeft_eq, Nat.one_mul]
    exact Nat.mod_eq_of_lt (by omega)
  rw [toInt_small (by rw [hn]; omega), hn]
theorem bitU {x i : Int} (x0 : 0 ≤ x) (x1 : x < 2147483648) (i0 : 0 ≤ i) (i1 : i < 32) : bAnd (bUshr x i) 1 = if x.toNat.testBit i.toNat then 1 else 0 := by
  rw [bUshr_pos x0 x1 i0 i1, bAnd1]
  have e : x / 2 ^ i.toNat % 2 = ((x.toNat / 2 ^ i.toNat % 2 : Nat) : Int) := by
    rw [Int.natCast_emod, Int.natCast_ediv, Int.toNat_of_nonneg x0]
    simp
  rw [e]
  rw [Nat.testBit_eq_decide_div_mod_eq]
  by_cases h : x.toNat / 2 ^ i.toNat % 2 = 1
  · simp [h]
  · have : x.toNat / 2 ^ i.toNat % 2 = 0 := by omega
    simp [this]
theorem bitS {x i : Int} (x0 : 0 ≤ x) (x1 : x < 2147483648) (i0 : 0 ≤ i) (i1 : i < 32) : bAnd (bShr x i) 1 = if x.toNat.testBit i.toNat then 1 else 0 := by
  rw [bShr_pos x0 x1 i0 i1, ← bUshr_pos x0 x1 i0 i1, bitU x0 x1 i0 i1]

