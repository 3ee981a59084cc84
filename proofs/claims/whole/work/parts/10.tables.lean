theorem am_df (ty : FieldType) (h : (match ty with | .float => false | .double => false | _ => true) = true) : defaultValue ty = cvt ty 0 := by
  cases ty <;> first | rfl | (simp at h)
theorem goodIn_r {big : List Cond} (ws : List Cond) (ps : List Nat) (hp : ws = ps.filterMap (fun i => big[i]?)) (h : ws.all goodWord = true) : GoodIn big ws := by
  intro w hw
  have h1 := List.all_eq_true.mp h w hw
  rw [hp] at hw
  obtain ⟨i, -, hi⟩ := List.mem_filterMap.mp hw
  exact ⟨List.mem_of_getElem? hi, good_of_word h1⟩
theorem kh_RX11 : RX11 ≠ "java/lang/invoke/MethodHandle" ∧ RX11 ≠ "java/lang/invoke/VarHandle" ∧ plainName RX11 = true := by decide
theorem kh_RX0 : RX0 ≠ "java/lang/invoke/MethodHandle" ∧ RX0 ≠ "java/lang/invoke/VarHandle" ∧ plainName RX0 = true := by decide
theorem kh_RX1 : RX1 ≠ "java/lang/invoke/MethodHandle" ∧ RX1 ≠ "java/lang/invoke/VarHandle" ∧ plainName RX1 = true := by decide
theorem kh_RX2 : RX2 ≠ "java/lang/invoke/MethodHandle" ∧ RX2 ≠ "java/lang/invoke/VarHandle" ∧ plainName RX2 = true := by decide
theorem kh_RX3 : RX3 ≠ "java/lang/invoke/MethodHandle" ∧ RX3 ≠ "java/lang/invoke/VarHandle" ∧ plainName RX3 = true := by decide
theorem kh_RX4 : RX4 ≠ "java/lang/invoke/MethodHandle" ∧ RX4 ≠ "java/lang/invoke/VarHandle" ∧ plainName RX4 = true := by decide
theorem kh_RX5 : RX5 ≠ "java/lang/invoke/MethodHandle" ∧ RX5 ≠ "java/lang/invoke/VarHandle" ∧ plainName RX5 = true := by decide
theorem kh_RX6 : RX6 ≠ "java/lang/invoke/MethodHandle" ∧ RX6 ≠ "java/lang/invoke/VarHandle" ∧ plainName RX6 = true := by decide
theorem kh_RX7 : RX7 ≠ "java/lang/invoke/MethodHandle" ∧ RX7 ≠ "java/lang/invoke/VarHandle" ∧ plainName RX7 = true := by decide
theorem kh_RX8 : RX8 ≠ "java/lang/invoke/MethodHandle" ∧ RX8 ≠ "java/lang/invoke/VarHandle" ∧ plainName RX8 = true := by decide
theorem kh_RX9 : RX9 ≠ "java/lang/invoke/MethodHandle" ∧ RX9 ≠ "java/lang/invoke/VarHandle" ∧ plainName RX9 = true := by decide
theorem kh_RX10 : RX10 ≠ "java/lang/invoke/MethodHandle" ∧ RX10 ≠ "java/lang/invoke/VarHandle" ∧ plainName RX10 = true := by decide
theorem kh_RX12 : RX12 ≠ "java/lang/invoke/MethodHandle" ∧ RX12 ≠ "java/lang/invoke/VarHandle" ∧ plainName RX12 = true := by decide
theorem kh_RJ6 : RJ6 ≠ "java/lang/invoke/MethodHandle" ∧ RJ6 ≠ "java/lang/invoke/VarHandle" ∧ plainName RJ6 = true := by decide
theorem kh_RJ0 : RJ0 ≠ "java/lang/invoke/MethodHandle" ∧ RJ0 ≠ "java/lang/invoke/VarHandle" ∧ plainName RJ0 = true := by decide
theorem kh_RJ1 : RJ1 ≠ "java/lang/invoke/MethodHandle" ∧ RJ1 ≠ "java/lang/invoke/VarHandle" ∧ plainName RJ1 = true := by decide
theorem kh_RJ7 : RJ7 ≠ "java/lang/invoke/MethodHandle" ∧ RJ7 ≠ "java/lang/invoke/VarHandle" ∧ plainName RJ7 = true := by decide
theorem kh_RJ3 : RJ3 ≠ "java/lang/invoke/MethodHandle" ∧ RJ3 ≠ "java/lang/invoke/VarHandle" ∧ plainName RJ3 = true := by decide
abbrev chl_0 : List Cond := [Cond.code yX0_init cX0_init 1 none, Cond.initialized RX0, Cond.instanceMethod yX0_init, Cond.code yX0_keepEnum cX0_keepEnum 2 none, Cond.instanceMethod yX0_keepEnum, Cond.selects RX0 yX0_keepEnum yX0_keepEnum, Cond.code yX0_settle cX0_settle 2 none, Cond.instanceMethod yX0_settle, Cond.selects RX0 yX0_settle yX0_settle, Cond.code yX0_enumAt cX0_enumAt 2 (some (.object "SignalBook$Enumeration")), Cond.instanceMethod yX0_enumAt, Cond.selects RX0 yX0_enumAt yX0_enumAt, Cond.code yX0_findEnum cX0_findEnum 4 (some .int), Cond.instanceMethod yX0_findEnum, Cond.selects RX0 yX0_findEnum yX0_findEnum, Cond.code yX0_isHolder cX0_isHolder 1 (some .boolean), Cond.static yX0_isHolder, Cond.code yX0_enumOfItem cX0_enumOfItem 1 (some .int), Cond.static yX0_enumOfItem, Cond.code yX0_holderOfItem cX0_holderOfItem 1 (some .int), Cond.static yX0_holderOfItem, Cond.code yX0_hasItem cX0_hasItem 3 (some .boolean), Cond.instanceMethod yX0_hasItem, Cond.selects RX0 yX0_hasItem yX0_hasItem, Cond.code yX0_stateOf cX0_stateOf 2 (some .int)]
theorem ch_0 : ∀ w ∈ chl_0, w ∈ am_ws := am_ins (fun w hw => (goodIn_r chl_0 [541, 131, 540, 707, 705, 706, 908, 906, 907, 954, 952, 953, 598, 596, 597, 968, 967, 965, 964, 972, 971, 962, 960, 961, 976] (by decide +kernel) (by decide +kernel) w hw).1) (by decide +kernel)
abbrev chl_1 : List Cond := [Cond.instanceMethod yX0_stateOf, Cond.selects RX0 yX0_stateOf yX0_stateOf, Cond.code yX0_setState cX0_setState 3 none, Cond.instanceMethod yX0_setState, Cond.selects RX0 yX0_setState yX0_setState, Cond.code yX0_noteStart cX0_noteStart 2 none, Cond.instanceMethod yX0_noteStart, Cond.selects RX0 yX0_noteStart yX0_noteStart, Cond.code yX0_noteSeen cX0_noteSeen 3 none, Cond.instanceMethod yX0_noteSeen, Cond.selects RX0 yX0_noteSeen yX0_noteSeen, Cond.code yX0_linkNames cX0_linkNames 6 (some .int), Cond.instanceMethod yX0_linkNames, Cond.selects RX0 yX0_linkNames yX0_linkNames, Cond.code yX0_linkStep cX0_linkStep 8 (some .int), Cond.instanceMethod yX0_linkStep, Cond.selects RX0 yX0_linkStep yX0_linkStep, Cond.code yX0_linkTo cX0_linkTo 9 (some .boolean), Cond.instanceMethod yX0_linkTo, Cond.selects RX0 yX0_linkTo yX0_linkTo, Cond.code yX0_relink cX0_relink 4 (some .int), Cond.instanceMethod yX0_relink, Cond.selects RX0 yX0_relink yX0_relink, Cond.code yX1_init cX1_init 2 none, Cond.initialized RX1]
theorem ch_1 : ∀ w ∈ chl_1, w ∈ am_ws := am_ins (fun w hw => (goodIn_r chl_1 [974, 975, 1032, 1030, 1031, 1036, 1034, 1035, 1081, 1079, 1080, 912, 910, 911, 918, 917, 27, 927, 926, 29, 922, 921, 28, 249, 125] (by decide +kernel) (by decide +kernel) w hw).1) (by decide +kernel)
abbrev chl_2 : List Cond := [Cond.instanceMethod yX1_init, Cond.code yX1_ofSum cX1_ofSum 1 (some .int), Cond.static yX1_ofSum, Cond.code yX1_ofProduct cX1_ofProduct 1 (some .int), Cond.static yX1_ofProduct, Cond.code yX1_emit cX1_emit 3 none, Cond.instanceMethod yX1_emit, Cond.selects RX1 yX1_emit yX1_emit, Cond.code yX1_copy cX1_copy 2 (some (.object "SignalBook$Code")), Cond.instanceMethod yX1_copy, Cond.selects RX1 yX1_copy yX1_copy, Cond.code yX2_init cX2_init 3 none, Cond.initialized RX2, Cond.instanceMethod yX2_init, Cond.code yX3_init cX3_init 3 none, Cond.initialized RX3, Cond.instanceMethod yX3_init, Cond.code yX3_constantAt cX3_constantAt 2 (some (.object "SignalBook$Constant")), Cond.instanceMethod yX3_constantAt, Cond.selects RX3 yX3_constantAt yX3_constantAt, Cond.code yX3_tableAt cX3_tableAt 2 (some (.object "SignalBook$Table")), Cond.instanceMethod yX3_tableAt, Cond.selects RX3 yX3_tableAt yX3_tableAt, Cond.code yX3_switchAt cX3_switchAt 2 (some (.object "SignalBook$Switch")), Cond.instanceMethod yX3_switchAt]
theorem ch_2 : ∀ w ∈ chl_2, w ∈ am_ws := am_ins (fun w hw => (goodIn_r chl_2 [248, 789, 788, 786, 785, 779, 777, 778, 899, 897, 898, 744, 134, 743, 607, 132, 606, 995, 993, 994, 1097, 1095, 1096, 1150, 1148] (by decide +kernel) (by decide +kernel) w hw).1) (by decide +kernel)
abbrev chl_3 : List Cond := [Cond.selects RX3 yX3_switchAt yX3_switchAt, Cond.code yX3_findConstant cX3_findConstant 4 (some .int), Cond.instanceMethod yX3_findConstant, Cond.selects RX3 yX3_findConstant yX3_findConstant, Cond.code yX3_findTable cX3_findTable 4 (some .int), Cond.instanceMethod yX3_findTable, Cond.selects RX3 yX3_findTable yX3_findTable, Cond.code yX3_findHolder cX3_findHolder 4 (some .int), Cond.instanceMethod yX3_findHolder, Cond.selects RX3 yX3_findHolder yX3_findHolder, Cond.code yX3_findSwitch cX3_findSwitch 4 (some .int), Cond.instanceMethod yX3_findSwitch, Cond.selects RX3 yX3_findSwitch yX3_findSwitch, Cond.code yX3_knows cX3_knows 3 (some .boolean), Cond.instanceMethod yX3_knows, Cond.selects RX3 yX3_knows yX3_knows, Cond.code yX4_init cX4_init 1 none, Cond.initialized RX4, Cond.instanceMethod yX4_init, Cond.code yX4_readFrom cX4_readFrom 6 (some .int), Cond.instanceMethod yX4_readFrom, Cond.selects RX4 yX4_readFrom yX4_readFrom, Cond.code yX4_keepSignal cX4_keepSignal 7 (some .boolean), Cond.instanceMethod yX4_keepSignal, Cond.selects RX4 yX4_keepSignal yX4_keepSignal]
theorem ch_3 : ∀ w ∈ chl_3, w ∈ am_ws := am_ins (fun w hw => (goodIn_r chl_3 [1149, 727, 725, 726, 731, 729, 730, 735, 733, 734, 739, 738, 12, 723, 721, 722, 360, 128, 359, 1282, 1280, 1281, 1286, 1285, 58] (by decide +kernel) (by decide +kernel) w hw).1) (by decide +kernel)
abbrev chl_4 : List Cond := [Cond.code yX5_init cX5_init 2 none, Cond.initialized RX5, Cond.instanceMethod yX5_init, Cond.code yX5_readBook cX5_readBook 3 (some (.object "SignalBook$Book")), Cond.instanceMethod yX5_readBook, Cond.selects RX5 yX5_readBook yX5_readBook, Cond.code yX5_readHead cX5_readHead 2 (some .boolean), Cond.instanceMethod yX5_readHead, Cond.selects RX5 yX5_readHead yX5_readHead, Cond.code yX5_readConstants cX5_readConstants 3 (some .boolean), Cond.instanceMethod yX5_readConstants, Cond.selects RX5 yX5_readConstants yX5_readConstants, Cond.code yX5_readConstant cX5_readConstant 4 (some .boolean), Cond.instanceMethod yX5_readConstant, Cond.selects RX5 yX5_readConstant yX5_readConstant, Cond.code yX5_readAct cX5_readAct 5 (some .boolean), Cond.instanceMethod yX5_readAct, Cond.selects RX5 yX5_readAct yX5_readAct, Cond.code yX5_findAct cX5_findAct 4 (some .int), Cond.instanceMethod yX5_findAct, Cond.selects RX5 yX5_findAct yX5_findAct, Cond.code yX5_readMembers cX5_readMembers 3 (some .boolean), Cond.instanceMethod yX5_readMembers, Cond.selects RX5 yX5_readMembers yX5_readMembers, Cond.code yX5_readTable cX5_readTable 2 (some .boolean)]
theorem ch_4 : ∀ w ∈ chl_4, w ∈ am_ws := am_ins (fun w hw => (goodIn_r chl_4 [243, 124, 242, 536, 534, 535, 594, 593, 7, 715, 714, 10, 719, 718, 11, 793, 792, 16, 797, 796, 17, 801, 800, 18, 805] (by decide +kernel) (by decide +kernel) w hw).1) (by decide +kernel)
abbrev chl_5 : List Cond := [Cond.instanceMethod yX5_readTable, Cond.selects RX5 yX5_readTable yX5_readTable, Cond.code yX5_readEntries cX5_readEntries 3 (some .boolean), Cond.instanceMethod yX5_readEntries, Cond.selects RX5 yX5_readEntries yX5_readEntries, Cond.code yX5_beginsPlainExpr cX5_beginsPlainExpr 1 (some .boolean), Cond.instanceMethod yX5_beginsPlainExpr, Cond.selects RX5 yX5_beginsPlainExpr yX5_beginsPlainExpr, Cond.code yX5_readCheck cX5_readCheck 1 (some .boolean), Cond.instanceMethod yX5_readCheck, Cond.selects RX5 yX5_readCheck yX5_readCheck, Cond.code yX5_readHolder cX5_readHolder 1 (some .boolean), Cond.instanceMethod yX5_readHolder, Cond.selects RX5 yX5_readHolder yX5_readHolder, Cond.code yX5_readSwitch cX5_readSwitch 4 (some .boolean), Cond.instanceMethod yX5_readSwitch, Cond.selects RX5 yX5_readSwitch yX5_readSwitch, Cond.code yX5_readCase cX5_readCase 3 (some .boolean), Cond.instanceMethod yX5_readCase, Cond.selects RX5 yX5_readCase yX5_readCase, Cond.code yX5_readSum cX5_readSum 6 (some .boolean), Cond.instanceMethod yX5_readSum, Cond.selects RX5 yX5_readSum yX5_readSum, Cond.code yX5_readFactor cX5_readFactor 3 (some .boolean), Cond.instanceMethod yX5_readFactor]
theorem ch_5 : ∀ w ∈ chl_5, w ∈ am_ws := am_ins (fun w hw => (goodIn_r chl_5 [804, 19, 842, 841, 21, 846, 845, 22, 850, 849, 23, 854, 853, 24, 858, 857, 25, 891, 890, 26, 771, 770, 13, 775, 774] (by decide +kernel) (by decide +kernel) w hw).1) (by decide +kernel)
abbrev chl_6 : List Cond := [Cond.selects RX5 yX5_readFactor yX5_readFactor, Cond.code yX5_readReference cX5_readReference 3 (some .boolean), Cond.instanceMethod yX5_readReference, Cond.selects RX5 yX5_readReference yX5_readReference, Cond.code yX5_accept cX5_accept 2 (some .boolean), Cond.instanceMethod yX5_accept, Cond.selects RX5 yX5_accept yX5_accept, Cond.code yX5_acceptNew cX5_acceptNew 3 (some .boolean), Cond.instanceMethod yX5_acceptNew, Cond.selects RX5 yX5_acceptNew yX5_acceptNew, Cond.code yX5_acceptMember cX5_acceptMember 2 (some .boolean), Cond.instanceMethod yX5_acceptMember, Cond.selects RX5 yX5_acceptMember yX5_acceptMember, Cond.code yX5_pass cX5_pass 3 (some .boolean), Cond.instanceMethod yX5_pass, Cond.selects RX5 yX5_pass yX5_pass, Cond.code yX6_init cX6_init 4 none, Cond.initialized RX6, Cond.instanceMethod yX6_init, Cond.code yX6_contains cX6_contains 2 (some .boolean), Cond.instanceMethod yX6_contains, Cond.selects RX6 yX6_contains yX6_contains, Cond.code yX6_include cX6_include 3 (some .boolean), Cond.instanceMethod yX6_include, Cond.selects RX6 yX6_include yX6_include]
theorem ch_6 : ∀ w ∈ chl_6, w ∈ am_ws := am_ins (fun w hw => (goodIn_r chl_6 [14, 783, 782, 15, 711, 710, 9, 602, 601, 8, 809, 808, 20, 589, 588, 6, 1186, 138, 1185, 1228, 1226, 1227, 1224, 1222, 1223] (by decide +kernel) (by decide +kernel) w hw).1) (by decide +kernel)
abbrev chl_7 : List Cond := [Cond.code yX6_exclude cX6_exclude 3 (some .boolean), Cond.instanceMethod yX6_exclude, Cond.selects RX6 yX6_exclude yX6_exclude, Cond.code yX6_ordinalAt cX6_ordinalAt 4 (some .int), Cond.instanceMethod yX6_ordinalAt, Cond.selects RX6 yX6_ordinalAt yX6_ordinalAt, Cond.code yX7_init cX7_init 3 none, Cond.initialized RX7, Cond.instanceMethod yX7_init, Cond.code yX7_hasCase cX7_hasCase 4 (some .boolean), Cond.instanceMethod yX7_hasCase, Cond.selects RX7 yX7_hasCase yX7_hasCase, Cond.code yX8_init cX8_init 3 none, Cond.initialized RX8, Cond.instanceMethod yX8_init, Cond.code yX9_init cX9_init 6 none, Cond.initialized RX9, Cond.instanceMethod yX9_init, Cond.code yX9_cutUp cX9_cutUp 6 none, Cond.instanceMethod yX9_cutUp, Cond.selects RX9 yX9_cutUp yX9_cutUp, Cond.code yX9_lengthOfName cX9_lengthOfName 5 (some .int), Cond.static yX9_lengthOfName, Cond.code yX9_signOfName cX9_signOfName 4 (some .int), Cond.static yX9_signOfName]
theorem ch_7 : ∀ w ∈ chl_7, w ∈ am_ws := am_ins (fun w hw => (goodIn_r chl_7 [1236, 1234, 1235, 1257, 1255, 1256, 863, 136, 862, 895, 893, 894, 814, 135, 813, 152, 119, 151, 450, 448, 449, 986, 985, 989, 988] (by decide +kernel) (by decide +kernel) w hw).1) (by decide +kernel)
abbrev chl_8 : List Cond := [Cond.code yX9_rankOf cX9_rankOf 1 (some .int), Cond.static yX9_rankOf, Cond.code yX9_isDigit cX9_isDigit 1 (some .boolean), Cond.static yX9_isDigit, Cond.code yX9_rowEnd cX9_rowEnd 4 (some .int), Cond.static yX9_rowEnd, Cond.code yX9_keepRow cX9_keepRow 4 none, Cond.instanceMethod yX9_keepRow, Cond.selects RX9 yX9_keepRow yX9_keepRow, Cond.code yX9_keepNumber cX9_keepNumber 8 none, Cond.instanceMethod yX9_keepNumber, Cond.selects RX9 yX9_keepNumber yX9_keepNumber, Cond.code yX9_keepWord cX9_keepWord 7 none, Cond.instanceMethod yX9_keepWord, Cond.selects RX9 yX9_keepWord yX9_keepWord, Cond.code yX9_kindOfWord cX9_kindOfWord 4 (some .int), Cond.instanceMethod yX9_kindOfWord, Cond.selects RX9 yX9_kindOfWord yX9_kindOfWord, Cond.code yX9_keep cX9_keep 5 none, Cond.instanceMethod yX9_keep, Cond.selects RX9 yX9_keep yX9_keep, Cond.code yX10_init cX10_init 1 none, Cond.initialized RX10, Cond.instanceMethod yX10_init, Cond.code yX10_beginWith cX10_beginWith 3 (some .boolean)]
theorem ch_8 : ∀ w ∈ chl_8, w ∈ am_ws := am_ins (fun w hw => (goodIn_r chl_8 [205, 204, 208, 207, 453, 452, 457, 456, 1, 461, 460, 2, 470, 469, 4, 474, 473, 5, 466, 465, 3, 314, 127, 313, 1015] (by decide +kernel) (by decide +kernel) w hw).1) (by decide +kernel)
abbrev chl_9 : List Cond := [Cond.instanceMethod yX10_beginWith, Cond.selects RX10 yX10_beginWith yX10_beginWith, Cond.code yX10_causeKind cX10_causeKind 2 (some .int), Cond.instanceMethod yX10_causeKind, Cond.selects RX10 yX10_causeKind yX10_causeKind, Cond.code yX10_causeItem cX10_causeItem 2 (some .int), Cond.instanceMethod yX10_causeItem, Cond.selects RX10 yX10_causeItem yX10_causeItem, Cond.code yX10_useItem cX10_useItem 3 none, Cond.instanceMethod yX10_useItem, Cond.selects RX10 yX10_useItem yX10_useItem, Cond.code yX10_perform cX10_perform 5 (some .int), Cond.instanceMethod yX10_perform, Cond.selects RX10 yX10_perform yX10_perform, Cond.code yX10_performShared cX10_performShared 4 (some .int), Cond.instanceMethod yX10_performShared, Cond.selects RX10 yX10_performShared yX10_performShared, Cond.code yX10_choose cX10_choose 6 (some .int), Cond.instanceMethod yX10_choose, Cond.selects RX10 yX10_choose yX10_choose, Cond.code yX10_fail cX10_fail 3 none, Cond.instanceMethod yX10_fail, Cond.selects RX10 yX10_fail yX10_fail, Cond.code yX10_failAround cX10_failAround 2 none, Cond.instanceMethod yX10_failAround]
theorem ch_9 : ∀ w ∈ chl_9, w ∈ am_ws := am_ins (fun w hw => (goodIn_r chl_9 [1013, 1014, 1166, 1164, 1165, 1170, 1168, 1169, 1019, 1018, 34, 1129, 1127, 1128, 1069, 1068, 42, 1154, 1152, 1153, 1024, 1023, 35, 1117, 1116] (by decide +kernel) (by decide +kernel) w hw).1) (by decide +kernel)
abbrev chl_10 : List Cond := [Cond.selects RX10 yX10_failAround yX10_failAround, Cond.code yX10_startItem cX10_startItem 3 none, Cond.instanceMethod yX10_startItem, Cond.selects RX10 yX10_startItem yX10_startItem, Cond.code yX10_fillHolder cX10_fillHolder 3 none, Cond.instanceMethod yX10_fillHolder, Cond.selects RX10 yX10_fillHolder yX10_fillHolder, Cond.code yX10_makeEnum cX10_makeEnum 4 none, Cond.instanceMethod yX10_makeEnum, Cond.selects RX10 yX10_makeEnum yX10_makeEnum, Cond.code yX10_makeConstant cX10_makeConstant 4 none, Cond.instanceMethod yX10_makeConstant, Cond.selects RX10 yX10_makeConstant yX10_makeConstant, Cond.code yX10_fillTable cX10_fillTable 4 none, Cond.instanceMethod yX10_fillTable, Cond.selects RX10 yX10_fillTable yX10_fillTable, Cond.code yX10_workOut cX10_workOut 8 (some .int), Cond.instanceMethod yX10_workOut, Cond.selects RX10 yX10_workOut yX10_workOut, Cond.code yX10_takeStep cX10_takeStep 6 none, Cond.instanceMethod yX10_takeStep, Cond.selects RX10 yX10_takeStep yX10_takeStep, Cond.code yX10_combine cX10_combine 4 none, Cond.instanceMethod yX10_combine, Cond.selects RX10 yX10_combine yX10_combine]
theorem ch_10 : ∀ w ∈ chl_10, w ∈ am_ws := am_ins (fun w hw => (goodIn_r chl_10 [52, 1028, 1027, 36, 1044, 1043, 37, 1105, 1104, 49, 1109, 1108, 50, 1113, 1112, 51, 1048, 1047, 38, 1053, 1052, 39, 1101, 1100, 48] (by decide +kernel) (by decide +kernel) w hw).1) (by decide +kernel)
abbrev chl_11 : List Cond := [Cond.code yX10_argumentOf cX10_argumentOf 3 (some .int), Cond.static yX10_argumentOf, Cond.code yX10_workOutAbove cX10_workOutAbove 4 (some .int), Cond.instanceMethod yX10_workOutAbove, Cond.selects RX10 yX10_workOutAbove yX10_workOutAbove, Cond.code yX10_readConstant cX10_readConstant 4 (some .int), Cond.instanceMethod yX10_readConstant, Cond.selects RX10 yX10_readConstant yX10_readConstant, Cond.code yX10_readHolder cX10_readHolder 4 (some .int), Cond.instanceMethod yX10_readHolder, Cond.selects RX10 yX10_readHolder yX10_readHolder, Cond.code yX10_readEntry cX10_readEntry 6 (some .int), Cond.instanceMethod yX10_readEntry, Cond.selects RX10 yX10_readEntry yX10_readEntry, Cond.code yX10_see cX10_see 3 (some .int), Cond.instanceMethod yX10_see, Cond.selects RX10 yX10_see yX10_see, Cond.code yX10_push cX10_push 2 none, Cond.instanceMethod yX10_push, Cond.selects RX10 yX10_push yX10_push, Cond.code yX10_pop cX10_pop 1 (some .int), Cond.instanceMethod yX10_pop, Cond.selects RX10 yX10_pop yX10_pop, Cond.code yX11_init cX11_init 1 none, Cond.initialized RX11]
theorem ch_11 : ∀ w ∈ chl_11, w ∈ am_ws := am_ins (fun w hw => (goodIn_r chl_11 [1060, 1059, 1065, 1064, 41, 1073, 1072, 43, 1085, 1084, 45, 1093, 1092, 47, 1077, 1076, 44, 1057, 1056, 40, 1089, 1088, 46, 144, 118] (by decide +kernel) (by decide +kernel) w hw).1) (by decide +kernel)
abbrev chl_12 : List Cond := [Cond.instanceMethod yX11_init, Cond.code yX11_feed cX11_feed 5 (some .int), Cond.instanceMethod yX11_feed, Cond.selects RX11 yX11_feed yX11_feed, Cond.code yX11_cut cX11_cut 2 (some .int), Cond.instanceMethod yX11_cut, Cond.selects RX11 yX11_cut yX11_cut, Cond.code yX11_book cX11_book 2 (some .int), Cond.instanceMethod yX11_book, Cond.selects RX11 yX11_book yX11_book, Cond.code yX11_wrong cX11_wrong 1 (some .int), Cond.instanceMethod yX11_wrong, Cond.selects RX11 yX11_wrong yX11_wrong, Cond.code yX11_told cX11_told 4 (some .int), Cond.instanceMethod yX11_told, Cond.selects RX11 yX11_told yX11_told, Cond.code yX11_about cX11_about 5 (some .int), Cond.instanceMethod yX11_about, Cond.selects RX11 yX11_about yX11_about, Cond.code yX11_state cX11_state 4 (some .int), Cond.instanceMethod yX11_state, Cond.selects RX11 yX11_state yX11_state, Cond.code yX11_letter cX11_letter 7 (some .int), Cond.instanceMethod yX11_letter, Cond.selects RX11 yX11_letter yX11_letter]
theorem ch_12 : ∀ w ∈ chl_12, w ∈ am_ws := am_ins (fun w hw => (goodIn_r chl_12 [143, 434, 432, 433, 442, 440, 441, 446, 444, 445, 934, 932, 933, 938, 936, 937, 946, 944, 945, 958, 956, 957, 980, 978, 979] (by decide +kernel) (by decide +kernel) w hw).1) (by decide +kernel)
abbrev chl_13 : List Cond := [Cond.code yX11_body cX11_body 8 (some .int), Cond.instanceMethod yX11_body, Cond.selects RX11 yX11_body yX11_body, Cond.code yX11_use cX11_use 3 (some .int), Cond.instanceMethod yX11_use, Cond.selects RX11 yX11_use yX11_use, Cond.code yX11_argument cX11_argument 6 (some .int), Cond.instanceMethod yX11_argument, Cond.selects RX11 yX11_argument yX11_argument, Cond.code yX11_act cX11_act 6 (some .int), Cond.instanceMethod yX11_act, Cond.selects RX11 yX11_act yX11_act, Cond.code yX11_entry cX11_entry 7 (some .int), Cond.instanceMethod yX11_entry, Cond.selects RX11 yX11_entry yX11_entry, Cond.code yX11_holder cX11_holder 5 (some .int), Cond.instanceMethod yX11_holder, Cond.selects RX11 yX11_holder yX11_holder, Cond.code yX11_branch cX11_branch 7 (some .int), Cond.instanceMethod yX11_branch, Cond.selects RX11 yX11_branch yX11_branch, Cond.code yX11_out cX11_out 1 (some .int), Cond.instanceMethod yX11_out, Cond.selects RX11 yX11_out yX11_out, Cond.code yX11_cause cX11_cause 3 (some .int)]
theorem ch_13 : ∀ w ∈ chl_13, w ∈ am_ws := am_ins (fun w hw => (goodIn_r chl_13 [999, 997, 998, 1007, 1005, 1006, 1121, 1119, 1120, 1125, 1123, 1124, 1137, 1135, 1136, 1142, 1140, 1141, 1146, 1144, 1145, 1158, 1156, 1157, 1162] (by decide +kernel) (by decide +kernel) w hw).1) (by decide +kernel)
abbrev chl_14 : List Cond := [Cond.instanceMethod yX11_cause, Cond.selects RX11 yX11_cause yX11_cause, Cond.code yX11_start cX11_start 4 (some .int), Cond.instanceMethod yX11_start, Cond.selects RX11 yX11_start yX11_start, Cond.code yX11_seen cX11_seen 5 (some .int), Cond.instanceMethod yX11_seen, Cond.selects RX11 yX11_seen yX11_seen, Cond.code yX11_set cX11_set 3 (some .int), Cond.instanceMethod yX11_set, Cond.selects RX11 yX11_set yX11_set, Cond.code yX11_add cX11_add 4 (some .int), Cond.instanceMethod yX11_add, Cond.selects RX11 yX11_add yX11_add, Cond.code yX11_take cX11_take 4 (some .int), Cond.instanceMethod yX11_take, Cond.selects RX11 yX11_take yX11_take, Cond.code yX11_join cX11_join 6 (some .int), Cond.instanceMethod yX11_join, Cond.selects RX11 yX11_join yX11_join, Cond.code yX11_member cX11_member 4 (some .int), Cond.instanceMethod yX11_member, Cond.selects RX11 yX11_member yX11_member, Cond.code yX11_map cX11_map 4 (some .int), Cond.instanceMethod yX11_map]
theorem ch_14 : ∀ w ∈ chl_14, w ∈ am_ws := am_ins (fun w hw => (goodIn_r chl_14 [1160, 1161, 1174, 1172, 1173, 1178, 1176, 1177, 1182, 1180, 1181, 1212, 1210, 1211, 1232, 1230, 1231, 1240, 1238, 1239, 1247, 1245, 1246, 1261, 1259] (by decide +kernel) (by decide +kernel) w hw).1) (by decide +kernel)
abbrev chl_15 : List Cond := [Cond.selects RX11 yX11_map yX11_map, Cond.code yX11_put cX11_put 5 (some .int), Cond.instanceMethod yX11_put, Cond.selects RX11 yX11_put yX11_put, Cond.code yX11_get cX11_get 4 (some .int), Cond.instanceMethod yX11_get, Cond.selects RX11 yX11_get yX11_get, Cond.code yX11_encode cX11_encode 4 (some .int), Cond.instanceMethod yX11_encode, Cond.selects RX11 yX11_encode yX11_encode, Cond.code yX11_signal cX11_signal 5 (some .int), Cond.instanceMethod yX11_signal, Cond.selects RX11 yX11_signal yX11_signal, Cond.code yX11_decode cX11_decode 4 (some .int), Cond.instanceMethod yX11_decode, Cond.selects RX11 yX11_decode yX11_decode, Cond.code yX11_putByte cX11_putByte 2 none, Cond.instanceMethod yX11_putByte, Cond.selects RX11 yX11_putByte yX11_putByte, Cond.code yX11_putName cX11_putName 5 none, Cond.instanceMethod yX11_putName, Cond.selects RX11 yX11_putName yX11_putName, Cond.code yX11_putNumber cX11_putNumber 4 none, Cond.instanceMethod yX11_putNumber, Cond.selects RX11 yX11_putNumber yX11_putNumber]
theorem ch_15 : ∀ w ∈ chl_15, w ∈ am_ws := am_ins (fun w hw => (goodIn_r chl_15 [1260, 1265, 1263, 1264, 1273, 1271, 1272, 1278, 1276, 1277, 1292, 1290, 1291, 1300, 1298, 1299, 438, 437, 0, 1308, 1307, 61, 1312, 1311, 62] (by decide +kernel) (by decide +kernel) w hw).1) (by decide +kernel)
abbrev chl_16 : List Cond := [Cond.code yX11_nameOf cX11_nameOf 5 (some .long), Cond.instanceMethod yX11_nameOf, Cond.selects RX11 yX11_nameOf yX11_nameOf, Cond.code yX11_letterOf cX11_letterOf 3 (some .int), Cond.static yX11_letterOf, Cond.code yX11_bookAt cX11_bookAt 2 (some (.object "SignalBook$Book")), Cond.instanceMethod yX11_bookAt, Cond.selects RX11 yX11_bookAt yX11_bookAt, Cond.code yX11_enumOf cX11_enumOf 4 (some (.object "SignalBook$Enumeration")), Cond.instanceMethod yX11_enumOf, Cond.selects RX11 yX11_enumOf yX11_enumOf, Cond.code yX11_hasAct cX11_hasAct 4 (some .boolean), Cond.instanceMethod yX11_hasAct, Cond.selects RX11 yX11_hasAct yX11_hasAct, Cond.code yX11_setAt cX11_setAt 2 (some (.object "SignalBook$Selection")), Cond.instanceMethod yX11_setAt, Cond.selects RX11 yX11_setAt yX11_setAt, Cond.code yX11_mapAt cX11_mapAt 2 (some (.object "SignalBook$Selection")), Cond.instanceMethod yX11_mapAt, Cond.selects RX11 yX11_mapAt yX11_mapAt, Cond.code yX11_messageAt cX11_messageAt 2 (some (.object "SignalBook$Message")), Cond.instanceMethod yX11_messageAt, Cond.selects RX11 yX11_messageAt yX11_messageAt, Cond.code yX11_isConstant cX11_isConstant 4 (some .boolean), Cond.instanceMethod yX11_isConstant]
theorem ch_16 : ∀ w ∈ chl_16, w ∈ am_ws := am_ins (fun w hw => (goodIn_r chl_16 [1304, 1303, 60, 983, 982, 942, 941, 30, 950, 949, 31, 1003, 1002, 32, 1216, 1215, 55, 1269, 1268, 57, 1296, 1295, 59, 1220, 1219] (by decide +kernel) (by decide +kernel) w hw).1) (by decide +kernel)
abbrev chl_17 : List Cond := [Cond.selects RX11 yX11_isConstant yX11_isConstant, Cond.code yX11_keepSet cX11_keepSet 2 (some .int), Cond.instanceMethod yX11_keepSet, Cond.selects RX11 yX11_keepSet yX11_keepSet, Cond.code yX11_joined cX11_joined 3 (some .int), Cond.static yX11_joined, Cond.code yX11_usedWell cX11_usedWell 4 (some .boolean), Cond.instanceMethod yX11_usedWell, Cond.selects RX11 yX11_usedWell yX11_usedWell, Cond.code yX11_giveOut cX11_giveOut 2 (some .int), Cond.instanceMethod yX11_giveOut, Cond.selects RX11 yX11_giveOut yX11_giveOut, Cond.code yX12_init cX12_init 1 none, Cond.initialized RX12, Cond.instanceMethod yX12_init, Cond.code yX12_feed cX12_feed 5 (some .int), Cond.instanceMethod yX12_feed, Cond.selects RX12 yX12_feed yX12_feed, Cond.code yX12_cut cX12_cut 2 (some .int), Cond.instanceMethod yX12_cut, Cond.selects RX12 yX12_cut yX12_cut, Cond.code yX12_isLetter cX12_isLetter 1 (some .boolean), Cond.static yX12_isLetter, Cond.code yX12_isDigit cX12_isDigit 1 (some .boolean), Cond.static yX12_isDigit]
theorem ch_17 : ∀ w ∈ chl_17, w ∈ am_ws := am_ins (fun w hw => (goodIn_r chl_17 [56, 1208, 1207, 54, 1243, 1242, 1011, 1010, 33, 1133, 1132, 53, 1317, 129, 1316, 1574, 1572, 1573, 1578, 1576, 1577, 1597, 1596, 1600, 1599] (by decide +kernel) (by decide +kernel) w hw).1) (by decide +kernel)
abbrev chl_18 : List Cond := [Cond.code yX12_at cX12_at 2 (some .int), Cond.instanceMethod yX12_at, Cond.selects RX12 yX12_at yX12_at, Cond.code yX12_next cX12_next 5 none, Cond.instanceMethod yX12_next, Cond.selects RX12 yX12_next yX12_next, Cond.code yX12_isSign cX12_isSign 2 (some .boolean), Cond.instanceMethod yX12_isSign, Cond.selects RX12 yX12_isSign yX12_isSign, Cond.code yX12_isWord cX12_isWord 4 (some .boolean), Cond.instanceMethod yX12_isWord, Cond.selects RX12 yX12_isWord yX12_isWord, Cond.code yX12_isKeyword cX12_isKeyword 1 (some .boolean), Cond.instanceMethod yX12_isKeyword, Cond.selects RX12 yX12_isKeyword yX12_isKeyword, Cond.code yX12_isName cX12_isName 1 (some .boolean), Cond.instanceMethod yX12_isName, Cond.selects RX12 yX12_isName yX12_isName, Cond.code yX12_nameHere cX12_nameHere 1 (some .int), Cond.instanceMethod yX12_nameHere, Cond.selects RX12 yX12_nameHere yX12_nameHere, Cond.code yX12_isSame cX12_isSame 5 (some .boolean), Cond.instanceMethod yX12_isSame, Cond.selects RX12 yX12_isSame yX12_isSame, Cond.code yX12_isTwo cX12_isTwo 1 (some .boolean)]
theorem ch_18 : ∀ w ∈ chl_18, w ∈ am_ws := am_ins (fun w hw => (goodIn_r chl_18 [1594, 1593, 65, 1590, 1589, 64, 1660, 1659, 76, 1611, 1610, 67, 1625, 1624, 70, 1621, 1620, 69, 1640, 1639, 71, 1648, 1647, 73, 1691] (by decide +kernel) (by decide +kernel) w hw).1) (by decide +kernel)
abbrev chl_19 : List Cond := [Cond.static yX12_isTwo, Cond.code yX12_expression cX12_expression 4 (some .int), Cond.instanceMethod yX12_expression, Cond.selects RX12 yX12_expression yX12_expression, Cond.code yX12_fault cX12_fault 2 (some .int), Cond.instanceMethod yX12_fault, Cond.selects RX12 yX12_fault yX12_fault, Cond.code yX12_sign cX12_sign 3 none, Cond.instanceMethod yX12_sign, Cond.selects RX12 yX12_sign yX12_sign, Cond.code yX12_newName cX12_newName 2 (some .int), Cond.instanceMethod yX12_newName, Cond.selects RX12 yX12_newName yX12_newName, Cond.code yX12_tells cX12_tells 4 (some .boolean), Cond.instanceMethod yX12_tells, Cond.selects RX12 yX12_tells yX12_tells, Cond.code yX12_enumOf cX12_enumOf 3 (some .int), Cond.instanceMethod yX12_enumOf, Cond.selects RX12 yX12_enumOf yX12_enumOf, Cond.code yX12_readBook cX12_readBook 2 none, Cond.instanceMethod yX12_readBook, Cond.selects RX12 yX12_readBook yX12_readBook, Cond.code yX12_readEnum cX12_readEnum 2 none, Cond.instanceMethod yX12_readEnum, Cond.selects RX12 yX12_readEnum yX12_readEnum]
theorem ch_19 : ∀ w ∈ chl_19, w ∈ am_ws := am_ins (fun w hw => (goodIn_r chl_19 [1690, 1688, 1687, 83, 1617, 1616, 68, 1656, 1655, 75, 1652, 1651, 74, 1668, 1667, 78, 1644, 1643, 72, 1586, 1585, 63, 1606, 1605, 66] (by decide +kernel) (by decide +kernel) w hw).1) (by decide +kernel)
abbrev chl_20 : List Cond := [Cond.code yX12_readConstant cX12_readConstant 4 none, Cond.instanceMethod yX12_readConstant, Cond.selects RX12 yX12_readConstant yX12_readConstant, Cond.code yX12_readAct cX12_readAct 5 none, Cond.instanceMethod yX12_readAct, Cond.selects RX12 yX12_readAct yX12_readAct, Cond.code yX12_readMember cX12_readMember 3 none, Cond.instanceMethod yX12_readMember, Cond.selects RX12 yX12_readMember yX12_readMember, Cond.code yX12_readTable cX12_readTable 3 none, Cond.instanceMethod yX12_readTable, Cond.selects RX12 yX12_readTable yX12_readTable, Cond.code yX12_readEntry cX12_readEntry 3 none, Cond.instanceMethod yX12_readEntry, Cond.selects RX12 yX12_readEntry yX12_readEntry, Cond.code yX12_beginsExpr cX12_beginsExpr 1 (some .boolean), Cond.instanceMethod yX12_beginsExpr, Cond.selects RX12 yX12_beginsExpr yX12_beginsExpr, Cond.code yX12_readSwitch cX12_readSwitch 4 none, Cond.instanceMethod yX12_readSwitch, Cond.selects RX12 yX12_readSwitch yX12_readSwitch, Cond.code yX12_readCase cX12_readCase 5 none, Cond.instanceMethod yX12_readCase, Cond.selects RX12 yX12_readCase yX12_readCase, Cond.code yX12_readExpr cX12_readExpr 4 (some .int)]
theorem ch_20 : ∀ w ∈ chl_20, w ∈ am_ws := am_ins (fun w hw => (goodIn_r chl_20 [1664, 1663, 77, 1703, 1702, 86, 1707, 1706, 87, 1711, 1710, 88, 1715, 1714, 89, 1719, 1718, 90, 1723, 1722, 91, 1727, 1726, 92, 1672] (by decide +kernel) (by decide +kernel) w hw).1) (by decide +kernel)
abbrev chl_21 : List Cond := [Cond.instanceMethod yX12_readExpr, Cond.selects RX12 yX12_readExpr yX12_readExpr, Cond.code yX12_readSum cX12_readSum 4 (some .int), Cond.instanceMethod yX12_readSum, Cond.selects RX12 yX12_readSum yX12_readSum, Cond.code yX12_readTerm cX12_readTerm 4 (some .int), Cond.instanceMethod yX12_readTerm, Cond.selects RX12 yX12_readTerm yX12_readTerm, Cond.code yX12_readFactor cX12_readFactor 3 (some .int), Cond.instanceMethod yX12_readFactor, Cond.selects RX12 yX12_readFactor yX12_readFactor, Cond.code yX12_taken cX12_taken 2 (some .int), Cond.instanceMethod yX12_taken, Cond.selects RX12 yX12_taken yX12_taken, Cond.code yX12_readReference cX12_readReference 5 (some .int), Cond.instanceMethod yX12_readReference, Cond.selects RX12 yX12_readReference yX12_readReference, Cond.code yX12_settle cX12_settle 8 none, Cond.instanceMethod yX12_settle, Cond.selects RX12 yX12_settle yX12_settle, Cond.code yX12_lacks cX12_lacks 2 none, Cond.instanceMethod yX12_lacks, Cond.selects RX12 yX12_lacks yX12_lacks, Cond.code yX12_among cX12_among 6 (some .int), Cond.instanceMethod yX12_among]
theorem ch_21 : ∀ w ∈ chl_21, w ∈ am_ws := am_ins (fun w hw => (goodIn_r chl_21 [1671, 79, 1676, 1675, 80, 1680, 1679, 81, 1684, 1683, 82, 1695, 1694, 84, 1699, 1698, 85, 1731, 1730, 93, 1735, 1734, 94, 1739, 1738] (by decide +kernel) (by decide +kernel) w hw).1) (by decide +kernel)
abbrev chl_22 : List Cond := [Cond.selects RX12 yX12_among yX12_among, Cond.code yX12_book cX12_book 2 (some .int), Cond.instanceMethod yX12_book, Cond.selects RX12 yX12_book yX12_book, Cond.code yX12_wrong cX12_wrong 1 (some .int), Cond.instanceMethod yX12_wrong, Cond.selects RX12 yX12_wrong yX12_wrong, Cond.code yX12_asleep cX12_asleep 4 none, Cond.instanceMethod yX12_asleep, Cond.selects RX12 yX12_asleep yX12_asleep, Cond.code yX12_failing cX12_failing 3 (some .int), Cond.instanceMethod yX12_failing, Cond.selects RX12 yX12_failing yX12_failing, Cond.code yX12_use cX12_use 4 none, Cond.instanceMethod yX12_use, Cond.selects RX12 yX12_use yX12_use, Cond.code yX12_starts cX12_starts 3 none, Cond.instanceMethod yX12_starts, Cond.selects RX12 yX12_starts yX12_starts, Cond.code yX12_startsHolder cX12_startsHolder 3 none, Cond.instanceMethod yX12_startsHolder, Cond.selects RX12 yX12_startsHolder yX12_startsHolder, Cond.code yX12_startsEnum cX12_startsEnum 5 none, Cond.instanceMethod yX12_startsEnum, Cond.selects RX12 yX12_startsEnum yX12_startsEnum]
theorem ch_22 : ∀ w ∈ chl_22, w ∈ am_ws := am_ins (fun w hw => (goodIn_r chl_22 [95, 1582, 1580, 1581, 1747, 1745, 1746, 1743, 1742, 96, 1799, 1798, 103, 1795, 1794, 102, 1803, 1802, 104, 1831, 1830, 111, 1807, 1806, 105] (by decide +kernel) (by decide +kernel) w hw).1) (by decide +kernel)
abbrev chl_23 : List Cond := [Cond.code yX12_sees cX12_sees 4 (some .int), Cond.instanceMethod yX12_sees, Cond.selects RX12 yX12_sees yX12_sees, Cond.code yX12_value cX12_value 8 (some .int), Cond.instanceMethod yX12_value, Cond.selects RX12 yX12_value yX12_value, Cond.code yX12_entryOf cX12_entryOf 7 (some .int), Cond.instanceMethod yX12_entryOf, Cond.selects RX12 yX12_entryOf yX12_entryOf, Cond.code yX12_both cX12_both 6 (some .int), Cond.instanceMethod yX12_both, Cond.selects RX12 yX12_both yX12_both, Cond.code yX12_joined cX12_joined 4 (some .int), Cond.instanceMethod yX12_joined, Cond.selects RX12 yX12_joined yX12_joined, Cond.code yX12_isEnum cX12_isEnum 3 (some .boolean), Cond.instanceMethod yX12_isEnum, Cond.selects RX12 yX12_isEnum yX12_isEnum, Cond.code yX12_isConstant cX12_isConstant 4 (some .boolean), Cond.instanceMethod yX12_isConstant, Cond.selects RX12 yX12_isConstant yX12_isConstant, Cond.code yX12_begin cX12_begin 2 none, Cond.instanceMethod yX12_begin, Cond.selects RX12 yX12_begin yX12_begin, Cond.code yX12_ends cX12_ends 2 (some .int)]
theorem ch_23 : ∀ w ∈ chl_23, w ∈ am_ws := am_ins (fun w hw => (goodIn_r chl_23 [1815, 1814, 107, 1811, 1810, 106, 1819, 1818, 108, 1823, 1822, 109, 1827, 1826, 110, 1759, 1758, 97, 1775, 1774, 99, 1791, 1790, 101, 1839] (by decide +kernel) (by decide +kernel) w hw).1) (by decide +kernel)
abbrev chl_24 : List Cond := [Cond.instanceMethod yX12_ends, Cond.selects RX12 yX12_ends yX12_ends, Cond.code yX12_uses cX12_uses 3 (some .int), Cond.instanceMethod yX12_uses, Cond.selects RX12 yX12_uses yX12_uses, Cond.code yX12_told cX12_told 3 (some .int), Cond.instanceMethod yX12_told, Cond.selects RX12 yX12_told yX12_told, Cond.code yX12_about cX12_about 5 (some .int), Cond.instanceMethod yX12_about, Cond.selects RX12 yX12_about yX12_about, Cond.code yX12_isItem cX12_isItem 4 (some .boolean), Cond.instanceMethod yX12_isItem, Cond.selects RX12 yX12_isItem yX12_isItem, Cond.code yX12_state cX12_state 3 (some .int), Cond.instanceMethod yX12_state, Cond.selects RX12 yX12_state yX12_state, Cond.code yX12_letter cX12_letter 7 (some .int), Cond.instanceMethod yX12_letter, Cond.selects RX12 yX12_letter yX12_letter, Cond.code yX12_body cX12_body 6 (some .int), Cond.instanceMethod yX12_body, Cond.selects RX12 yX12_body yX12_body, Cond.code yX12_use_ cX12_use_ 3 (some .int), Cond.instanceMethod yX12_use_]
theorem ch_24 : ∀ w ∈ chl_24, w ∈ am_ws := am_ins (fun w hw => (goodIn_r chl_24 [1838, 112, 1787, 1786, 100, 1751, 1749, 1750, 1755, 1753, 1754, 1767, 1766, 98, 1763, 1761, 1762, 1771, 1769, 1770, 1779, 1777, 1778, 1783, 1781] (by decide +kernel) (by decide +kernel) w hw).1) (by decide +kernel)
abbrev chl_25 : List Cond := [Cond.selects RX12 yX12_use_ yX12_use_, Cond.code yX12_argument cX12_argument 5 (some .int), Cond.instanceMethod yX12_argument, Cond.selects RX12 yX12_argument yX12_argument, Cond.code yX12_act cX12_act 8 (some .int), Cond.instanceMethod yX12_act, Cond.selects RX12 yX12_act yX12_act, Cond.code yX12_entry cX12_entry 7 (some .int), Cond.instanceMethod yX12_entry, Cond.selects RX12 yX12_entry yX12_entry, Cond.code yX12_holder cX12_holder 5 (some .int), Cond.instanceMethod yX12_holder, Cond.selects RX12 yX12_holder yX12_holder, Cond.code yX12_branch cX12_branch 8 (some .int), Cond.instanceMethod yX12_branch, Cond.selects RX12 yX12_branch yX12_branch, Cond.code yX12_out cX12_out 1 (some .int), Cond.instanceMethod yX12_out, Cond.selects RX12 yX12_out yX12_out, Cond.code yX12_cause cX12_cause 4 (some .int), Cond.instanceMethod yX12_cause, Cond.selects RX12 yX12_cause yX12_cause, Cond.code yX12_start cX12_start 3 (some .int), Cond.instanceMethod yX12_start, Cond.selects RX12 yX12_start yX12_start]
theorem ch_25 : ∀ w ∈ chl_25, w ∈ am_ws := am_ins (fun w hw => (goodIn_r chl_25 [1782, 1835, 1833, 1834, 1843, 1841, 1842, 1847, 1845, 1846, 1851, 1849, 1850, 1855, 1853, 1854, 1859, 1857, 1858, 1863, 1861, 1862, 1867, 1865, 1866] (by decide +kernel) (by decide +kernel) w hw).1) (by decide +kernel)
abbrev chl_26 : List Cond := [Cond.code yX12_seen cX12_seen 4 (some .int), Cond.instanceMethod yX12_seen, Cond.selects RX12 yX12_seen yX12_seen, Cond.code yX12_set cX12_set 3 (some .int), Cond.instanceMethod yX12_set, Cond.selects RX12 yX12_set yX12_set, Cond.code yX12_isIn cX12_isIn 3 (some .boolean), Cond.instanceMethod yX12_isIn, Cond.selects RX12 yX12_isIn yX12_isIn, Cond.code yX12_add cX12_add 4 (some .int), Cond.instanceMethod yX12_add, Cond.selects RX12 yX12_add yX12_add, Cond.code yX12_take cX12_take 4 (some .int), Cond.instanceMethod yX12_take, Cond.selects RX12 yX12_take yX12_take, Cond.code yX12_join cX12_join 6 (some .int), Cond.instanceMethod yX12_join, Cond.selects RX12 yX12_join yX12_join, Cond.code yX12_member cX12_member 5 (some .int), Cond.instanceMethod yX12_member, Cond.selects RX12 yX12_member yX12_member, Cond.code yX12_map cX12_map 3 (some .int), Cond.instanceMethod yX12_map, Cond.selects RX12 yX12_map yX12_map, Cond.code yX12_isMapped cX12_isMapped 3 (some .boolean)]
theorem ch_26 : ∀ w ∈ chl_26, w ∈ am_ws := am_ins (fun w hw => (goodIn_r chl_26 [1871, 1869, 1870, 1875, 1873, 1874, 1883, 1882, 113, 1879, 1877, 1878, 1887, 1885, 1886, 1891, 1889, 1890, 1895, 1893, 1894, 1899, 1897, 1898, 1907] (by decide +kernel) (by decide +kernel) w hw).1) (by decide +kernel)
abbrev chl_27 : List Cond := [Cond.instanceMethod yX12_isMapped, Cond.selects RX12 yX12_isMapped yX12_isMapped, Cond.code yX12_put cX12_put 5 (some .int), Cond.instanceMethod yX12_put, Cond.selects RX12 yX12_put yX12_put, Cond.code yX12_get cX12_get 3 (some .int), Cond.instanceMethod yX12_get, Cond.selects RX12 yX12_get yX12_get, Cond.code yX12_constantHere cX12_constantHere 7 (some .int), Cond.instanceMethod yX12_constantHere, Cond.selects RX12 yX12_constantHere yX12_constantHere, Cond.code yX12_encode cX12_encode 7 (some .int), Cond.instanceMethod yX12_encode, Cond.selects RX12 yX12_encode yX12_encode, Cond.code yX12_signal cX12_signal 5 (some .int), Cond.instanceMethod yX12_signal, Cond.selects RX12 yX12_signal yX12_signal, Cond.code yX12_put_ cX12_put_ 2 none, Cond.instanceMethod yX12_put_, Cond.selects RX12 yX12_put_ yX12_put_, Cond.code yX12_decode cX12_decode 5 (some .int), Cond.instanceMethod yX12_decode, Cond.selects RX12 yX12_decode yX12_decode, Cond.code yJ0_length_8abf5 cJ0_length_8abf5 1 (some .int), Cond.initialized RJ0]
theorem ch_27 : ∀ w ∈ chl_27, w ∈ am_ws := am_ins (fun w hw => (goodIn_r chl_27 [1906, 114, 1903, 1901, 1902, 1911, 1909, 1910, 1919, 1918, 115, 1915, 1913, 1914, 1923, 1921, 1922, 1931, 1930, 116, 1927, 1925, 1926, 158, 120] (by decide +kernel) (by decide +kernel) w hw).1) (by decide +kernel)
abbrev chl_28 : List Cond := [Cond.instanceMethod yJ0_length_8abf5, Cond.selects RJ0 yJ0_length_8abf5 yJ0_length_8abf5, Cond.code yJ0_charAt_5068e cJ0_charAt_5068e 2 (some .char), Cond.instanceMethod yJ0_charAt_5068e, Cond.selects RJ0 yJ0_charAt_5068e yJ0_charAt_5068e, Cond.code yJ0_indexOf_0f7a4 cJ0_indexOf_0f7a4 2 (some .int), Cond.instanceMethod yJ0_indexOf_0f7a4, Cond.selects RJ0 yJ0_indexOf_0f7a4 yJ0_indexOf_0f7a4, Cond.code yJ0_indexOf_7cf53 cJ0_indexOf_7cf53 3 (some .int), Cond.instanceMethod yJ0_indexOf_7cf53, Cond.selects RJ0 yJ0_indexOf_7cf53 yJ0_indexOf_7cf53, Cond.code yJ0_coder_7d493 cJ0_coder_7d493 1 (some .byte), Cond.instanceMethod yJ0_coder_7d493, Cond.selects RJ0 yJ0_coder_7d493 yJ0_coder_7d493, Cond.code yJ0_isLatin1_aae02 cJ0_isLatin1_aae02 1 (some .boolean), Cond.instanceMethod yJ0_isLatin1_aae02, Cond.selects RJ0 yJ0_isLatin1_aae02 yJ0_isLatin1_aae02, Cond.code yJ0_checkIndex_df160 cJ0_checkIndex_df160 2 none, Cond.static yJ0_checkIndex_df160, Cond.code yJ1_charAt_3b067 cJ1_charAt_3b067 2 (some .char), Cond.initialized RJ1, Cond.static yJ1_charAt_3b067, Cond.code yJ1_canEncode_9a6ad cJ1_canEncode_9a6ad 1 (some .boolean), Cond.static yJ1_canEncode_9a6ad, Cond.code yJ1_indexOf_4cfef cJ1_indexOf_4cfef 4 (some .int)]
theorem ch_28 : ∀ w ∈ chl_28, w ∈ am_ws := am_ins (fun w hw => (goodIn_r chl_28 [156, 157, 168, 166, 167, 479, 477, 478, 483, 481, 482, 162, 160, 161, 172, 170, 171, 178, 177, 175, 121, 174, 490, 489, 487] (by decide +kernel) (by decide +kernel) w hw).1) (by decide +kernel)
abbrev chl_29 : List Cond := [Cond.static yJ1_indexOf_4cfef, Cond.code yJ1_indexOfChar_4cfef cJ1_indexOfChar_4cfef 6 (some .int), Cond.static yJ1_indexOfChar_4cfef, Cond.code yJ3_checkIndex_8e157 cJ3_checkIndex_8e157 3 (some .int), Cond.initialized RJ3, Cond.static yJ3_checkIndex_8e157, Cond.code yJ6_bitCount_0f7a4 cJ6_bitCount_0f7a4 1 (some .int), Cond.initialized RJ6, Cond.static yJ6_bitCount_0f7a4, Cond.code yJ7_fill_53178 cJ7_fill_53178 4 none, Cond.initialized RJ7, Cond.static yJ7_fill_53178, Cond.fieldLink RX11 9 RX11 "tape" "[B", Cond.fieldLink RX11 16 RX11 "tokens" "LSignalBook$Tokens;", Cond.fieldLink RX11 25 RX11 "reader" "LSignalBook$Reader;", Cond.fieldLink RX11 32 RX11 "worker" "LSignalBook$Worker;", Cond.fieldLink RX11 38 RX11 "books" "[LSignalBook$Book;", Cond.fieldLink RX11 44 RX11 "sets" "[LSignalBook$Selection;", Cond.fieldLink RX11 48 RX11 "maps" "[LSignalBook$Selection;", Cond.fieldLink RX11 53 RX11 "messages" "[LSignalBook$Message;", Cond.fieldLink RX11 58 RX11 "draft" "LSignalBook$Message;", Cond.fieldLink RX11 62 RX11 "tapeLength" "I", Cond.fieldLink RX11 70 RX11 "bookCount" "I", Cond.fieldLink RX11 81 RX5 "fault" "I", Cond.fieldLink RX11 84 RX11 "latestFault" "I"]
theorem ch_29 : ∀ w ∈ chl_29, w ∈ am_ws := am_ins (fun w hw => (goodIn_r chl_29 [486, 497, 496, 183, 122, 182, 1250, 139, 1249, 617, 133, 616, 382, 384, 385, 386, 387, 391, 393, 395, 397, 383, 388, 282, 389] (by decide +kernel) (by decide +kernel) w hw).1) (by decide +kernel)
abbrev chl_30 : List Cond := [Cond.fieldLink RX11 87 RX5 "faultPlace" "I", Cond.fieldLink RX11 94 RX0 "enumCount" "I", Cond.fieldLink RX11 97 RX0 "actCount" "I", Cond.fieldLink RX11 100 RX0 "startCount" "I", Cond.fieldLink RX11 103 RX0 "seenCount" "I", Cond.fieldLink RX11 110 RX3 "constantCount" "I", Cond.fieldLink RX11 115 RX3 "tableCount" "I", Cond.fieldLink RX11 118 RX3 "checkCount" "I", Cond.fieldLink RX11 121 RX3 "holderCount" "I", Cond.fieldLink RX11 124 RX3 "switchCount" "I", Cond.fieldLink RX11 135 RX3 "name" "J", Cond.fieldLink RX11 147 RX2 "name" "J", Cond.fieldLink RX11 154 RX3 "bodies" "[I", Cond.fieldLink RX11 158 RX2 "bodies" "[I", Cond.fieldLink RX11 162 RX2 "argument" "I", Cond.fieldLink RX11 165 RX11 "latestOut" "I", Cond.fieldLink RX11 179 RX8 "entryCount" "I", Cond.fieldLink RX11 184 RX8 "entries" "[I", Cond.fieldLink RX11 187 RX3 "holderValues" "[I", Cond.fieldLink RX11 204 RX0 "starts" "[I", Cond.fieldLink RX11 207 RX0 "seenBy" "[I", Cond.fieldLink RX11 210 RX0 "seenOf" "[I", Cond.fieldLink RX11 213 RX11 "setCount" "I", Cond.fieldLink RX11 237 RX6 "book" "I", Cond.fieldLink RX11 240 RX6 "enumNumber" "I"]
theorem ch_30 : ∀ w ∈ chl_30, w ∈ am_ws := am_ins (fun w hw => (goodIn_r chl_30 [284, 549, 550, 557, 563, 630, 642, 648, 660, 667, 620, 749, 637, 758, 753, 390, 825, 822, 658, 556, 560, 562, 392, 1189, 1191] (by decide +kernel) (by decide +kernel) w hw).1) (by decide +kernel)
abbrev chl_31 : List Cond := [Cond.fieldLink RX11 243 RX6 "bits" "I", Cond.fieldLink RX11 258 RX11 "mapCount" "I", Cond.fieldLink RX11 261 RX6 "values" "[I", Cond.fieldLink RX11 270 RX11 "messageCount" "I", Cond.fieldLink RX11 277 RX9 "places" "[I", Cond.fieldLink RX11 280 RX4 "book" "I", Cond.fieldLink RX11 285 RX4 "count" "I", Cond.fieldLink RX11 288 RX4 "enums" "[I", Cond.fieldLink RX11 291 RX4 "ordinals" "[I", Cond.fieldLink RX11 294 RX4 "added" "[I", Cond.fieldLink RX11 323 RX10 "failing" "Z", Cond.fieldLink RX0 11 RX0 "enums" "[LSignalBook$Enumeration;", Cond.fieldLink RX0 17 RX0 "enumCount" "I", Cond.fieldLink RX0 21 RX0 "code" "LSignalBook$Code;", Cond.fieldLink RX0 25 RX0 "states" "[I", Cond.fieldLink RX0 29 RX0 "starts" "[I", Cond.fieldLink RX0 32 RX1 "length" "I", Cond.fieldLink RX0 37 RX0 "seenBy" "[I", Cond.fieldLink RX0 40 RX0 "seenOf" "[I", Cond.fieldLink RX0 43 RX3 "name" "J", Cond.fieldLink RX0 62 RX3 "holderCount" "I", Cond.fieldLink RX0 65 RX0 "startCount" "I", Cond.fieldLink RX0 68 RX0 "seenCount" "I", Cond.fieldLink RX0 71 RX3 "endCode" "I", Cond.fieldLink RX0 80 RX3 "firstCode" "I"]
theorem ch_31 : ∀ w ∈ chl_31, w ∈ am_ws := am_ins (fun w hw => (goodIn_r chl_31 [1193, 394, 1195, 396, 216, 362, 364, 366, 368, 370, 318, 545, 546, 552, 554, 555, 261, 559, 561, 619, 661, 558, 564, 624, 622] (by decide +kernel) (by decide +kernel) w hw).1) (by decide +kernel)
abbrev chl_32 : List Cond := [Cond.fieldLink RX0 90 RX1 "ops" "[I", Cond.fieldLink RX0 93 RX3 "constantCount" "I", Cond.fieldLink RX0 100 RX1 "args" "[I", Cond.fieldLink RX0 103 RX9 "kinds" "[I", Cond.fieldLink RX0 108 RX9 "values" "[J", Cond.fieldLink RX1 13 RX1 "ops" "[I", Cond.fieldLink RX1 19 RX1 "args" "[I", Cond.fieldLink RX1 22 RX1 "length" "I", Cond.fieldLink RX2 9 RX2 "argumentCode" "I", Cond.fieldLink RX2 15 RX2 "bodies" "[I", Cond.fieldLink RX2 19 RX2 "name" "J", Cond.fieldLink RX3 11 RX3 "constants" "[LSignalBook$Constant;", Cond.fieldLink RX3 17 RX3 "bodies" "[I", Cond.fieldLink RX3 23 RX3 "tables" "[LSignalBook$Table;", Cond.fieldLink RX3 27 RX3 "checkCodes" "[I", Cond.fieldLink RX3 30 RX3 "holderNames" "[J", Cond.fieldLink RX3 34 RX3 "holderCodes" "[I", Cond.fieldLink RX3 37 RX3 "holderValues" "[I", Cond.fieldLink RX3 42 RX3 "switches" "[LSignalBook$Switch;", Cond.fieldLink RX3 46 RX3 "name" "J", Cond.fieldLink RX3 56 RX3 "constantCount" "I", Cond.fieldLink RX3 60 RX3 "tableCount" "I", Cond.fieldLink RX3 63 RX3 "switchCount" "I", Cond.fieldLink RX3 66 RX2 "name" "J", Cond.fieldLink RX3 67 RX8 "name" "J"]
theorem ch_32 : ∀ w ∈ chl_32, w ∈ am_ws := am_ins (fun w hw => (goodIn_r chl_32 [255, 632, 259, 212, 219, 254, 257, 262, 750, 755, 747, 625, 634, 638, 645, 651, 653, 656, 664, 618, 628, 641, 666, 748, 817] (by decide +kernel) (by decide +kernel) w hw).1) (by decide +kernel)
abbrev chl_33 : List Cond := [Cond.fieldLink RX3 68 RX3 "holderCount" "I", Cond.fieldLink RX3 71 RX7 "name" "J", Cond.fieldLink RX4 9 RX4 "enums" "[I", Cond.fieldLink RX4 15 RX4 "ordinals" "[I", Cond.fieldLink RX4 18 RX4 "added" "[I", Cond.fieldLink RX4 21 RX4 "count" "I", Cond.fieldLink RX4 25 RX9 "count" "I", Cond.fieldLink RX4 28 RX9 "kinds" "[I", Cond.fieldLink RX4 31 RX9 "values" "[J", Cond.fieldLink RX4 39 RX0 "enumCount" "I", Cond.fieldLink RX5 14 RX5 "code" "LSignalBook$Code;", Cond.fieldLink RX5 20 RX5 "acts" "[J", Cond.fieldLink RX5 24 RX5 "tokens" "LSignalBook$Tokens;", Cond.fieldLink RX5 28 RX5 "fault" "I", Cond.fieldLink RX5 32 RX5 "faultPlace" "I", Cond.fieldLink RX5 35 RX1 "length" "I", Cond.fieldLink RX5 41 RX5 "book" "LSignalBook$Book;", Cond.fieldLink RX5 45 RX5 "at" "I", Cond.fieldLink RX5 52 RX5 "kind" "I", Cond.fieldLink RX5 79 RX9 "places" "[I", Cond.fieldLink RX5 83 RX0 "enumCount" "I", Cond.fieldLink RX5 86 RX5 "value" "J", Cond.fieldLink RX5 100 RX5 "newName" "J", Cond.fieldLink RX5 106 RX5 "current" "LSignalBook$Enumeration;", Cond.fieldLink RX5 110 RX3 "firstCode" "I"]
theorem ch_33 : ∀ w ∈ chl_33, w ∈ am_ws := am_ins (fun w hw => (goodIn_r chl_33 [659, 866, 365, 367, 369, 363, 222, 211, 218, 547, 272, 273, 271, 281, 283, 260, 274, 277, 278, 215, 548, 279, 280, 275, 621] (by decide +kernel) (by decide +kernel) w hw).1) (by decide +kernel)
abbrev chl_34 : List Cond := [Cond.fieldLink RX5 128 RX3 "constantCount" "I", Cond.fieldLink RX5 134 RX3 "constants" "[LSignalBook$Constant;", Cond.fieldLink RX5 138 RX2 "argumentCode" "I", Cond.fieldLink RX5 141 RX5 "setting" "I", Cond.fieldLink RX5 147 RX2 "bodies" "[I", Cond.fieldLink RX5 157 RX0 "actCount" "I", Cond.fieldLink RX5 160 RX3 "bodies" "[I", Cond.fieldLink RX5 173 RX3 "endCode" "I", Cond.fieldLink RX5 176 RX3 "tableCount" "I", Cond.fieldLink RX5 186 RX3 "tables" "[LSignalBook$Table;", Cond.fieldLink RX5 194 RX8 "entryCodes" "[I", Cond.fieldLink RX5 197 RX8 "entryCount" "I", Cond.fieldLink RX5 203 RX3 "checkCount" "I", Cond.fieldLink RX5 206 RX3 "checkCodes" "[I", Cond.fieldLink RX5 209 RX3 "holderCount" "I", Cond.fieldLink RX5 212 RX3 "holderNames" "[J", Cond.fieldLink RX5 215 RX3 "holderCodes" "[I", Cond.fieldLink RX5 218 RX3 "switchCount" "I", Cond.fieldLink RX5 224 RX3 "switches" "[LSignalBook$Switch;", Cond.fieldLink RX5 232 RX7 "elseCode" "I", Cond.fieldLink RX5 235 RX7 "caseCount" "I", Cond.fieldLink RX5 241 RX7 "caseNames" "[J", Cond.fieldLink RX5 244 RX7 "caseCodes" "[I", Cond.fieldLink RX5 264 RX9 "count" "I", Cond.fieldLink RX5 273 RX9 "kinds" "[I"]
theorem ch_34 : ∀ w ∈ chl_34, w ∈ am_ws := am_ins (fun w hw => (goodIn_r chl_34 [629, 626, 751, 276, 756, 551, 636, 623, 643, 639, 819, 824, 649, 646, 663, 652, 655, 668, 665, 876, 874, 868, 871, 223, 213] (by decide +kernel) (by decide +kernel) w hw).1) (by decide +kernel)
abbrev chl_35 : List Cond := [Cond.fieldLink RX5 276 RX9 "values" "[J", Cond.fieldLink RX6 9 RX6 "values" "[I", Cond.fieldLink RX6 15 RX6 "book" "I", Cond.fieldLink RX6 19 RX6 "enumNumber" "I", Cond.fieldLink RX6 22 RX6 "bits" "I", Cond.fieldLink RX7 9 RX7 "caseNames" "[J", Cond.fieldLink RX7 15 RX7 "caseCodes" "[I", Cond.fieldLink RX7 19 RX7 "name" "J", Cond.fieldLink RX7 23 RX7 "caseCount" "I", Cond.fieldLink RX8 9 RX8 "entryCodes" "[I", Cond.fieldLink RX8 15 RX8 "entries" "[I", Cond.fieldLink RX8 18 RX8 "name" "J", Cond.fieldLink RX9 9 RX9 "kinds" "[I", Cond.fieldLink RX9 15 RX9 "places" "[I", Cond.fieldLink RX9 18 RX9 "values" "[J", Cond.fieldLink RX9 22 RX9 "count" "I", Cond.fieldLink RX9 26 RX9 "keywords" "[J", Cond.fieldLink RX10 11 RX10 "stack" "[I", Cond.fieldLink RX10 15 RX10 "underWay" "[I", Cond.fieldLink RX10 18 RX10 "causeKinds" "[I", Cond.fieldLink RX10 21 RX10 "causeItems" "[I", Cond.fieldLink RX10 24 RX10 "book" "LSignalBook$Book;", Cond.fieldLink RX10 28 RX10 "failing" "Z", Cond.fieldLink RX10 32 RX10 "top" "I", Cond.fieldLink RX10 36 RX10 "underWayCount" "I"]
theorem ch_35 : ∀ w ∈ chl_35, w ∈ am_ws := am_ins (fun w hw => (goodIn_r chl_35 [220, 1194, 1188, 1190, 1192, 867, 869, 865, 872, 818, 821, 816, 210, 214, 217, 221, 224, 319, 321, 323, 324, 316, 317, 320, 322] (by decide +kernel) (by decide +kernel) w hw).1) (by decide +kernel)
abbrev chl_36 : List Cond := [Cond.fieldLink RX10 43 RX10 "causeCount" "I", Cond.fieldLink RX10 59 RX10 "aboveKnown" "Z", Cond.fieldLink RX10 68 RX2 "bodies" "[I", Cond.fieldLink RX10 81 RX3 "bodies" "[I", Cond.fieldLink RX10 82 RX7 "caseCount" "I", Cond.fieldLink RX10 87 RX7 "caseCodes" "[I", Cond.fieldLink RX10 90 RX0 "code" "LSignalBook$Code;", Cond.fieldLink RX10 94 RX1 "length" "I", Cond.fieldLink RX10 99 RX1 "args" "[I", Cond.fieldLink RX10 102 RX7 "elseCode" "I", Cond.fieldLink RX10 136 RX3 "holderCount" "I", Cond.fieldLink RX10 139 RX3 "holderValues" "[I", Cond.fieldLink RX10 142 RX3 "holderCodes" "[I", Cond.fieldLink RX10 145 RX3 "constantCount" "I", Cond.fieldLink RX10 151 RX3 "tableCount" "I", Cond.fieldLink RX10 154 RX3 "tables" "[LSignalBook$Table;", Cond.fieldLink RX10 162 RX3 "checkCount" "I", Cond.fieldLink RX10 165 RX3 "checkCodes" "[I", Cond.fieldLink RX10 168 RX3 "constants" "[LSignalBook$Constant;", Cond.fieldLink RX10 172 RX2 "argumentCode" "I", Cond.fieldLink RX10 175 RX2 "argument" "I", Cond.fieldLink RX10 178 RX3 "made" "I", Cond.fieldLink RX10 181 RX8 "entryCount" "I", Cond.fieldLink RX10 186 RX8 "entries" "[I", Cond.fieldLink RX10 189 RX8 "entryCodes" "[I"]
theorem ch_36 : ∀ w ∈ chl_36, w ∈ am_ws := am_ins (fun w hw => (goodIn_r chl_36 [325, 326, 757, 635, 873, 870, 553, 263, 258, 875, 662, 657, 654, 631, 644, 640, 650, 647, 627, 752, 754, 633, 826, 823, 820] (by decide +kernel) (by decide +kernel) w hw).1) (by decide +kernel)
abbrev chl_37 : List Cond := [Cond.fieldLink RX10 192 RX8 "there" "I", Cond.fieldLink RX10 201 RX1 "ops" "[I", Cond.fieldLink RX10 235 RX10 "aboveValue" "I", Cond.fieldLink RX12 7 RX12 "tape" "[B", Cond.fieldLink RX12 13 RX12 "texts" "[B", Cond.fieldLink RX12 16 RX12 "enums" "[I", Cond.fieldLink RX12 20 RX12 "acts" "[I", Cond.fieldLink RX12 23 RX12 "actName" "[I", Cond.fieldLink RX12 26 RX12 "enumName" "[I", Cond.fieldLink RX12 29 RX12 "constants" "[I", Cond.fieldLink RX12 32 RX12 "tables" "[I", Cond.fieldLink RX12 35 RX12 "checks" "[I", Cond.fieldLink RX12 38 RX12 "holders" "[I", Cond.fieldLink RX12 41 RX12 "switches" "[I", Cond.fieldLink RX12 44 RX12 "enumBody" "[I", Cond.fieldLink RX12 47 RX12 "constantName" "[I", Cond.fieldLink RX12 50 RX12 "argument" "[I", Cond.fieldLink RX12 53 RX12 "constantBody" "[I", Cond.fieldLink RX12 56 RX12 "tableName" "[I", Cond.fieldLink RX12 59 RX12 "tableSize" "[I", Cond.fieldLink RX12 62 RX12 "entry" "[I", Cond.fieldLink RX12 65 RX12 "check" "[I", Cond.fieldLink RX12 68 RX12 "holderName" "[I", Cond.fieldLink RX12 71 RX12 "holder" "[I", Cond.fieldLink RX12 74 RX12 "switchName" "[I"]
theorem ch_37 : ∀ w ∈ chl_37, w ∈ am_ws := am_ins (fun w hw => (goodIn_r chl_37 [827, 256, 327, 1319, 1325, 1328, 1329, 1330, 1331, 1332, 1333, 1334, 1335, 1336, 1337, 1338, 1339, 1340, 1341, 1342, 1343, 1344, 1345, 1346, 1347] (by decide +kernel) (by decide +kernel) w hw).1) (by decide +kernel)
abbrev chl_38 : List Cond := [Cond.fieldLink RX12 77 RX12 "cases" "[I", Cond.fieldLink RX12 80 RX12 "caseName" "[I", Cond.fieldLink RX12 83 RX12 "caseOf" "[I", Cond.fieldLink RX12 86 RX12 "caseExpr" "[I", Cond.fieldLink RX12 89 RX12 "otherwise" "[I", Cond.fieldLink RX12 92 RX12 "xKind" "[I", Cond.fieldLink RX12 95 RX12 "xA" "[I", Cond.fieldLink RX12 98 RX12 "xB" "[I", Cond.fieldLink RX12 101 RX12 "xUp" "[I", Cond.fieldLink RX12 104 RX12 "xEnum" "[I", Cond.fieldLink RX12 107 RX12 "refNode" "[I", Cond.fieldLink RX12 110 RX12 "refEnum" "[I", Cond.fieldLink RX12 113 RX12 "refName" "[I", Cond.fieldLink RX12 116 RX12 "states" "[I", Cond.fieldLink RX12 119 RX12 "constantsMade" "[I", Cond.fieldLink RX12 122 RX12 "worth" "[I", Cond.fieldLink RX12 125 RX12 "entriesMade" "[I", Cond.fieldLink RX12 128 RX12 "entryWorth" "[I", Cond.fieldLink RX12 131 RX12 "holderWorth" "[I", Cond.fieldLink RX12 134 RX12 "starts" "[I", Cond.fieldLink RX12 137 RX12 "started" "[I", Cond.fieldLink RX12 140 RX12 "seenBy" "[I", Cond.fieldLink RX12 143 RX12 "seenOf" "[I", Cond.fieldLink RX12 146 RX12 "seens" "[I", Cond.fieldLink RX12 149 RX12 "underWay" "[I"]
theorem ch_38 : ∀ w ∈ chl_38, w ∈ am_ws := am_ins (fun w hw => (goodIn_r chl_38 [1348, 1349, 1350, 1351, 1352, 1353, 1354, 1355, 1356, 1357, 1366, 1367, 1368, 1370, 1371, 1372, 1373, 1374, 1375, 1376, 1377, 1378, 1379, 1380, 1381] (by decide +kernel) (by decide +kernel) w hw).1) (by decide +kernel)
abbrev chl_39 : List Cond := [Cond.fieldLink RX12 152 RX12 "causes" "[I", Cond.fieldLink RX12 155 RX12 "causeBy" "[I", Cond.fieldLink RX12 158 RX12 "setEnum" "[I", Cond.fieldLink RX12 161 RX12 "setBits" "[I", Cond.fieldLink RX12 164 RX12 "mapEnum" "[I", Cond.fieldLink RX12 167 RX12 "mapBits" "[I", Cond.fieldLink RX12 170 RX12 "mapValue" "[I", Cond.fieldLink RX12 173 RX12 "messageBook" "[I", Cond.fieldLink RX12 176 RX12 "messageSize" "[I", Cond.fieldLink RX12 179 RX12 "signals" "[I", Cond.fieldLink RX12 182 RX12 "added" "[I", Cond.fieldLink RX12 185 RX12 "line" "[B", Cond.fieldLink RX12 192 RX12 "taped" "I", Cond.fieldLink RX12 195 RX12 "behind" "I", Cond.fieldLink RX12 198 RX12 "from" "I", Cond.fieldLink RX12 205 RX12 "kind" "I", Cond.fieldLink RX12 215 RX12 "numeral" "I", Cond.fieldLink RX12 263 RX12 "now" "I", Cond.fieldLink RX12 266 RX12 "expressions" "I", Cond.fieldLink RX12 269 RX12 "g" "I", Cond.fieldLink RX12 275 RX12 "wrong" "I", Cond.fieldLink RX12 278 RX12 "wrongAt" "I", Cond.fieldLink RX12 301 RX12 "refs" "I", Cond.fieldLink RX12 353 RX12 "mayValue" "Z", Cond.fieldLink RX12 357 RX12 "mayOrd" "Z"]
theorem ch_39 : ∀ w ∈ chl_39, w ∈ am_ws := am_ins (fun w hw => (goodIn_r chl_39 [1384, 1385, 1388, 1389, 1391, 1392, 1393, 1395, 1396, 1397, 1398, 1400, 1320, 1323, 1322, 1321, 1324, 1327, 1358, 1359, 1364, 1365, 1369, 1361, 1362] (by decide +kernel) (by decide +kernel) w hw).1) (by decide +kernel)
abbrev chl_40 : List Cond := [Cond.fieldLink RX12 360 RX12 "mayAbove" "Z", Cond.fieldLink RX12 363 RX12 "nest" "I", Cond.fieldLink RX12 392 RX12 "books" "I", Cond.fieldLink RX12 401 RX12 "failed" "Z", Cond.fieldLink RX12 404 RX12 "causeCount" "I", Cond.fieldLink RX12 413 RX12 "deep" "I", Cond.fieldLink RX12 442 RX12 "out" "I", Cond.fieldLink RX12 461 RX12 "sets" "I", Cond.fieldLink RX12 467 RX12 "maps" "I", Cond.fieldLink RX12 473 RX12 "messages" "I", Cond.fieldLink RX12 479 RX12 "lined" "I", Cond.fieldLink RJ0 9 RJ0 "value" "[B", Cond.fieldLink RJ0 15 RJ0 "coder" "B", Cond.fieldLink RJ0 38 RJ0 "COMPACT_STRINGS" "Z", Cond.fieldLink RJ0 1053 RJ3 "SIOOBE_FORMATTER" "Ljava/util/function/BiFunction;", Cond.fieldLink RJ2 44 RJ2 "$assertionsDisabled" "Z", Cond.fieldLink RJ2 59 RJ2 "HI_BYTE_SHIFT" "I", Cond.fieldLink RJ2 63 RJ2 "LO_BYTE_SHIFT" "I", Cond.methodLink RX11 3 Lib.objectInit, Cond.methodLink RX11 15 yX9_init, Cond.methodLink RX11 22 yX5_init, Cond.methodLink RX11 66 yX11_putByte, Cond.methodLink RX11 73 yX9_cutUp, Cond.methodLink RX11 77 yX5_readBook, Cond.methodLink RX11 90 yX11_bookAt]
theorem ch_40 : ∀ w ∈ chl_40, w ∈ am_ws := am_ins (fun w hw => (goodIn_r chl_40 [1363, 1360, 1326, 1383, 1386, 1382, 1387, 1390, 1394, 1399, 1401, 1933, 1934, 163, 179, 197, 199, 201, 145, 150, 241, 435, 447, 533, 939] (by decide +kernel) (by decide +kernel) w hw).1) (by decide +kernel)
abbrev chl_41 : List Cond := [Cond.methodLink RX11 106 yX11_enumOf, Cond.methodLink RX11 127 yX0_hasItem, Cond.methodLink RX11 131 yX0_stateOf, Cond.methodLink RX11 139 yX11_letterOf, Cond.methodLink RX11 143 yX3_constantAt, Cond.methodLink RX11 150 yX11_hasAct, Cond.methodLink RX11 159 yX11_usedWell, Cond.methodLink RX11 168 yX10_perform, Cond.methodLink RX11 172 yX11_giveOut, Cond.methodLink RX11 175 yX3_tableAt, Cond.methodLink RX11 190 yX3_switchAt, Cond.methodLink RX11 194 yX10_choose, Cond.methodLink RX11 198 yX10_causeKind, Cond.methodLink RX11 201 yX10_causeItem, Cond.methodLink RX11 216 yX6_init, Cond.methodLink RX11 219 yX11_keepSet, Cond.methodLink RX11 223 yX11_setAt, Cond.methodLink RX11 227 yX11_isConstant, Cond.methodLink RX11 231 yX6_include, Cond.methodLink RX11 234 yX6_exclude, Cond.methodLink RX11 246 yX11_joined, Cond.methodLink RX11 250 yJ6_bitCount_0f7a4, Cond.methodLink RX11 255 yX6_ordinalAt, Cond.methodLink RX11 264 yX11_mapAt, Cond.methodLink RX11 267 yX6_contains]
theorem ch_41 : ∀ w ∈ chl_41, w ∈ am_ws := am_ins (fun w hw => (goodIn_r chl_41 [947, 959, 973, 981, 992, 1000, 1008, 1126, 1130, 1138, 1147, 1151, 1163, 1167, 1184, 1205, 1213, 1217, 1221, 1233, 1241, 1248, 1254, 1266, 1274] (by decide +kernel) (by decide +kernel) w hw).1) (by decide +kernel)
abbrev chl_42 : List Cond := [Cond.methodLink RX11 273 yX4_readFrom, Cond.methodLink RX11 281 yX11_messageAt, Cond.methodLink RX11 297 yX11_nameOf, Cond.methodLink RX11 301 yX11_putName, Cond.methodLink RX11 305 yX11_putNumber, Cond.methodLink RX11 308 yX9_lengthOfName, Cond.methodLink RX11 312 yX9_signOfName, Cond.methodLink RX11 315 yX0_enumAt, Cond.methodLink RX11 319 yX10_beginWith, Cond.methodLink RX0 3 Lib.objectInit, Cond.methodLink RX0 47 yX0_isHolder, Cond.methodLink RX0 51 yX0_enumOfItem, Cond.methodLink RX0 55 yX0_enumAt, Cond.methodLink RX0 59 yX0_holderOfItem, Cond.methodLink RX0 74 yJ9_min_7cf53, Cond.methodLink RX0 83 yJ9_max_7cf53, Cond.methodLink RX0 86 yX0_linkStep, Cond.methodLink RX0 96 yX0_relink, Cond.methodLink RX0 112 yX0_findEnum, Cond.methodLink RX0 116 yX0_linkTo, Cond.methodLink RX0 120 yX3_findTable, Cond.methodLink RX0 123 yX3_findConstant, Cond.methodLink RX0 126 yX3_findHolder, Cond.methodLink RX1 1 Lib.objectInit, Cond.methodLink RX1 7 yJ9_max_7cf53]
theorem ch_42 : ∀ w ∈ chl_42, w ∈ am_ws := am_ins (fun w hw => (goodIn_r chl_42 [1279, 1293, 1301, 1305, 1309, 984, 987, 951, 1012, 542, 966, 963, 969, 970, 913, 914, 915, 919, 923, 924, 928, 929, 930, 250, 251] (by decide +kernel) (by decide +kernel) w hw).1) (by decide +kernel)
abbrev chl_43 : List Cond := [Cond.methodLink RX1 26 yX1_init, Cond.methodLink RX1 29 arraycopyName, Cond.methodLink RX2 3 Lib.objectInit, Cond.methodLink RX2 23 yJ7_fill_53178, Cond.methodLink RX3 3 Lib.objectInit, Cond.methodLink RX3 50 yJ7_fill_53178, Cond.methodLink RX3 72 yX3_findConstant, Cond.methodLink RX3 76 yX3_findTable, Cond.methodLink RX3 79 yX3_findHolder, Cond.methodLink RX3 82 yX3_findSwitch, Cond.methodLink RX4 3 Lib.objectInit, Cond.methodLink RX4 35 yX4_keepSignal, Cond.methodLink RX4 44 yX0_enumAt, Cond.methodLink RX4 48 yX3_findConstant, Cond.methodLink RX5 3 Lib.objectInit, Cond.methodLink RX5 11 yX1_init, Cond.methodLink RX5 48 yX5_pass, Cond.methodLink RX5 57 yX5_readHead, Cond.methodLink RX5 61 yX5_readConstants, Cond.methodLink RX5 64 yX5_readMembers, Cond.methodLink RX5 67 yX1_copy, Cond.methodLink RX5 71 yX0_settle, Cond.methodLink RX5 75 yX0_linkNames, Cond.methodLink RX5 90 yX0_findEnum, Cond.methodLink RX5 94 yX5_acceptNew]
theorem ch_43 : ∀ w ∈ chl_43, w ∈ am_ws := am_ins (fun w hw => (goodIn_r chl_43 [901, 902, 745, 746, 608, 615, 724, 728, 732, 736, 361, 1283, 1287, 1288, 244, 247, 586, 591, 712, 798, 896, 905, 909, 595, 599] (by decide +kernel) (by decide +kernel) w hw).1) (by decide +kernel)
abbrev chl_44 : List Cond := [Cond.methodLink RX5 103 yX3_init, Cond.methodLink RX5 113 yX0_keepEnum, Cond.methodLink RX5 117 yX5_accept, Cond.methodLink RX5 121 yX5_readConstant, Cond.methodLink RX5 124 yX3_knows, Cond.methodLink RX5 133 yX2_init, Cond.methodLink RX5 144 yX5_readSum, Cond.methodLink RX5 150 yX5_readAct, Cond.methodLink RX5 154 yX5_findAct, Cond.methodLink RX5 161 yX5_readTable, Cond.methodLink RX5 164 yX5_readCheck, Cond.methodLink RX5 167 yX5_readHolder, Cond.methodLink RX5 170 yX5_readSwitch, Cond.methodLink RX5 179 yX5_acceptMember, Cond.methodLink RX5 185 yX8_init, Cond.methodLink RX5 190 yX5_readEntries, Cond.methodLink RX5 200 yX5_beginsPlainExpr, Cond.methodLink RX5 223 yX7_init, Cond.methodLink RX5 228 yX5_readCase, Cond.methodLink RX5 238 yX7_hasCase, Cond.methodLink RX5 247 yX1_emit, Cond.methodLink RX5 251 yX5_readFactor, Cond.methodLink RX5 254 yX1_ofProduct, Cond.methodLink RX5 258 yX1_ofSum, Cond.methodLink RX5 261 yX5_readReference]
theorem ch_44 : ∀ w ∈ chl_44, w ∈ am_ws := am_ins (fun w hw => (goodIn_r chl_44 [605, 704, 708, 716, 720, 742, 768, 790, 794, 802, 847, 851, 855, 806, 812, 839, 843, 861, 888, 892, 776, 772, 784, 787, 780] (by decide +kernel) (by decide +kernel) w hw).1) (by decide +kernel)
abbrev chl_45 : List Cond := [Cond.methodLink RX5 267 yJ9_min_7cf53, Cond.methodLink RX6 3 Lib.objectInit, Cond.methodLink RX6 25 yX6_contains, Cond.methodLink RX7 3 Lib.objectInit, Cond.methodLink RX8 3 Lib.objectInit, Cond.methodLink RX9 3 Lib.objectInit, Cond.methodLink RX9 31 yJ0_length_8abf5, Cond.methodLink RX9 37 yJ0_charAt_5068e, Cond.methodLink RX9 41 yX9_rankOf, Cond.methodLink RX9 47 yX9_rowEnd, Cond.methodLink RX9 51 yX9_keepRow, Cond.methodLink RX9 57 yJ0_indexOf_0f7a4, Cond.methodLink RX9 60 yX9_keep, Cond.methodLink RX9 64 yX9_lengthOfName, Cond.methodLink RX9 70 yX9_isDigit, Cond.methodLink RX9 74 yX9_keepNumber, Cond.methodLink RX9 77 yX9_keepWord, Cond.methodLink RX9 82 yX9_kindOfWord, Cond.methodLink RX10 3 Lib.objectInit, Cond.methodLink RX10 39 yX10_useItem, Cond.methodLink RX10 46 yX0_stateOf, Cond.methodLink RX10 52 yX10_fail, Cond.methodLink RX10 56 yX10_startItem, Cond.methodLink RX10 62 yX3_constantAt, Cond.methodLink RX10 73 yX10_performShared]
theorem ch_45 : ∀ w ∈ chl_45, w ∈ am_ws := am_ins (fun w hw => (goodIn_r chl_45 [590, 1187, 1225, 864, 815, 153, 155, 165, 203, 451, 454, 476, 463, 990, 206, 458, 467, 471, 315, 1016, 1020, 1021, 1025, 1061, 1066] (by decide +kernel) (by decide +kernel) w hw).1) (by decide +kernel)
abbrev chl_46 : List Cond := [Cond.methodLink RX10 77 yX10_workOut, Cond.methodLink RX10 105 yX0_setState, Cond.methodLink RX10 108 yX0_noteStart, Cond.methodLink RX10 111 yX0_enumOfItem, Cond.methodLink RX10 114 yX0_enumAt, Cond.methodLink RX10 118 yX0_isHolder, Cond.methodLink RX10 122 yX0_holderOfItem, Cond.methodLink RX10 125 yX10_fillHolder, Cond.methodLink RX10 129 yX10_makeEnum, Cond.methodLink RX10 133 yX10_failAround, Cond.methodLink RX10 148 yX10_makeConstant, Cond.methodLink RX10 158 yX10_fillTable, Cond.methodLink RX10 195 yJ9_max_7cf53, Cond.methodLink RX10 204 yX10_takeStep, Cond.methodLink RX10 208 yX10_pop, Cond.methodLink RX10 212 yX10_push, Cond.methodLink RX10 215 yX10_argumentOf, Cond.methodLink RX10 219 yX10_workOutAbove, Cond.methodLink RX10 222 yX10_readConstant, Cond.methodLink RX10 225 yX10_readHolder, Cond.methodLink RX10 228 yX10_readEntry, Cond.methodLink RX10 232 yX10_combine, Cond.methodLink RX10 238 yX10_see, Cond.methodLink RX10 241 yX3_tableAt, Cond.methodLink RX10 245 yX0_noteSeen]
theorem ch_46 : ∀ w ∈ chl_46, w ∈ am_ws := am_ins (fun w hw => (goodIn_r chl_46 [1045, 1029, 1033, 1037, 1038, 1039, 1040, 1041, 1102, 1114, 1106, 1110, 1049, 1050, 1086, 1054, 1058, 1062, 1070, 1082, 1090, 1098, 1074, 1094, 1078] (by decide +kernel) (by decide +kernel) w hw).1) (by decide +kernel)
abbrev chl_47 : List Cond := [Cond.methodLink RL 9 yX11_init, Cond.methodLink RL 12 yX12_init, Cond.methodLink RL 15 yX11_feed, Cond.methodLink RL 19 yX12_feed, Cond.methodLink RL 20 yX11_cut, Cond.methodLink RL 24 yX12_cut, Cond.methodLink RL 25 yX11_book, Cond.methodLink RL 29 yX12_book, Cond.methodLink RL 30 yX11_wrong, Cond.methodLink RL 33 yX12_wrong, Cond.methodLink RL 34 yX11_told, Cond.methodLink RL 38 yX12_told, Cond.methodLink RL 39 yX11_about, Cond.methodLink RL 43 yX12_about, Cond.methodLink RL 44 yX11_state, Cond.methodLink RL 47 yX12_state, Cond.methodLink RL 48 yX11_letter, Cond.methodLink RL 52 yX12_letter, Cond.methodLink RL 53 yX11_body, Cond.methodLink RL 56 yX12_body, Cond.methodLink RL 57 yX11_use, Cond.methodLink RL 60 yX12_use_, Cond.methodLink RL 61 yX11_argument, Cond.methodLink RL 64 yX12_argument, Cond.methodLink RL 65 yX11_act]
theorem ch_47 : ∀ w ∈ chl_47, w ∈ am_ws := am_ins (fun w hw => (goodIn_r chl_47 [142, 1315, 431, 1571, 439, 1575, 443, 1579, 931, 1744, 935, 1748, 943, 1752, 955, 1760, 977, 1768, 996, 1776, 1004, 1780, 1118, 1832, 1122] (by decide +kernel) (by decide +kernel) w hw).1) (by decide +kernel)
abbrev chl_48 : List Cond := [Cond.methodLink RL 68 yX12_act, Cond.methodLink RL 69 yX11_entry, Cond.methodLink RL 72 yX12_entry, Cond.methodLink RL 73 yX11_holder, Cond.methodLink RL 76 yX12_holder, Cond.methodLink RL 77 yX11_branch, Cond.methodLink RL 80 yX12_branch, Cond.methodLink RL 81 yX11_out, Cond.methodLink RL 84 yX12_out, Cond.methodLink RL 85 yX11_cause, Cond.methodLink RL 88 yX12_cause, Cond.methodLink RL 89 yX11_start, Cond.methodLink RL 92 yX12_start, Cond.methodLink RL 93 yX11_seen, Cond.methodLink RL 96 yX12_seen, Cond.methodLink RL 97 yX11_set, Cond.methodLink RL 100 yX12_set, Cond.methodLink RL 101 yX11_add, Cond.methodLink RL 104 yX12_add, Cond.methodLink RL 105 yX11_take, Cond.methodLink RL 108 yX12_take, Cond.methodLink RL 109 yX11_join, Cond.methodLink RL 112 yX12_join, Cond.methodLink RL 113 yX11_member, Cond.methodLink RL 116 yX12_member]
theorem ch_48 : ∀ w ∈ chl_48, w ∈ am_ws := am_ins (fun w hw => (goodIn_r chl_48 [1840, 1134, 1844, 1139, 1848, 1143, 1852, 1155, 1856, 1159, 1860, 1171, 1864, 1175, 1868, 1179, 1872, 1209, 1876, 1229, 1884, 1237, 1888, 1244, 1892] (by decide +kernel) (by decide +kernel) w hw).1) (by decide +kernel)
abbrev chl_49 : List Cond := [Cond.methodLink RL 117 yX11_map, Cond.methodLink RL 120 yX12_map, Cond.methodLink RL 121 yX11_put, Cond.methodLink RL 124 yX12_put, Cond.methodLink RL 125 yX11_get, Cond.methodLink RL 128 yX12_get, Cond.methodLink RL 129 yX11_encode, Cond.methodLink RL 132 yX12_encode, Cond.methodLink RL 133 yX11_signal, Cond.methodLink RL 136 yX12_signal, Cond.methodLink RL 137 yX11_decode, Cond.methodLink RL 140 yX12_decode, Cond.methodLink RX12 1 Lib.objectInit, Cond.methodLink RX12 201 yX12_at, Cond.methodLink RX12 208 yX12_isLetter, Cond.methodLink RX12 212 yX12_isDigit, Cond.methodLink RX12 220 yJ0_indexOf_0f7a4, Cond.methodLink RX12 225 yJ0_length_8abf5, Cond.methodLink RX12 229 yJ0_charAt_5068e, Cond.methodLink RX12 235 yX12_isWord, Cond.methodLink RX12 259 yX12_isKeyword, Cond.methodLink RX12 272 yX12_isTwo, Cond.methodLink RX12 281 yX12_isSign, Cond.methodLink RX12 285 yX12_next, Cond.methodLink RX12 288 yX12_fault]
theorem ch_49 : ∀ w ∈ chl_49, w ∈ am_ws := am_ins (fun w hw => (goodIn_r chl_49 [1258, 1896, 1262, 1900, 1270, 1908, 1275, 1912, 1289, 1920, 1297, 1924, 1318, 1591, 1595, 1598, 1602, 1612, 1613, 1608, 1622, 1689, 1657, 1587, 1614] (by decide +kernel) (by decide +kernel) w hw).1) (by decide +kernel)
abbrev chl_50 : List Cond := [Cond.methodLink RX12 291 yX12_isName, Cond.methodLink RX12 294 yX12_nameHere, Cond.methodLink RX12 297 yX12_isSame, Cond.methodLink RX12 304 yX12_readEnum, Cond.methodLink RX12 307 yX12_settle, Cond.methodLink RX12 311 yX12_enumOf, Cond.methodLink RX12 314 yX12_newName, Cond.methodLink RX12 318 yX12_sign, Cond.methodLink RX12 322 yX12_readConstant, Cond.methodLink RX12 325 yX12_readMember, Cond.methodLink RX12 328 yX12_tells, Cond.methodLink RX12 331 yX12_readExpr, Cond.methodLink RX12 335 yX12_readAct, Cond.methodLink RX12 338 yX12_readTable, Cond.methodLink RX12 341 yX12_readSwitch, Cond.methodLink RX12 344 yX12_readEntry, Cond.methodLink RX12 347 yX12_beginsExpr, Cond.methodLink RX12 350 yX12_readCase, Cond.methodLink RX12 366 yX12_readSum, Cond.methodLink RX12 369 yX12_readTerm, Cond.methodLink RX12 372 yX12_expression, Cond.methodLink RX12 376 yX12_readFactor, Cond.methodLink RX12 379 yX12_taken, Cond.methodLink RX12 382 yX12_readReference, Cond.methodLink RX12 385 yX12_lacks]
theorem ch_50 : ∀ w ∈ chl_50, w ∈ am_ws := am_ins (fun w hw => (goodIn_r chl_50 [1618, 1637, 1645, 1603, 1728, 1641, 1649, 1653, 1661, 1704, 1665, 1669, 1700, 1708, 1720, 1712, 1716, 1724, 1673, 1677, 1685, 1681, 1692, 1696, 1732] (by decide +kernel) (by decide +kernel) w hw).1) (by decide +kernel)
abbrev chl_51 : List Cond := [Cond.methodLink RX12 388 yX12_among, Cond.methodLink RX12 395 yX12_readBook, Cond.methodLink RX12 398 yX12_asleep, Cond.methodLink RX12 407 yX12_failing, Cond.methodLink RX12 411 yX12_starts, Cond.methodLink RX12 416 yX12_startsEnum, Cond.methodLink RX12 419 yX12_startsHolder, Cond.methodLink RX12 422 yX12_value, Cond.methodLink RX12 424 yX12_use, Cond.methodLink RX12 427 yX12_sees, Cond.methodLink RX12 430 yX12_entryOf, Cond.methodLink RX12 433 yX12_both, Cond.methodLink RX12 436 yX12_joined, Cond.methodLink RX12 439 yX12_isEnum, Cond.methodLink RX12 445 yX12_begin, Cond.methodLink RX12 448 yX12_isItem, Cond.methodLink RX12 451 yX12_isConstant, Cond.methodLink RX12 455 yX12_uses, Cond.methodLink RX12 458 yX12_ends, Cond.methodLink RX12 464 yX12_isIn, Cond.methodLink RX12 470 yX12_isMapped, Cond.methodLink RX12 476 yX12_constantHere, Cond.methodLink RX12 482 yX12_put_, Cond.methodLink RJ0 335 yJ0_coder_7d493, Cond.methodLink RJ0 492 yJ0_isLatin1_aae02]
theorem ch_51 : ∀ w ∈ chl_51, w ∈ am_ws := am_ins (fun w hw => (goodIn_r chl_51 [1736, 1583, 1740, 1796, 1800, 1804, 1828, 1808, 1792, 1812, 1816, 1820, 1824, 1756, 1788, 1764, 1772, 1784, 1836, 1880, 1904, 1916, 1928, 159, 169] (by decide +kernel) (by decide +kernel) w hw).1) (by decide +kernel)
abbrev chl_52 : List Cond := [Cond.methodLink RJ0 495 yJ1_charAt_3b067, Cond.methodLink RJ0 498 yJ2_charAt_3b067, Cond.methodLink RJ0 505 yJ0_length_8abf5, Cond.methodLink RJ0 633 yJ0_indexOf_7cf53, Cond.methodLink RJ0 637 yJ1_indexOf_4cfef, Cond.methodLink RJ0 640 yJ2_indexOf_4cfef, Cond.methodLink RJ0 1059 yJ3_checkIndex_8e157, Cond.methodLink RJ0 1062 yJ3_checkFromToIndex_8c36e, Cond.methodLink RJ1 9 yJ0_checkIndex_df160, Cond.methodLink RJ1 38 yJ9_min_7cf53, Cond.methodLink RJ1 88 yJ1_canEncode_9a6ad, Cond.methodLink RJ1 92 yJ9_max_7cf53, Cond.methodLink RJ1 95 yJ1_indexOfChar_4cfef, Cond.methodLink RJ2 48 yJ2_length_9d52b, Cond.methodLink RJ2 67 yJ2_checkIndex_2214a, Cond.methodLink RJ2 71 yJ2_getChar_3b067, Cond.methodLink RJ2 96 yJ2_checkBoundsBeginEnd_d044e, Cond.methodLink RJ2 157 yJ11_highSurrogate_5068e, Cond.methodLink RJ2 161 yJ11_lowSurrogate_5068e, Cond.methodLink RJ2 164 yJ11_isValidCodePoint_9a6ad, Cond.methodLink RJ2 183 yJ9_min_7cf53, Cond.methodLink RJ2 224 yJ9_max_7cf53, Cond.methodLink RJ2 228 yJ2_indexOfChar_4cfef, Cond.methodLink RJ2 232 yJ2_indexOfSupplementary_4cfef, Cond.methodLink RJ2 241 yJ0_checkBoundsBeginEnd_23922]
theorem ch_52 : ∀ w ∈ chl_52, w ∈ am_ws := am_ins (fun w hw => (goodIn_r chl_52 [173, 184, 484, 480, 485, 498, 181, 513, 176, 492, 488, 491, 495, 190, 187, 194, 507, 525, 529, 522, 502, 501, 504, 519, 510] (by decide +kernel) (by decide +kernel) w hw).1) (by decide +kernel)
abbrev chl_53 : List Cond := [Cond.methodLink RJ2 244 yJ2_indexOfCharUnsafe_4cfef, Cond.methodLink RJ2 414 yJ0_checkIndex_df160, Cond.classLink RX11 13 RX9, Cond.classLink RX11 20 RX5, Cond.classLink RX11 29 RX10, Cond.classLink RX11 36 RX0, Cond.classLink RX11 42 RX6, Cond.classLink RX11 51 RX4, Cond.classLink RX0 9 RX3, Cond.classLink RX1 14 RX1, Cond.classLink RX3 9 RX2, Cond.classLink RX3 21 RX8, Cond.classLink RX3 40 RX7, Cond.classLink RX5 9 RX1, Cond.classLink RX5 38 RX0, Cond.classLink RX5 98 RX3, Cond.classLink RX5 131 RX2, Cond.classLink RX5 183 RX8, Cond.classLink RX5 221 RX7, Cond.classLink RL 7 RX11, Cond.classLink RL 10 RX12, Cond.instantiable RX0 10, Cond.instantiable RX1 3, Cond.instantiable RX2 4, Cond.instantiable RX3 17]
theorem ch_53 : ∀ w ∈ chl_53, w ∈ am_ws := am_ins (fun w hw => (goodIn_r chl_53 [516, 193, 148, 239, 310, 351, 353, 355, 543, 900, 609, 611, 613, 245, 537, 603, 740, 810, 859, 140, 1313, 538, 246, 741, 604] (by decide +kernel) (by decide +kernel) w hw).1) (by decide +kernel)
abbrev chl_54 : List Cond := [Cond.instantiable RX4 5, Cond.instantiable RX5 12, Cond.instantiable RX6 4, Cond.instantiable RX7 5, Cond.instantiable RX8 5, Cond.instantiable RX9 5, Cond.instantiable RX10 11, Cond.instantiable RX11 16, Cond.instantiable RX12 84, Cond.constant RJ2 227 (Int32.ofInt 65536), Cond.constant RJ11 110 (Int32.ofInt 55232), Cond.constant RJ11 76 (Int32.ofInt 56320), Cond.constant RJ6 265 (Int32.ofInt 1431655765), Cond.constant RJ6 266 (Int32.ofInt 858993459), Cond.constant RJ6 267 (Int32.ofInt 252645135), Cond.constantLong RX9 45 (Int64.ofInt 64), Cond.constantLong RX9 80 (Int64.ofInt 10), Cond.constantLong RL 13 (Int64.ofInt 4294967295), Cond.instanceMethod Lib.objectInit, Cond.code Lib.objectInit ⟨#[0xb1]⟩ 1 none, Cond.arrayClass .int, Cond.arrayClass .byte, Cond.arrayClass .long, Cond.native arraycopyName, Cond.static arraycopyName]
theorem ch_54 : ∀ w ∈ chl_54, w ∈ am_ws := am_ins (fun w hw => (goodIn_r chl_54 [357, 240, 1183, 860, 811, 149, 311, 141, 1314, 503, 528, 532, 1251, 1252, 1253, 209, 462, 1932, 146, 147, 237, 236, 238, 904, 903] (by decide +kernel) (by decide +kernel) w hw).1) (by decide +kernel)
abbrev chl_55 : List Cond := [Cond.initialized RJ10, Cond.static yJ9_max_7cf53, Cond.static yJ9_min_7cf53, Cond.initialized RJ9, Cond.code yJ9_max_7cf53 cJ9_max_7cf53 2 (some .int), Cond.code yJ9_min_7cf53 cJ9_min_7cf53 2 (some .int)]
theorem ch_55 : ∀ w ∈ chl_55, w ∈ am_ws := am_ins (fun w hw => (goodIn_r chl_55 [137, 252, 493, 126, 253, 494] (by decide +kernel) (by decide +kernel) w hw).1) (by decide +kernel)
/-! ===== methods and their words ===== -/
abbrev bX0_init : BT := (yX0_init, cX0_init, 1, none)
theorem okX0_init : mI bX0_init 0 := ⟨⟨(ch_0 _ (List.mem_of_getElem? (i := 0) rfl)), (ch_0 _ (List.mem_of_getElem? (i := 1) rfl)), ⟨kh_RX0.1, kh_RX0.2.1, by decide +kernel⟩, by decide, kh_RX0.2.2⟩, (ch_0 _ (List.mem_of_getElem? (i := 2) rfl)), rfl, rfl⟩
abbrev bX0_keepEnum : BT := (yX0_keepEnum, cX0_keepEnum, 2, none)
theorem okX0_keepEnum : mV bX0_keepEnum 1 := ⟨⟨(ch_0 _ (List.mem_of_getElem? (i := 3) rfl)), (ch_0 _ (List.mem_of_getElem? (i := 1) rfl)), ⟨kh_RX0.1, kh_RX0.2.1, by decide +kernel⟩, by decide, kh_RX0.2.2⟩, (ch_0 _ (List.mem_of_getElem? (i := 4) rfl)), (ch_0 _ (List.mem_of_getElem? (i := 5) rfl))⟩
abbrev bX0_settle : BT := (yX0_settle, cX0_settle, 2, none)
theorem okX0_settle : mV bX0_settle 1 := ⟨⟨(ch_0 _ (List.mem_of_getElem? (i := 6) rfl)), (ch_0 _ (List.mem_of_getElem? (i := 1) rfl)), ⟨kh_RX0.1, kh_RX0.2.1, by decide +kernel⟩, by decide, kh_RX0.2.2⟩, (ch_0 _ (List.mem_of_getElem? (i := 7) rfl)), (ch_0 _ (List.mem_of_getElem? (i := 8) rfl))⟩
abbrev bX0_enumAt : BT := (yX0_enumAt, cX0_enumAt, 2, (some (.object "SignalBook$Enumeration")))
theorem okX0_enumAt : mV bX0_enumAt 1 := ⟨⟨(ch_0 _ (List.mem_of_getElem? (i := 9) rfl)), (ch_0 _ (List.mem_of_getElem? (i := 1) rfl)), ⟨kh_RX0.1, kh_RX0.2.1, by decide +kernel⟩, by decide, kh_RX0.2.2⟩, (ch_0 _ (List.mem_of_getElem? (i := 10) rfl)), (ch_0 _ (List.mem_of_getElem? (i := 11) rfl))⟩
abbrev bX0_findEnum : BT := (yX0_findEnum, cX0_findEnum, 4, (some .int))
theorem okX0_findEnum : mV bX0_findEnum 1 := ⟨⟨(ch_0 _ (List.mem_of_getElem? (i := 12) rfl)), (ch_0 _ (List.mem_of_getElem? (i := 1) rfl)), ⟨kh_RX0.1, kh_RX0.2.1, by decide +kernel⟩, by decide, kh_RX0.2.2⟩, (ch_0 _ (List.mem_of_getElem? (i := 13) rfl)), (ch_0 _ (List.mem_of_getElem? (i := 14) rfl))⟩
abbrev bX0_isHolder : BT := (yX0_isHolder, cX0_isHolder, 1, (some .boolean))
theorem okX0_isHolder : mS bX0_isHolder 1 := ⟨⟨(ch_0 _ (List.mem_of_getElem? (i := 15) rfl)), (ch_0 _ (List.mem_of_getElem? (i := 1) rfl)), ⟨kh_RX0.1, kh_RX0.2.1, by decide +kernel⟩, by decide, kh_RX0.2.2⟩, (ch_0 _ (List.mem_of_getElem? (i := 16) rfl))⟩
abbrev bX0_enumOfItem : BT := (yX0_enumOfItem, cX0_enumOfItem, 1, (some .int))
theorem okX0_enumOfItem : mS bX0_enumOfItem 1 := ⟨⟨(ch_0 _ (List.mem_of_getElem? (i := 17) rfl)), (ch_0 _ (List.mem_of_getElem? (i := 1) rfl)), ⟨kh_RX0.1, kh_RX0.2.1, by decide +kernel⟩, by decide, kh_RX0.2.2⟩, (ch_0 _ (List.mem_of_getElem? (i := 18) rfl))⟩
abbrev bX0_holderOfItem : BT := (yX0_holderOfItem, cX0_holderOfItem, 1, (some .int))
theorem okX0_holderOfItem : mS bX0_holderOfItem 1 := ⟨⟨(ch_0 _ (List.mem_of_getElem? (i := 19) rfl)), (ch_0 _ (List.mem_of_getElem? (i := 1) rfl)), ⟨kh_RX0.1, kh_RX0.2.1, by decide +kernel⟩, by decide, kh_RX0.2.2⟩, (ch_0 _ (List.mem_of_getElem? (i := 20) rfl))⟩
abbrev bX0_hasItem : BT := (yX0_hasItem, cX0_hasItem, 3, (some .boolean))
theorem okX0_hasItem : mV bX0_hasItem 1 := ⟨⟨(ch_0 _ (List.mem_of_getElem? (i := 21) rfl)), (ch_0 _ (List.mem_of_getElem? (i := 1) rfl)), ⟨kh_RX0.1, kh_RX0.2.1, by decide +kernel⟩, by decide, kh_RX0.2.2⟩, (ch_0 _ (List.mem_of_getElem? (i := 22) rfl)), (ch_0 _ (List.mem_of_getElem? (i := 23) rfl))⟩
abbrev bX0_stateOf : BT := (yX0_stateOf, cX0_stateOf, 2, (some .int))
theorem okX0_stateOf : mV bX0_stateOf 1 := ⟨⟨(ch_0 _ (List.mem_of_getElem? (i := 24) rfl)), (ch_0 _ (List.mem_of_getElem? (i := 1) rfl)), ⟨kh_RX0.1, kh_RX0.2.1, by decide +kernel⟩, by decide, kh_RX0.2.2⟩, (ch_1 _ (List.mem_of_getElem? (i := 0) rfl)), (ch_1 _ (List.mem_of_getElem? (i := 1) rfl))⟩
abbrev bX0_setState : BT := (yX0_setState, cX0_setState, 3, none)
theorem okX0_setState : mV bX0_setState 2 := ⟨⟨(ch_1 _ (List.mem_of_getElem? (i := 2) rfl)), (ch_0 _ (List.mem_of_getElem? (i := 1) rfl)), ⟨kh_RX0.1, kh_RX0.2.1, by decide +kernel⟩, by decide, kh_RX0.2.2⟩, (ch_1 _ (List.mem_of_getElem? (i := 3) rfl)), (ch_1 _ (List.mem_of_getElem? (i := 4) rfl))⟩
abbrev bX0_noteStart : BT := (yX0_noteStart, cX0_noteStart, 2, none)
theorem okX0_noteStart : mV bX0_noteStart 1 := ⟨⟨(ch_1 _ (List.mem_of_getElem? (i := 5) rfl)), (ch_0 _ (List.mem_of_getElem? (i := 1) rfl)), ⟨kh_RX0.1, kh_RX0.2.1, by decide +kernel⟩, by decide, kh_RX0.2.2⟩, (ch_1 _ (List.mem_of_getElem? (i := 6) rfl)), (ch_1 _ (List.mem_of_getElem? (i := 7) rfl))⟩
abbrev bX0_noteSeen : BT := (yX0_noteSeen, cX0_noteSeen, 3, none)
theorem okX0_noteSeen : mV bX0_noteSeen 2 := ⟨⟨(ch_1 _ (List.mem_of_getElem? (i := 8) rfl)), (ch_0 _ (List.mem_of_getElem? (i := 1) rfl)), ⟨kh_RX0.1, kh_RX0.2.1, by decide +kernel⟩, by decide, kh_RX0.2.2⟩, (ch_1 _ (List.mem_of_getElem? (i := 9) rfl)), (ch_1 _ (List.mem_of_getElem? (i := 10) rfl))⟩
abbrev bX0_linkNames : BT := (yX0_linkNames, cX0_linkNames, 6, (some .int))
theorem okX0_linkNames : mV bX0_linkNames 1 := ⟨⟨(ch_1 _ (List.mem_of_getElem? (i := 11) rfl)), (ch_0 _ (List.mem_of_getElem? (i := 1) rfl)), ⟨kh_RX0.1, kh_RX0.2.1, by decide +kernel⟩, by decide, kh_RX0.2.2⟩, (ch_1 _ (List.mem_of_getElem? (i := 12) rfl)), (ch_1 _ (List.mem_of_getElem? (i := 13) rfl))⟩
abbrev bX0_linkStep : BT := (yX0_linkStep, cX0_linkStep, 8, (some .int))
theorem okX0_linkStep : mV bX0_linkStep 3 := ⟨⟨(ch_1 _ (List.mem_of_getElem? (i := 14) rfl)), (ch_0 _ (List.mem_of_getElem? (i := 1) rfl)), ⟨kh_RX0.1, kh_RX0.2.1, by decide +kernel⟩, by decide, kh_RX0.2.2⟩, (ch_1 _ (List.mem_of_getElem? (i := 15) rfl)), (ch_1 _ (List.mem_of_getElem? (i := 16) rfl))⟩
abbrev bX0_linkTo : BT := (yX0_linkTo, cX0_linkTo, 9, (some .boolean))
theorem okX0_linkTo : mV bX0_linkTo 3 := ⟨⟨(ch_1 _ (List.mem_of_getElem? (i := 17) rfl)), (ch_0 _ (List.mem_of_getElem? (i := 1) rfl)), ⟨kh_RX0.1, kh_RX0.2.1, by decide +kernel⟩, by decide, kh_RX0.2.2⟩, (ch_1 _ (List.mem_of_getElem? (i := 18) rfl)), (ch_1 _ (List.mem_of_getElem? (i := 19) rfl))⟩
abbrev bX0_relink : BT := (yX0_relink, cX0_relink, 4, (some .int))
theorem okX0_relink : mV bX0_relink 3 := ⟨⟨(ch_1 _ (List.mem_of_getElem? (i := 20) rfl)), (ch_0 _ (List.mem_of_getElem? (i := 1) rfl)), ⟨kh_RX0.1, kh_RX0.2.1, by decide +kernel⟩, by decide, kh_RX0.2.2⟩, (ch_1 _ (List.mem_of_getElem? (i := 21) rfl)), (ch_1 _ (List.mem_of_getElem? (i := 22) rfl))⟩
abbrev bX1_init : BT := (yX1_init, cX1_init, 2, none)
theorem okX1_init : mI bX1_init 1 := ⟨⟨(ch_1 _ (List.mem_of_getElem? (i := 23) rfl)), (ch_1 _ (List.mem_of_getElem? (i := 24) rfl)), ⟨kh_RX1.1, kh_RX1.2.1, by decide +kernel⟩, by decide, kh_RX1.2.2⟩, (ch_2 _ (List.mem_of_getElem? (i := 0) rfl)), rfl, rfl⟩
abbrev bX1_ofSum : BT := (yX1_ofSum, cX1_ofSum, 1, (some .int))
theorem okX1_ofSum : mS bX1_ofSum 1 := ⟨⟨(ch_2 _ (List.mem_of_getElem? (i := 1) rfl)), (ch_1 _ (List.mem_of_getElem? (i := 24) rfl)), ⟨kh_RX1.1, kh_RX1.2.1, by decide +kernel⟩, by decide, kh_RX1.2.2⟩, (ch_2 _ (List.mem_of_getElem? (i := 2) rfl))⟩
abbrev bX1_ofProduct : BT := (yX1_ofProduct, cX1_ofProduct, 1, (some .int))
theorem okX1_ofProduct : mS bX1_ofProduct 1 := ⟨⟨(ch_2 _ (List.mem_of_getElem? (i := 3) rfl)), (ch_1 _ (List.mem_of_getElem? (i := 24) rfl)), ⟨kh_RX1.1, kh_RX1.2.1, by decide +kernel⟩, by decide, kh_RX1.2.2⟩, (ch_2 _ (List.mem_of_getElem? (i := 4) rfl))⟩
abbrev bX1_emit : BT := (yX1_emit, cX1_emit, 3, none)
theorem okX1_emit : mV bX1_emit 2 := ⟨⟨(ch_2 _ (List.mem_of_getElem? (i := 5) rfl)), (ch_1 _ (List.mem_of_getElem? (i := 24) rfl)), ⟨kh_RX1.1, kh_RX1.2.1, by decide +kernel⟩, by decide, kh_RX1.2.2⟩, (ch_2 _ (List.mem_of_getElem? (i := 6) rfl)), (ch_2 _ (List.mem_of_getElem? (i := 7) rfl))⟩
abbrev bX1_copy : BT := (yX1_copy, cX1_copy, 2, (some (.object "SignalBook$Code")))
theorem okX1_copy : mV bX1_copy 0 := ⟨⟨(ch_2 _ (List.mem_of_getElem? (i := 8) rfl)), (ch_1 _ (List.mem_of_getElem? (i := 24) rfl)), ⟨kh_RX1.1, kh_RX1.2.1, by decide +kernel⟩, by decide, kh_RX1.2.2⟩, (ch_2 _ (List.mem_of_getElem? (i := 9) rfl)), (ch_2 _ (List.mem_of_getElem? (i := 10) rfl))⟩
abbrev bX2_init : BT := (yX2_init, cX2_init, 3, none)
theorem okX2_init : mI bX2_init 1 := ⟨⟨(ch_2 _ (List.mem_of_getElem? (i := 11) rfl)), (ch_2 _ (List.mem_of_getElem? (i := 12) rfl)), ⟨kh_RX2.1, kh_RX2.2.1, by decide +kernel⟩, by decide, kh_RX2.2.2⟩, (ch_2 _ (List.mem_of_getElem? (i := 13) rfl)), rfl, rfl⟩
abbrev bX3_init : BT := (yX3_init, cX3_init, 3, none)
theorem okX3_init : mI bX3_init 1 := ⟨⟨(ch_2 _ (List.mem_of_getElem? (i := 14) rfl)), (ch_2 _ (List.mem_of_getElem? (i := 15) rfl)), ⟨kh_RX3.1, kh_RX3.2.1, by decide +kernel⟩, by decide, kh_RX3.2.2⟩, (ch_2 _ (List.mem_of_getElem? (i := 16) rfl)), rfl, rfl⟩
abbrev bX3_constantAt : BT := (yX3_constantAt, cX3_constantAt, 2, (some (.object "SignalBook$Constant")))
theorem okX3_constantAt : mV bX3_constantAt 1 := ⟨⟨(ch_2 _ (List.mem_of_getElem? (i := 17) rfl)), (ch_2 _ (List.mem_of_getElem? (i := 15) rfl)), ⟨kh_RX3.1, kh_RX3.2.1, by decide +kernel⟩, by decide, kh_RX3.2.2⟩, (ch_2 _ (List.mem_of_getElem? (i := 18) rfl)), (ch_2 _ (List.mem_of_getElem? (i := 19) rfl))⟩
abbrev bX3_tableAt : BT := (yX3_tableAt, cX3_tableAt, 2, (some (.object "SignalBook$Table")))
theorem okX3_tableAt : mV bX3_tableAt 1 := ⟨⟨(ch_2 _ (List.mem_of_getElem? (i := 20) rfl)), (ch_2 _ (List.mem_of_getElem? (i := 15) rfl)), ⟨kh_RX3.1, kh_RX3.2.1, by decide +kernel⟩, by decide, kh_RX3.2.2⟩, (ch_2 _ (List.mem_of_getElem? (i := 21) rfl)), (ch_2 _ (List.mem_of_getElem? (i := 22) rfl))⟩
abbrev bX3_switchAt : BT := (yX3_switchAt, cX3_switchAt, 2, (some (.object "SignalBook$Switch")))
theorem okX3_switchAt : mV bX3_switchAt 1 := ⟨⟨(ch_2 _ (List.mem_of_getElem? (i := 23) rfl)), (ch_2 _ (List.mem_of_getElem? (i := 15) rfl)), ⟨kh_RX3.1, kh_RX3.2.1, by decide +kernel⟩, by decide, kh_RX3.2.2⟩, (ch_2 _ (List.mem_of_getElem? (i := 24) rfl)), (ch_3 _ (List.mem_of_getElem? (i := 0) rfl))⟩
abbrev bX3_findConstant : BT := (yX3_findConstant, cX3_findConstant, 4, (some .int))
theorem okX3_findConstant : mV bX3_findConstant 1 := ⟨⟨(ch_3 _ (List.mem_of_getElem? (i := 1) rfl)), (ch_2 _ (List.mem_of_getElem? (i := 15) rfl)), ⟨kh_RX3.1, kh_RX3.2.1, by decide +kernel⟩, by decide, kh_RX3.2.2⟩, (ch_3 _ (List.mem_of_getElem? (i := 2) rfl)), (ch_3 _ (List.mem_of_getElem? (i := 3) rfl))⟩
abbrev bX3_findTable : BT := (yX3_findTable, cX3_findTable, 4, (some .int))
theorem okX3_findTable : mV bX3_findTable 1 := ⟨⟨(ch_3 _ (List.mem_of_getElem? (i := 4) rfl)), (ch_2 _ (List.mem_of_getElem? (i := 15) rfl)), ⟨kh_RX3.1, kh_RX3.2.1, by decide +kernel⟩, by decide, kh_RX3.2.2⟩, (ch_3 _ (List.mem_of_getElem? (i := 5) rfl)), (ch_3 _ (List.mem_of_getElem? (i := 6) rfl))⟩
abbrev bX3_findHolder : BT := (yX3_findHolder, cX3_findHolder, 4, (some .int))
theorem okX3_findHolder : mV bX3_findHolder 1 := ⟨⟨(ch_3 _ (List.mem_of_getElem? (i := 7) rfl)), (ch_2 _ (List.mem_of_getElem? (i := 15) rfl)), ⟨kh_RX3.1, kh_RX3.2.1, by decide +kernel⟩, by decide, kh_RX3.2.2⟩, (ch_3 _ (List.mem_of_getElem? (i := 8) rfl)), (ch_3 _ (List.mem_of_getElem? (i := 9) rfl))⟩
abbrev bX3_findSwitch : BT := (yX3_findSwitch, cX3_findSwitch, 4, (some .int))
theorem okX3_findSwitch : mV bX3_findSwitch 1 := ⟨⟨(ch_3 _ (List.mem_of_getElem? (i := 10) rfl)), (ch_2 _ (List.mem_of_getElem? (i := 15) rfl)), ⟨kh_RX3.1, kh_RX3.2.1, by decide +kernel⟩, by decide, kh_RX3.2.2⟩, (ch_3 _ (List.mem_of_getElem? (i := 11) rfl)), (ch_3 _ (List.mem_of_getElem? (i := 12) rfl))⟩
abbrev bX3_knows : BT := (yX3_knows, cX3_knows, 3, (some .boolean))
theorem okX3_knows : mV bX3_knows 1 := ⟨⟨(ch_3 _ (List.mem_of_getElem? (i := 13) rfl)), (ch_2 _ (List.mem_of_getElem? (i := 15) rfl)), ⟨kh_RX3.1, kh_RX3.2.1, by decide +kernel⟩, by decide, kh_RX3.2.2⟩, (ch_3 _ (List.mem_of_getElem? (i := 14) rfl)), (ch_3 _ (List.mem_of_getElem? (i := 15) rfl))⟩
abbrev bX4_init : BT := (yX4_init, cX4_init, 1, none)
theorem okX4_init : mI bX4_init 0 := ⟨⟨(ch_3 _ (List.mem_of_getElem? (i := 16) rfl)), (ch_3 _ (List.mem_of_getElem? (i := 17) rfl)), ⟨kh_RX4.1, kh_RX4.2.1, by decide +kernel⟩, by decide, kh_RX4.2.2⟩, (ch_3 _ (List.mem_of_getElem? (i := 18) rfl)), rfl, rfl⟩
abbrev bX4_readFrom : BT := (yX4_readFrom, cX4_readFrom, 6, (some .int))
theorem okX4_readFrom : mV bX4_readFrom 2 := ⟨⟨(ch_3 _ (List.mem_of_getElem? (i := 19) rfl)), (ch_3 _ (List.mem_of_getElem? (i := 17) rfl)), ⟨kh_RX4.1, kh_RX4.2.1, by decide +kernel⟩, by decide, kh_RX4.2.2⟩, (ch_3 _ (List.mem_of_getElem? (i := 20) rfl)), (ch_3 _ (List.mem_of_getElem? (i := 21) rfl))⟩
abbrev bX4_keepSignal : BT := (yX4_keepSignal, cX4_keepSignal, 7, (some .boolean))
theorem okX4_keepSignal : mV bX4_keepSignal 2 := ⟨⟨(ch_3 _ (List.mem_of_getElem? (i := 22) rfl)), (ch_3 _ (List.mem_of_getElem? (i := 17) rfl)), ⟨kh_RX4.1, kh_RX4.2.1, by decide +kernel⟩, by decide, kh_RX4.2.2⟩, (ch_3 _ (List.mem_of_getElem? (i := 23) rfl)), (ch_3 _ (List.mem_of_getElem? (i := 24) rfl))⟩
abbrev bX5_init : BT := (yX5_init, cX5_init, 2, none)
theorem okX5_init : mI bX5_init 1 := ⟨⟨(ch_4 _ (List.mem_of_getElem? (i := 0) rfl)), (ch_4 _ (List.mem_of_getElem? (i := 1) rfl)), ⟨kh_RX5.1, kh_RX5.2.1, by decide +kernel⟩, by decide, kh_RX5.2.2⟩, (ch_4 _ (List.mem_of_getElem? (i := 2) rfl)), rfl, rfl⟩
abbrev bX5_readBook : BT := (yX5_readBook, cX5_readBook, 3, (some (.object "SignalBook$Book")))
theorem okX5_readBook : mV bX5_readBook 0 := ⟨⟨(ch_4 _ (List.mem_of_getElem? (i := 3) rfl)), (ch_4 _ (List.mem_of_getElem? (i := 1) rfl)), ⟨kh_RX5.1, kh_RX5.2.1, by decide +kernel⟩, by decide, kh_RX5.2.2⟩, (ch_4 _ (List.mem_of_getElem? (i := 4) rfl)), (ch_4 _ (List.mem_of_getElem? (i := 5) rfl))⟩
abbrev bX5_readHead : BT := (yX5_readHead, cX5_readHead, 2, (some .boolean))
theorem okX5_readHead : mV bX5_readHead 0 := ⟨⟨(ch_4 _ (List.mem_of_getElem? (i := 6) rfl)), (ch_4 _ (List.mem_of_getElem? (i := 1) rfl)), ⟨kh_RX5.1, kh_RX5.2.1, by decide +kernel⟩, by decide, kh_RX5.2.2⟩, (ch_4 _ (List.mem_of_getElem? (i := 7) rfl)), (ch_4 _ (List.mem_of_getElem? (i := 8) rfl))⟩
abbrev bX5_readConstants : BT := (yX5_readConstants, cX5_readConstants, 3, (some .boolean))
theorem okX5_readConstants : mV bX5_readConstants 0 := ⟨⟨(ch_4 _ (List.mem_of_getElem? (i := 9) rfl)), (ch_4 _ (List.mem_of_getElem? (i := 1) rfl)), ⟨kh_RX5.1, kh_RX5.2.1, by decide +kernel⟩, by decide, kh_RX5.2.2⟩, (ch_4 _ (List.mem_of_getElem? (i := 10) rfl)), (ch_4 _ (List.mem_of_getElem? (i := 11) rfl))⟩
abbrev bX5_readConstant : BT := (yX5_readConstant, cX5_readConstant, 4, (some .boolean))
theorem okX5_readConstant : mV bX5_readConstant 0 := ⟨⟨(ch_4 _ (List.mem_of_getElem? (i := 12) rfl)), (ch_4 _ (List.mem_of_getElem? (i := 1) rfl)), ⟨kh_RX5.1, kh_RX5.2.1, by decide +kernel⟩, by decide, kh_RX5.2.2⟩, (ch_4 _ (List.mem_of_getElem? (i := 13) rfl)), (ch_4 _ (List.mem_of_getElem? (i := 14) rfl))⟩
abbrev bX5_readAct : BT := (yX5_readAct, cX5_readAct, 5, (some .boolean))
theorem okX5_readAct : mV bX5_readAct 2 := ⟨⟨(ch_4 _ (List.mem_of_getElem? (i := 15) rfl)), (ch_4 _ (List.mem_of_getElem? (i := 1) rfl)), ⟨kh_RX5.1, kh_RX5.2.1, by decide +kernel⟩, by decide, kh_RX5.2.2⟩, (ch_4 _ (List.mem_of_getElem? (i := 16) rfl)), (ch_4 _ (List.mem_of_getElem? (i := 17) rfl))⟩
abbrev bX5_findAct : BT := (yX5_findAct, cX5_findAct, 4, (some .int))
theorem okX5_findAct : mV bX5_findAct 1 := ⟨⟨(ch_4 _ (List.mem_of_getElem? (i := 18) rfl)), (ch_4 _ (List.mem_of_getElem? (i := 1) rfl)), ⟨kh_RX5.1, kh_RX5.2.1, by decide +kernel⟩, by decide, kh_RX5.2.2⟩, (ch_4 _ (List.mem_of_getElem? (i := 19) rfl)), (ch_4 _ (List.mem_of_getElem? (i := 20) rfl))⟩
abbrev bX5_readMembers : BT := (yX5_readMembers, cX5_readMembers, 3, (some .boolean))
theorem okX5_readMembers : mV bX5_readMembers 0 := ⟨⟨(ch_4 _ (List.mem_of_getElem? (i := 21) rfl)), (ch_4 _ (List.mem_of_getElem? (i := 1) rfl)), ⟨kh_RX5.1, kh_RX5.2.1, by decide +kernel⟩, by decide, kh_RX5.2.2⟩, (ch_4 _ (List.mem_of_getElem? (i := 22) rfl)), (ch_4 _ (List.mem_of_getElem? (i := 23) rfl))⟩
abbrev bX5_readTable : BT := (yX5_readTable, cX5_readTable, 2, (some .boolean))
theorem okX5_readTable : mV bX5_readTable 0 := ⟨⟨(ch_4 _ (List.mem_of_getElem? (i := 24) rfl)), (ch_4 _ (List.mem_of_getElem? (i := 1) rfl)), ⟨kh_RX5.1, kh_RX5.2.1, by decide +kernel⟩, by decide, kh_RX5.2.2⟩, (ch_5 _ (List.mem_of_getElem? (i := 0) rfl)), (ch_5 _ (List.mem_of_getElem? (i := 1) rfl))⟩
abbrev bX5_readEntries : BT := (yX5_readEntries, cX5_readEntries, 3, (some .boolean))
theorem okX5_readEntries : mV bX5_readEntries 1 := ⟨⟨(ch_5 _ (List.mem_of_getElem? (i := 2) rfl)), (ch_4 _ (List.mem_of_getElem? (i := 1) rfl)), ⟨kh_RX5.1, kh_RX5.2.1, by decide +kernel⟩, by decide, kh_RX5.2.2⟩, (ch_5 _ (List.mem_of_getElem? (i := 3) rfl)), (ch_5 _ (List.mem_of_getElem? (i := 4) rfl))⟩
abbrev bX5_beginsPlainExpr : BT := (yX5_beginsPlainExpr, cX5_beginsPlainExpr, 1, (some .boolean))
theorem okX5_beginsPlainExpr : mV bX5_beginsPlainExpr 0 := ⟨⟨(ch_5 _ (List.mem_of_getElem? (i := 5) rfl)), (ch_4 _ (List.mem_of_getElem? (i := 1) rfl)), ⟨kh_RX5.1, kh_RX5.2.1, by decide +kernel⟩, by decide, kh_RX5.2.2⟩, (ch_5 _ (List.mem_of_getElem? (i := 6) rfl)), (ch_5 _ (List.mem_of_getElem? (i := 7) rfl))⟩
abbrev bX5_readCheck : BT := (yX5_readCheck, cX5_readCheck, 1, (some .boolean))
theorem okX5_readCheck : mV bX5_readCheck 0 := ⟨⟨(ch_5 _ (List.mem_of_getElem? (i := 8) rfl)), (ch_4 _ (List.mem_of_getElem? (i := 1) rfl)), ⟨kh_RX5.1, kh_RX5.2.1, by decide +kernel⟩, by decide, kh_RX5.2.2⟩, (ch_5 _ (List.mem_of_getElem? (i := 9) rfl)), (ch_5 _ (List.mem_of_getElem? (i := 10) rfl))⟩
abbrev bX5_readHolder : BT := (yX5_readHolder, cX5_readHolder, 1, (some .boolean))
theorem okX5_readHolder : mV bX5_readHolder 0 := ⟨⟨(ch_5 _ (List.mem_of_getElem? (i := 11) rfl)), (ch_4 _ (List.mem_of_getElem? (i := 1) rfl)), ⟨kh_RX5.1, kh_RX5.2.1, by decide +kernel⟩, by decide, kh_RX5.2.2⟩, (ch_5 _ (List.mem_of_getElem? (i := 12) rfl)), (ch_5 _ (List.mem_of_getElem? (i := 13) rfl))⟩
abbrev bX5_readSwitch : BT := (yX5_readSwitch, cX5_readSwitch, 4, (some .boolean))
theorem okX5_readSwitch : mV bX5_readSwitch 0 := ⟨⟨(ch_5 _ (List.mem_of_getElem? (i := 14) rfl)), (ch_4 _ (List.mem_of_getElem? (i := 1) rfl)), ⟨kh_RX5.1, kh_RX5.2.1, by decide +kernel⟩, by decide, kh_RX5.2.2⟩, (ch_5 _ (List.mem_of_getElem? (i := 15) rfl)), (ch_5 _ (List.mem_of_getElem? (i := 16) rfl))⟩
abbrev bX5_readCase : BT := (yX5_readCase, cX5_readCase, 3, (some .boolean))
theorem okX5_readCase : mV bX5_readCase 1 := ⟨⟨(ch_5 _ (List.mem_of_getElem? (i := 17) rfl)), (ch_4 _ (List.mem_of_getElem? (i := 1) rfl)), ⟨kh_RX5.1, kh_RX5.2.1, by decide +kernel⟩, by decide, kh_RX5.2.2⟩, (ch_5 _ (List.mem_of_getElem? (i := 18) rfl)), (ch_5 _ (List.mem_of_getElem? (i := 19) rfl))⟩
abbrev bX5_readSum : BT := (yX5_readSum, cX5_readSum, 6, (some .boolean))
theorem okX5_readSum : mV bX5_readSum 1 := ⟨⟨(ch_5 _ (List.mem_of_getElem? (i := 20) rfl)), (ch_4 _ (List.mem_of_getElem? (i := 1) rfl)), ⟨kh_RX5.1, kh_RX5.2.1, by decide +kernel⟩, by decide, kh_RX5.2.2⟩, (ch_5 _ (List.mem_of_getElem? (i := 21) rfl)), (ch_5 _ (List.mem_of_getElem? (i := 22) rfl))⟩
abbrev bX5_readFactor : BT := (yX5_readFactor, cX5_readFactor, 3, (some .boolean))
theorem okX5_readFactor : mV bX5_readFactor 1 := ⟨⟨(ch_5 _ (List.mem_of_getElem? (i := 23) rfl)), (ch_4 _ (List.mem_of_getElem? (i := 1) rfl)), ⟨kh_RX5.1, kh_RX5.2.1, by decide +kernel⟩, by decide, kh_RX5.2.2⟩, (ch_5 _ (List.mem_of_getElem? (i := 24) rfl)), (ch_6 _ (List.mem_of_getElem? (i := 0) rfl))⟩
abbrev bX5_readReference : BT := (yX5_readReference, cX5_readReference, 3, (some .boolean))
theorem okX5_readReference : mV bX5_readReference 1 := ⟨⟨(ch_6 _ (List.mem_of_getElem? (i := 1) rfl)), (ch_4 _ (List.mem_of_getElem? (i := 1) rfl)), ⟨kh_RX5.1, kh_RX5.2.1, by decide +kernel⟩, by decide, kh_RX5.2.2⟩, (ch_6 _ (List.mem_of_getElem? (i := 2) rfl)), (ch_6 _ (List.mem_of_getElem? (i := 3) rfl))⟩
abbrev bX5_accept : BT := (yX5_accept, cX5_accept, 2, (some .boolean))
theorem okX5_accept : mV bX5_accept 1 := ⟨⟨(ch_6 _ (List.mem_of_getElem? (i := 4) rfl)), (ch_4 _ (List.mem_of_getElem? (i := 1) rfl)), ⟨kh_RX5.1, kh_RX5.2.1, by decide +kernel⟩, by decide, kh_RX5.2.2⟩, (ch_6 _ (List.mem_of_getElem? (i := 5) rfl)), (ch_6 _ (List.mem_of_getElem? (i := 6) rfl))⟩
abbrev bX5_acceptNew : BT := (yX5_acceptNew, cX5_acceptNew, 3, (some .boolean))
theorem okX5_acceptNew : mV bX5_acceptNew 2 := ⟨⟨(ch_6 _ (List.mem_of_getElem? (i := 7) rfl)), (ch_4 _ (List.mem_of_getElem? (i := 1) rfl)), ⟨kh_RX5.1, kh_RX5.2.1, by decide +kernel⟩, by decide, kh_RX5.2.2⟩, (ch_6 _ (List.mem_of_getElem? (i := 8) rfl)), (ch_6 _ (List.mem_of_getElem? (i := 9) rfl))⟩
abbrev bX5_acceptMember : BT := (yX5_acceptMember, cX5_acceptMember, 2, (some .boolean))
theorem okX5_acceptMember : mV bX5_acceptMember 1 := ⟨⟨(ch_6 _ (List.mem_of_getElem? (i := 10) rfl)), (ch_4 _ (List.mem_of_getElem? (i := 1) rfl)), ⟨kh_RX5.1, kh_RX5.2.1, by decide +kernel⟩, by decide, kh_RX5.2.2⟩, (ch_6 _ (List.mem_of_getElem? (i := 11) rfl)), (ch_6 _ (List.mem_of_getElem? (i := 12) rfl))⟩
abbrev bX5_pass : BT := (yX5_pass, cX5_pass, 3, (some .boolean))
theorem okX5_pass : mV bX5_pass 2 := ⟨⟨(ch_6 _ (List.mem_of_getElem? (i := 13) rfl)), (ch_4 _ (List.mem_of_getElem? (i := 1) rfl)), ⟨kh_RX5.1, kh_RX5.2.1, by decide +kernel⟩, by decide, kh_RX5.2.2⟩, (ch_6 _ (List.mem_of_getElem? (i := 14) rfl)), (ch_6 _ (List.mem_of_getElem? (i := 15) rfl))⟩
abbrev bX6_init : BT := (yX6_init, cX6_init, 4, none)
theorem okX6_init : mI bX6_init 3 := ⟨⟨(ch_6 _ (List.mem_of_getElem? (i := 16) rfl)), (ch_6 _ (List.mem_of_getElem? (i := 17) rfl)), ⟨kh_RX6.1, kh_RX6.2.1, by decide +kernel⟩, by decide, kh_RX6.2.2⟩, (ch_6 _ (List.mem_of_getElem? (i := 18) rfl)), rfl, rfl⟩
abbrev bX6_contains : BT := (yX6_contains, cX6_contains, 2, (some .boolean))
theorem okX6_contains : mV bX6_contains 1 := ⟨⟨(ch_6 _ (List.mem_of_getElem? (i := 19) rfl)), (ch_6 _ (List.mem_of_getElem? (i := 17) rfl)), ⟨kh_RX6.1, kh_RX6.2.1, by decide +kernel⟩, by decide, kh_RX6.2.2⟩, (ch_6 _ (List.mem_of_getElem? (i := 20) rfl)), (ch_6 _ (List.mem_of_getElem? (i := 21) rfl))⟩
abbrev bX6_include : BT := (yX6_include, cX6_include, 3, (some .boolean))
theorem okX6_include : mV bX6_include 1 := ⟨⟨(ch_6 _ (List.mem_of_getElem? (i := 22) rfl)), (ch_6 _ (List.mem_of_getElem? (i := 17) rfl)), ⟨kh_RX6.1, kh_RX6.2.1, by decide +kernel⟩, by decide, kh_RX6.2.2⟩, (ch_6 _ (List.mem_of_getElem? (i := 23) rfl)), (ch_6 _ (List.mem_of_getElem? (i := 24) rfl))⟩
abbrev bX6_exclude : BT := (yX6_exclude, cX6_exclude, 3, (some .boolean))
theorem okX6_exclude : mV bX6_exclude 1 := ⟨⟨(ch_7 _ (List.mem_of_getElem? (i := 0) rfl)), (ch_6 _ (List.mem_of_getElem? (i := 17) rfl)), ⟨kh_RX6.1, kh_RX6.2.1, by decide +kernel⟩, by decide, kh_RX6.2.2⟩, (ch_7 _ (List.mem_of_getElem? (i := 1) rfl)), (ch_7 _ (List.mem_of_getElem? (i := 2) rfl))⟩
abbrev bX6_ordinalAt : BT := (yX6_ordinalAt, cX6_ordinalAt, 4, (some .int))
theorem okX6_ordinalAt : mV bX6_ordinalAt 1 := ⟨⟨(ch_7 _ (List.mem_of_getElem? (i := 3) rfl)), (ch_6 _ (List.mem_of_getElem? (i := 17) rfl)), ⟨kh_RX6.1, kh_RX6.2.1, by decide +kernel⟩, by decide, kh_RX6.2.2⟩, (ch_7 _ (List.mem_of_getElem? (i := 4) rfl)), (ch_7 _ (List.mem_of_getElem? (i := 5) rfl))⟩
abbrev bX7_init : BT := (yX7_init, cX7_init, 3, none)
theorem okX7_init : mI bX7_init 1 := ⟨⟨(ch_7 _ (List.mem_of_getElem? (i := 6) rfl)), (ch_7 _ (List.mem_of_getElem? (i := 7) rfl)), ⟨kh_RX7.1, kh_RX7.2.1, by decide +kernel⟩, by decide, kh_RX7.2.2⟩, (ch_7 _ (List.mem_of_getElem? (i := 8) rfl)), rfl, rfl⟩
abbrev bX7_hasCase : BT := (yX7_hasCase, cX7_hasCase, 4, (some .boolean))
theorem okX7_hasCase : mV bX7_hasCase 1 := ⟨⟨(ch_7 _ (List.mem_of_getElem? (i := 9) rfl)), (ch_7 _ (List.mem_of_getElem? (i := 7) rfl)), ⟨kh_RX7.1, kh_RX7.2.1, by decide +kernel⟩, by decide, kh_RX7.2.2⟩, (ch_7 _ (List.mem_of_getElem? (i := 10) rfl)), (ch_7 _ (List.mem_of_getElem? (i := 11) rfl))⟩
abbrev bX8_init : BT := (yX8_init, cX8_init, 3, none)
theorem okX8_init : mI bX8_init 1 := ⟨⟨(ch_7 _ (List.mem_of_getElem? (i := 12) rfl)), (ch_7 _ (List.mem_of_getElem? (i := 13) rfl)), ⟨kh_RX8.1, kh_RX8.2.1, by decide +kernel⟩, by decide, kh_RX8.2.2⟩, (ch_7 _ (List.mem_of_getElem? (i := 14) rfl)), rfl, rfl⟩
abbrev bX9_init : BT := (yX9_init, cX9_init, 6, none)
theorem okX9_init : mI bX9_init 0 := ⟨⟨(ch_7 _ (List.mem_of_getElem? (i := 15) rfl)), (ch_7 _ (List.mem_of_getElem? (i := 16) rfl)), ⟨kh_RX9.1, kh_RX9.2.1, by decide +kernel⟩, by decide, kh_RX9.2.2⟩, (ch_7 _ (List.mem_of_getElem? (i := 17) rfl)), rfl, rfl⟩
abbrev bX9_cutUp : BT := (yX9_cutUp, cX9_cutUp, 6, none)
theorem okX9_cutUp : mV bX9_cutUp 2 := ⟨⟨(ch_7 _ (List.mem_of_getElem? (i := 18) rfl)), (ch_7 _ (List.mem_of_getElem? (i := 16) rfl)), ⟨kh_RX9.1, kh_RX9.2.1, by decide +kernel⟩, by decide, kh_RX9.2.2⟩, (ch_7 _ (List.mem_of_getElem? (i := 19) rfl)), (ch_7 _ (List.mem_of_getElem? (i := 20) rfl))⟩
abbrev bX9_lengthOfName : BT := (yX9_lengthOfName, cX9_lengthOfName, 5, (some .int))
theorem okX9_lengthOfName : mS bX9_lengthOfName 1 := ⟨⟨(ch_7 _ (List.mem_of_getElem? (i := 21) rfl)), (ch_7 _ (List.mem_of_getElem? (i := 16) rfl)), ⟨kh_RX9.1, kh_RX9.2.1, by decide +kernel⟩, by decide, kh_RX9.2.2⟩, (ch_7 _ (List.mem_of_getElem? (i := 22) rfl))⟩
abbrev bX9_signOfName : BT := (yX9_signOfName, cX9_signOfName, 4, (some .int))
theorem okX9_signOfName : mS bX9_signOfName 2 := ⟨⟨(ch_7 _ (List.mem_of_getElem? (i := 23) rfl)), (ch_7 _ (List.mem_of_getElem? (i := 16) rfl)), ⟨kh_RX9.1, kh_RX9.2.1, by decide +kernel⟩, by decide, kh_RX9.2.2⟩, (ch_7 _ (List.mem_of_getElem? (i := 24) rfl))⟩
abbrev bX9_rankOf : BT := (yX9_rankOf, cX9_rankOf, 1, (some .int))
theorem okX9_rankOf : mS bX9_rankOf 1 := ⟨⟨(ch_8 _ (List.mem_of_getElem? (i := 0) rfl)), (ch_7 _ (List.mem_of_getElem? (i := 16) rfl)), ⟨kh_RX9.1, kh_RX9.2.1, by decide +kernel⟩, by decide, kh_RX9.2.2⟩, (ch_8 _ (List.mem_of_getElem? (i := 1) rfl))⟩
abbrev bX9_isDigit : BT := (yX9_isDigit, cX9_isDigit, 1, (some .boolean))
theorem okX9_isDigit : mS bX9_isDigit 1 := ⟨⟨(ch_8 _ (List.mem_of_getElem? (i := 2) rfl)), (ch_7 _ (List.mem_of_getElem? (i := 16) rfl)), ⟨kh_RX9.1, kh_RX9.2.1, by decide +kernel⟩, by decide, kh_RX9.2.2⟩, (ch_8 _ (List.mem_of_getElem? (i := 3) rfl))⟩
abbrev bX9_rowEnd : BT := (yX9_rowEnd, cX9_rowEnd, 4, (some .int))
theorem okX9_rowEnd : mS bX9_rowEnd 3 := ⟨⟨(ch_8 _ (List.mem_of_getElem? (i := 4) rfl)), (ch_7 _ (List.mem_of_getElem? (i := 16) rfl)), ⟨kh_RX9.1, kh_RX9.2.1, by decide +kernel⟩, by decide, kh_RX9.2.2⟩, (ch_8 _ (List.mem_of_getElem? (i := 5) rfl))⟩
abbrev bX9_keepRow : BT := (yX9_keepRow, cX9_keepRow, 4, none)
theorem okX9_keepRow : mV bX9_keepRow 3 := ⟨⟨(ch_8 _ (List.mem_of_getElem? (i := 6) rfl)), (ch_7 _ (List.mem_of_getElem? (i := 16) rfl)), ⟨kh_RX9.1, kh_RX9.2.1, by decide +kernel⟩, by decide, kh_RX9.2.2⟩, (ch_8 _ (List.mem_of_getElem? (i := 7) rfl)), (ch_8 _ (List.mem_of_getElem? (i := 8) rfl))⟩
abbrev bX9_keepNumber : BT := (yX9_keepNumber, cX9_keepNumber, 8, none)
theorem okX9_keepNumber : mV bX9_keepNumber 3 := ⟨⟨(ch_8 _ (List.mem_of_getElem? (i := 9) rfl)), (ch_7 _ (List.mem_of_getElem? (i := 16) rfl)), ⟨kh_RX9.1, kh_RX9.2.1, by decide +kernel⟩, by decide, kh_RX9.2.2⟩, (ch_8 _ (List.mem_of_getElem? (i := 10) rfl)), (ch_8 _ (List.mem_of_getElem? (i := 11) rfl))⟩
abbrev bX9_keepWord : BT := (yX9_keepWord, cX9_keepWord, 7, none)
theorem okX9_keepWord : mV bX9_keepWord 3 := ⟨⟨(ch_8 _ (List.mem_of_getElem? (i := 12) rfl)), (ch_7 _ (List.mem_of_getElem? (i := 16) rfl)), ⟨kh_RX9.1, kh_RX9.2.1, by decide +kernel⟩, by decide, kh_RX9.2.2⟩, (ch_8 _ (List.mem_of_getElem? (i := 13) rfl)), (ch_8 _ (List.mem_of_getElem? (i := 14) rfl))⟩
abbrev bX9_kindOfWord : BT := (yX9_kindOfWord, cX9_kindOfWord, 4, (some .int))
theorem okX9_kindOfWord : mV bX9_kindOfWord 1 := ⟨⟨(ch_8 _ (List.mem_of_getElem? (i := 15) rfl)), (ch_7 _ (List.mem_of_getElem? (i := 16) rfl)), ⟨kh_RX9.1, kh_RX9.2.1, by decide +kernel⟩, by decide, kh_RX9.2.2⟩, (ch_8 _ (List.mem_of_getElem? (i := 16) rfl)), (ch_8 _ (List.mem_of_getElem? (i := 17) rfl))⟩
abbrev bX9_keep : BT := (yX9_keep, cX9_keep, 5, none)
theorem okX9_keep : mV bX9_keep 3 := ⟨⟨(ch_8 _ (List.mem_of_getElem? (i := 18) rfl)), (ch_7 _ (List.mem_of_getElem? (i := 16) rfl)), ⟨kh_RX9.1, kh_RX9.2.1, by decide +kernel⟩, by decide, kh_RX9.2.2⟩, (ch_8 _ (List.mem_of_getElem? (i := 19) rfl)), (ch_8 _ (List.mem_of_getElem? (i := 20) rfl))⟩
abbrev bX10_init : BT := (yX10_init, cX10_init, 1, none)
theorem okX10_init : mI bX10_init 0 := ⟨⟨(ch_8 _ (List.mem_of_getElem? (i := 21) rfl)), (ch_8 _ (List.mem_of_getElem? (i := 22) rfl)), ⟨kh_RX10.1, kh_RX10.2.1, by decide +kernel⟩, by decide, kh_RX10.2.2⟩, (ch_8 _ (List.mem_of_getElem? (i := 23) rfl)), rfl, rfl⟩
abbrev bX10_beginWith : BT := (yX10_beginWith, cX10_beginWith, 3, (some .boolean))
theorem okX10_beginWith : mV bX10_beginWith 2 := ⟨⟨(ch_8 _ (List.mem_of_getElem? (i := 24) rfl)), (ch_8 _ (List.mem_of_getElem? (i := 22) rfl)), ⟨kh_RX10.1, kh_RX10.2.1, by decide +kernel⟩, by decide, kh_RX10.2.2⟩, (ch_9 _ (List.mem_of_getElem? (i := 0) rfl)), (ch_9 _ (List.mem_of_getElem? (i := 1) rfl))⟩
abbrev bX10_causeKind : BT := (yX10_causeKind, cX10_causeKind, 2, (some .int))
theorem okX10_causeKind : mV bX10_causeKind 1 := ⟨⟨(ch_9 _ (List.mem_of_getElem? (i := 2) rfl)), (ch_8 _ (List.mem_of_getElem? (i := 22) rfl)), ⟨kh_RX10.1, kh_RX10.2.1, by decide +kernel⟩, by decide, kh_RX10.2.2⟩, (ch_9 _ (List.mem_of_getElem? (i := 3) rfl)), (ch_9 _ (List.mem_of_getElem? (i := 4) rfl))⟩
abbrev bX10_causeItem : BT := (yX10_causeItem, cX10_causeItem, 2, (some .int))
theorem okX10_causeItem : mV bX10_causeItem 1 := ⟨⟨(ch_9 _ (List.mem_of_getElem? (i := 5) rfl)), (ch_8 _ (List.mem_of_getElem? (i := 22) rfl)), ⟨kh_RX10.1, kh_RX10.2.1, by decide +kernel⟩, by decide, kh_RX10.2.2⟩, (ch_9 _ (List.mem_of_getElem? (i := 6) rfl)), (ch_9 _ (List.mem_of_getElem? (i := 7) rfl))⟩
abbrev bX10_useItem : BT := (yX10_useItem, cX10_useItem, 3, none)
theorem okX10_useItem : mV bX10_useItem 1 := ⟨⟨(ch_9 _ (List.mem_of_getElem? (i := 8) rfl)), (ch_8 _ (List.mem_of_getElem? (i := 22) rfl)), ⟨kh_RX10.1, kh_RX10.2.1, by decide +kernel⟩, by decide, kh_RX10.2.2⟩, (ch_9 _ (List.mem_of_getElem? (i := 9) rfl)), (ch_9 _ (List.mem_of_getElem? (i := 10) rfl))⟩
abbrev bX10_perform : BT := (yX10_perform, cX10_perform, 5, (some .int))
theorem okX10_perform : mV bX10_perform 3 := ⟨⟨(ch_9 _ (List.mem_of_getElem? (i := 11) rfl)), (ch_8 _ (List.mem_of_getElem? (i := 22) rfl)), ⟨kh_RX10.1, kh_RX10.2.1, by decide +kernel⟩, by decide, kh_RX10.2.2⟩, (ch_9 _ (List.mem_of_getElem? (i := 12) rfl)), (ch_9 _ (List.mem_of_getElem? (i := 13) rfl))⟩
abbrev bX10_performShared : BT := (yX10_performShared, cX10_performShared, 4, (some .int))
theorem okX10_performShared : mV bX10_performShared 3 := ⟨⟨(ch_9 _ (List.mem_of_getElem? (i := 14) rfl)), (ch_8 _ (List.mem_of_getElem? (i := 22) rfl)), ⟨kh_RX10.1, kh_RX10.2.1, by decide +kernel⟩, by decide, kh_RX10.2.2⟩, (ch_9 _ (List.mem_of_getElem? (i := 15) rfl)), (ch_9 _ (List.mem_of_getElem? (i := 16) rfl))⟩
abbrev bX10_choose : BT := (yX10_choose, cX10_choose, 6, (some .int))
theorem okX10_choose : mV bX10_choose 3 := ⟨⟨(ch_9 _ (List.mem_of_getElem? (i := 17) rfl)), (ch_8 _ (List.mem_of_getElem? (i := 22) rfl)), ⟨kh_RX10.1, kh_RX10.2.1, by decide +kernel⟩, by decide, kh_RX10.2.2⟩, (ch_9 _ (List.mem_of_getElem? (i := 18) rfl)), (ch_9 _ (List.mem_of_getElem? (i := 19) rfl))⟩
abbrev bX10_fail : BT := (yX10_fail, cX10_fail, 3, none)
theorem okX10_fail : mV bX10_fail 2 := ⟨⟨(ch_9 _ (List.mem_of_getElem? (i := 20) rfl)), (ch_8 _ (List.mem_of_getElem? (i := 22) rfl)), ⟨kh_RX10.1, kh_RX10.2.1, by decide +kernel⟩, by decide, kh_RX10.2.2⟩, (ch_9 _ (List.mem_of_getElem? (i := 21) rfl)), (ch_9 _ (List.mem_of_getElem? (i := 22) rfl))⟩
abbrev bX10_failAround : BT := (yX10_failAround, cX10_failAround, 2, none)
theorem okX10_failAround : mV bX10_failAround 1 := ⟨⟨(ch_9 _ (List.mem_of_getElem? (i := 23) rfl)), (ch_8 _ (List.mem_of_getElem? (i := 22) rfl)), ⟨kh_RX10.1, kh_RX10.2.1, by decide +kernel⟩, by decide, kh_RX10.2.2⟩, (ch_9 _ (List.mem_of_getElem? (i := 24) rfl)), (ch_10 _ (List.mem_of_getElem? (i := 0) rfl))⟩
abbrev bX10_startItem : BT := (yX10_startItem, cX10_startItem, 3, none)
theorem okX10_startItem : mV bX10_startItem 1 := ⟨⟨(ch_10 _ (List.mem_of_getElem? (i := 1) rfl)), (ch_8 _ (List.mem_of_getElem? (i := 22) rfl)), ⟨kh_RX10.1, kh_RX10.2.1, by decide +kernel⟩, by decide, kh_RX10.2.2⟩, (ch_10 _ (List.mem_of_getElem? (i := 2) rfl)), (ch_10 _ (List.mem_of_getElem? (i := 3) rfl))⟩
abbrev bX10_fillHolder : BT := (yX10_fillHolder, cX10_fillHolder, 3, none)
theorem okX10_fillHolder : mV bX10_fillHolder 2 := ⟨⟨(ch_10 _ (List.mem_of_getElem? (i := 4) rfl)), (ch_8 _ (List.mem_of_getElem? (i := 22) rfl)), ⟨kh_RX10.1, kh_RX10.2.1, by decide +kernel⟩, by decide, kh_RX10.2.2⟩, (ch_10 _ (List.mem_of_getElem? (i := 5) rfl)), (ch_10 _ (List.mem_of_getElem? (i := 6) rfl))⟩
abbrev bX10_makeEnum : BT := (yX10_makeEnum, cX10_makeEnum, 4, none)
theorem okX10_makeEnum : mV bX10_makeEnum 1 := ⟨⟨(ch_10 _ (List.mem_of_getElem? (i := 7) rfl)), (ch_8 _ (List.mem_of_getElem? (i := 22) rfl)), ⟨kh_RX10.1, kh_RX10.2.1, by decide +kernel⟩, by decide, kh_RX10.2.2⟩, (ch_10 _ (List.mem_of_getElem? (i := 8) rfl)), (ch_10 _ (List.mem_of_getElem? (i := 9) rfl))⟩
abbrev bX10_makeConstant : BT := (yX10_makeConstant, cX10_makeConstant, 4, none)
theorem okX10_makeConstant : mV bX10_makeConstant 2 := ⟨⟨(ch_10 _ (List.mem_of_getElem? (i := 10) rfl)), (ch_8 _ (List.mem_of_getElem? (i := 22) rfl)), ⟨kh_RX10.1, kh_RX10.2.1, by decide +kernel⟩, by decide, kh_RX10.2.2⟩, (ch_10 _ (List.mem_of_getElem? (i := 11) rfl)), (ch_10 _ (List.mem_of_getElem? (i := 12) rfl))⟩
abbrev bX10_fillTable : BT := (yX10_fillTable, cX10_fillTable, 4, none)
theorem okX10_fillTable : mV bX10_fillTable 2 := ⟨⟨(ch_10 _ (List.mem_of_getElem? (i := 13) rfl)), (ch_8 _ (List.mem_of_getElem? (i := 22) rfl)), ⟨kh_RX10.1, kh_RX10.2.1, by decide +kernel⟩, by decide, kh_RX10.2.2⟩, (ch_10 _ (List.mem_of_getElem? (i := 14) rfl)), (ch_10 _ (List.mem_of_getElem? (i := 15) rfl))⟩
abbrev bX10_workOut : BT := (yX10_workOut, cX10_workOut, 8, (some .int))
theorem okX10_workOut : mV bX10_workOut 4 := ⟨⟨(ch_10 _ (List.mem_of_getElem? (i := 16) rfl)), (ch_8 _ (List.mem_of_getElem? (i := 22) rfl)), ⟨kh_RX10.1, kh_RX10.2.1, by decide +kernel⟩, by decide, kh_RX10.2.2⟩, (ch_10 _ (List.mem_of_getElem? (i := 17) rfl)), (ch_10 _ (List.mem_of_getElem? (i := 18) rfl))⟩
abbrev bX10_takeStep : BT := (yX10_takeStep, cX10_takeStep, 6, none)
theorem okX10_takeStep : mV bX10_takeStep 5 := ⟨⟨(ch_10 _ (List.mem_of_getElem? (i := 19) rfl)), (ch_8 _ (List.mem_of_getElem? (i := 22) rfl)), ⟨kh_RX10.1, kh_RX10.2.1, by decide +kernel⟩, by decide, kh_RX10.2.2⟩, (ch_10 _ (List.mem_of_getElem? (i := 20) rfl)), (ch_10 _ (List.mem_of_getElem? (i := 21) rfl))⟩
abbrev bX10_combine : BT := (yX10_combine, cX10_combine, 4, none)
theorem okX10_combine : mV bX10_combine 1 := ⟨⟨(ch_10 _ (List.mem_of_getElem? (i := 22) rfl)), (ch_8 _ (List.mem_of_getElem? (i := 22) rfl)), ⟨kh_RX10.1, kh_RX10.2.1, by decide +kernel⟩, by decide, kh_RX10.2.2⟩, (ch_10 _ (List.mem_of_getElem? (i := 23) rfl)), (ch_10 _ (List.mem_of_getElem? (i := 24) rfl))⟩
abbrev bX10_argumentOf : BT := (yX10_argumentOf, cX10_argumentOf, 3, (some .int))
theorem okX10_argumentOf : mS bX10_argumentOf 2 := ⟨⟨(ch_11 _ (List.mem_of_getElem? (i := 0) rfl)), (ch_8 _ (List.mem_of_getElem? (i := 22) rfl)), ⟨kh_RX10.1, kh_RX10.2.1, by decide +kernel⟩, by decide, kh_RX10.2.2⟩, (ch_11 _ (List.mem_of_getElem? (i := 1) rfl))⟩
abbrev bX10_workOutAbove : BT := (yX10_workOutAbove, cX10_workOutAbove, 4, (some .int))
theorem okX10_workOutAbove : mV bX10_workOutAbove 3 := ⟨⟨(ch_11 _ (List.mem_of_getElem? (i := 2) rfl)), (ch_8 _ (List.mem_of_getElem? (i := 22) rfl)), ⟨kh_RX10.1, kh_RX10.2.1, by decide +kernel⟩, by decide, kh_RX10.2.2⟩, (ch_11 _ (List.mem_of_getElem? (i := 3) rfl)), (ch_11 _ (List.mem_of_getElem? (i := 4) rfl))⟩
abbrev bX10_readConstant : BT := (yX10_readConstant, cX10_readConstant, 4, (some .int))
theorem okX10_readConstant : mV bX10_readConstant 2 := ⟨⟨(ch_11 _ (List.mem_of_getElem? (i := 5) rfl)), (ch_8 _ (List.mem_of_getElem? (i := 22) rfl)), ⟨kh_RX10.1, kh_RX10.2.1, by decide +kernel⟩, by decide, kh_RX10.2.2⟩, (ch_11 _ (List.mem_of_getElem? (i := 6) rfl)), (ch_11 _ (List.mem_of_getElem? (i := 7) rfl))⟩
abbrev bX10_readHolder : BT := (yX10_readHolder, cX10_readHolder, 4, (some .int))
theorem okX10_readHolder : mV bX10_readHolder 1 := ⟨⟨(ch_11 _ (List.mem_of_getElem? (i := 8) rfl)), (ch_8 _ (List.mem_of_getElem? (i := 22) rfl)), ⟨kh_RX10.1, kh_RX10.2.1, by decide +kernel⟩, by decide, kh_RX10.2.2⟩, (ch_11 _ (List.mem_of_getElem? (i := 9) rfl)), (ch_11 _ (List.mem_of_getElem? (i := 10) rfl))⟩
abbrev bX10_readEntry : BT := (yX10_readEntry, cX10_readEntry, 6, (some .int))
theorem okX10_readEntry : mV bX10_readEntry 3 := ⟨⟨(ch_11 _ (List.mem_of_getElem? (i := 11) rfl)), (ch_8 _ (List.mem_of_getElem? (i := 22) rfl)), ⟨kh_RX10.1, kh_RX10.2.1, by decide +kernel⟩, by decide, kh_RX10.2.2⟩, (ch_11 _ (List.mem_of_getElem? (i := 12) rfl)), (ch_11 _ (List.mem_of_getElem? (i := 13) rfl))⟩
abbrev bX10_see : BT := (yX10_see, cX10_see, 3, (some .int))
theorem okX10_see : mV bX10_see 2 := ⟨⟨(ch_11 _ (List.mem_of_getElem? (i := 14) rfl)), (ch_8 _ (List.mem_of_getElem? (i := 22) rfl)), ⟨kh_RX10.1, kh_RX10.2.1, by decide +kernel⟩, by decide, kh_RX10.2.2⟩, (ch_11 _ (List.mem_of_getElem? (i := 15) rfl)), (ch_11 _ (List.mem_of_getElem? (i := 16) rfl))⟩
abbrev bX10_push : BT := (yX10_push, cX10_push, 2, none)
theorem okX10_push : mV bX10_push 1 := ⟨⟨(ch_11 _ (List.mem_of_getElem? (i := 17) rfl)), (ch_8 _ (List.mem_of_getElem? (i := 22) rfl)), ⟨kh_RX10.1, kh_RX10.2.1, by decide +kernel⟩, by decide, kh_RX10.2.2⟩, (ch_11 _ (List.mem_of_getElem? (i := 18) rfl)), (ch_11 _ (List.mem_of_getElem? (i := 19) rfl))⟩
abbrev bX10_pop : BT := (yX10_pop, cX10_pop, 1, (some .int))
theorem okX10_pop : mV bX10_pop 0 := ⟨⟨(ch_11 _ (List.mem_of_getElem? (i := 20) rfl)), (ch_8 _ (List.mem_of_getElem? (i := 22) rfl)), ⟨kh_RX10.1, kh_RX10.2.1, by decide +kernel⟩, by decide, kh_RX10.2.2⟩, (ch_11 _ (List.mem_of_getElem? (i := 21) rfl)), (ch_11 _ (List.mem_of_getElem? (i := 22) rfl))⟩
abbrev bX11_init : BT := (yX11_init, cX11_init, 1, none)
theorem okX11_init : mI bX11_init 0 := ⟨⟨(ch_11 _ (List.mem_of_getElem? (i := 23) rfl)), (ch_11 _ (List.mem_of_getElem? (i := 24) rfl)), ⟨kh_RX11.1, kh_RX11.2.1, by decide +kernel⟩, by decide, kh_RX11.2.2⟩, (ch_12 _ (List.mem_of_getElem? (i := 0) rfl)), rfl, rfl⟩
abbrev bX11_feed : BT := (yX11_feed, cX11_feed, 5, (some .int))
theorem okX11_feed : mV bX11_feed 2 := ⟨⟨(ch_12 _ (List.mem_of_getElem? (i := 1) rfl)), (ch_11 _ (List.mem_of_getElem? (i := 24) rfl)), ⟨kh_RX11.1, kh_RX11.2.1, by decide +kernel⟩, by decide, kh_RX11.2.2⟩, (ch_12 _ (List.mem_of_getElem? (i := 2) rfl)), (ch_12 _ (List.mem_of_getElem? (i := 3) rfl))⟩
abbrev bX11_cut : BT := (yX11_cut, cX11_cut, 2, (some .int))
theorem okX11_cut : mV bX11_cut 1 := ⟨⟨(ch_12 _ (List.mem_of_getElem? (i := 4) rfl)), (ch_11 _ (List.mem_of_getElem? (i := 24) rfl)), ⟨kh_RX11.1, kh_RX11.2.1, by decide +kernel⟩, by decide, kh_RX11.2.2⟩, (ch_12 _ (List.mem_of_getElem? (i := 5) rfl)), (ch_12 _ (List.mem_of_getElem? (i := 6) rfl))⟩
abbrev bX11_book : BT := (yX11_book, cX11_book, 2, (some .int))
theorem okX11_book : mV bX11_book 0 := ⟨⟨(ch_12 _ (List.mem_of_getElem? (i := 7) rfl)), (ch_11 _ (List.mem_of_getElem? (i := 24) rfl)), ⟨kh_RX11.1, kh_RX11.2.1, by decide +kernel⟩, by decide, kh_RX11.2.2⟩, (ch_12 _ (List.mem_of_getElem? (i := 8) rfl)), (ch_12 _ (List.mem_of_getElem? (i := 9) rfl))⟩
abbrev bX11_wrong : BT := (yX11_wrong, cX11_wrong, 1, (some .int))
theorem okX11_wrong : mV bX11_wrong 0 := ⟨⟨(ch_12 _ (List.mem_of_getElem? (i := 10) rfl)), (ch_11 _ (List.mem_of_getElem? (i := 24) rfl)), ⟨kh_RX11.1, kh_RX11.2.1, by decide +kernel⟩, by decide, kh_RX11.2.2⟩, (ch_12 _ (List.mem_of_getElem? (i := 11) rfl)), (ch_12 _ (List.mem_of_getElem? (i := 12) rfl))⟩
abbrev bX11_told : BT := (yX11_told, cX11_told, 4, (some .int))
theorem okX11_told : mV bX11_told 2 := ⟨⟨(ch_12 _ (List.mem_of_getElem? (i := 13) rfl)), (ch_11 _ (List.mem_of_getElem? (i := 24) rfl)), ⟨kh_RX11.1, kh_RX11.2.1, by decide +kernel⟩, by decide, kh_RX11.2.2⟩, (ch_12 _ (List.mem_of_getElem? (i := 14) rfl)), (ch_12 _ (List.mem_of_getElem? (i := 15) rfl))⟩
abbrev bX11_about : BT := (yX11_about, cX11_about, 5, (some .int))
theorem okX11_about : mV bX11_about 3 := ⟨⟨(ch_12 _ (List.mem_of_getElem? (i := 16) rfl)), (ch_11 _ (List.mem_of_getElem? (i := 24) rfl)), ⟨kh_RX11.1, kh_RX11.2.1, by decide +kernel⟩, by decide, kh_RX11.2.2⟩, (ch_12 _ (List.mem_of_getElem? (i := 17) rfl)), (ch_12 _ (List.mem_of_getElem? (i := 18) rfl))⟩
abbrev bX11_state : BT := (yX11_state, cX11_state, 4, (some .int))
theorem okX11_state : mV bX11_state 2 := ⟨⟨(ch_12 _ (List.mem_of_getElem? (i := 19) rfl)), (ch_11 _ (List.mem_of_getElem? (i := 24) rfl)), ⟨kh_RX11.1, kh_RX11.2.1, by decide +kernel⟩, by decide, kh_RX11.2.2⟩, (ch_12 _ (List.mem_of_getElem? (i := 20) rfl)), (ch_12 _ (List.mem_of_getElem? (i := 21) rfl))⟩
abbrev bX11_letter : BT := (yX11_letter, cX11_letter, 7, (some .int))
theorem okX11_letter : mV bX11_letter 4 := ⟨⟨(ch_12 _ (List.mem_of_getElem? (i := 22) rfl)), (ch_11 _ (List.mem_of_getElem? (i := 24) rfl)), ⟨kh_RX11.1, kh_RX11.2.1, by decide +kernel⟩, by decide, kh_RX11.2.2⟩, (ch_12 _ (List.mem_of_getElem? (i := 23) rfl)), (ch_12 _ (List.mem_of_getElem? (i := 24) rfl))⟩
abbrev bX11_body : BT := (yX11_body, cX11_body, 8, (some .int))
theorem okX11_body : mV bX11_body 4 := ⟨⟨(ch_13 _ (List.mem_of_getElem? (i := 0) rfl)), (ch_11 _ (List.mem_of_getElem? (i := 24) rfl)), ⟨kh_RX11.1, kh_RX11.2.1, by decide +kernel⟩, by decide, kh_RX11.2.2⟩, (ch_13 _ (List.mem_of_getElem? (i := 1) rfl)), (ch_13 _ (List.mem_of_getElem? (i := 2) rfl))⟩
abbrev bX11_use : BT := (yX11_use, cX11_use, 3, (some .int))
theorem okX11_use : mV bX11_use 2 := ⟨⟨(ch_13 _ (List.mem_of_getElem? (i := 3) rfl)), (ch_11 _ (List.mem_of_getElem? (i := 24) rfl)), ⟨kh_RX11.1, kh_RX11.2.1, by decide +kernel⟩, by decide, kh_RX11.2.2⟩, (ch_13 _ (List.mem_of_getElem? (i := 4) rfl)), (ch_13 _ (List.mem_of_getElem? (i := 5) rfl))⟩
abbrev bX11_argument : BT := (yX11_argument, cX11_argument, 6, (some .int))
theorem okX11_argument : mV bX11_argument 3 := ⟨⟨(ch_13 _ (List.mem_of_getElem? (i := 6) rfl)), (ch_11 _ (List.mem_of_getElem? (i := 24) rfl)), ⟨kh_RX11.1, kh_RX11.2.1, by decide +kernel⟩, by decide, kh_RX11.2.2⟩, (ch_13 _ (List.mem_of_getElem? (i := 7) rfl)), (ch_13 _ (List.mem_of_getElem? (i := 8) rfl))⟩
abbrev bX11_act : BT := (yX11_act, cX11_act, 6, (some .int))
theorem okX11_act : mV bX11_act 4 := ⟨⟨(ch_13 _ (List.mem_of_getElem? (i := 9) rfl)), (ch_11 _ (List.mem_of_getElem? (i := 24) rfl)), ⟨kh_RX11.1, kh_RX11.2.1, by decide +kernel⟩, by decide, kh_RX11.2.2⟩, (ch_13 _ (List.mem_of_getElem? (i := 10) rfl)), (ch_13 _ (List.mem_of_getElem? (i := 11) rfl))⟩
abbrev bX11_entry : BT := (yX11_entry, cX11_entry, 7, (some .int))
theorem okX11_entry : mV bX11_entry 4 := ⟨⟨(ch_13 _ (List.mem_of_getElem? (i := 12) rfl)), (ch_11 _ (List.mem_of_getElem? (i := 24) rfl)), ⟨kh_RX11.1, kh_RX11.2.1, by decide +kernel⟩, by decide, kh_RX11.2.2⟩, (ch_13 _ (List.mem_of_getElem? (i := 13) rfl)), (ch_13 _ (List.mem_of_getElem? (i := 14) rfl))⟩
abbrev bX11_holder : BT := (yX11_holder, cX11_holder, 5, (some .int))
theorem okX11_holder : mV bX11_holder 3 := ⟨⟨(ch_13 _ (List.mem_of_getElem? (i := 15) rfl)), (ch_11 _ (List.mem_of_getElem? (i := 24) rfl)), ⟨kh_RX11.1, kh_RX11.2.1, by decide +kernel⟩, by decide, kh_RX11.2.2⟩, (ch_13 _ (List.mem_of_getElem? (i := 16) rfl)), (ch_13 _ (List.mem_of_getElem? (i := 17) rfl))⟩
abbrev bX11_branch : BT := (yX11_branch, cX11_branch, 7, (some .int))
theorem okX11_branch : mV bX11_branch 4 := ⟨⟨(ch_13 _ (List.mem_of_getElem? (i := 18) rfl)), (ch_11 _ (List.mem_of_getElem? (i := 24) rfl)), ⟨kh_RX11.1, kh_RX11.2.1, by decide +kernel⟩, by decide, kh_RX11.2.2⟩, (ch_13 _ (List.mem_of_getElem? (i := 19) rfl)), (ch_13 _ (List.mem_of_getElem? (i := 20) rfl))⟩
abbrev bX11_out : BT := (yX11_out, cX11_out, 1, (some .int))
theorem okX11_out : mV bX11_out 0 := ⟨⟨(ch_13 _ (List.mem_of_getElem? (i := 21) rfl)), (ch_11 _ (List.mem_of_getElem? (i := 24) rfl)), ⟨kh_RX11.1, kh_RX11.2.1, by decide +kernel⟩, by decide, kh_RX11.2.2⟩, (ch_13 _ (List.mem_of_getElem? (i := 22) rfl)), (ch_13 _ (List.mem_of_getElem? (i := 23) rfl))⟩
abbrev bX11_cause : BT := (yX11_cause, cX11_cause, 3, (some .int))
theorem okX11_cause : mV bX11_cause 2 := ⟨⟨(ch_13 _ (List.mem_of_getElem? (i := 24) rfl)), (ch_11 _ (List.mem_of_getElem? (i := 24) rfl)), ⟨kh_RX11.1, kh_RX11.2.1, by decide +kernel⟩, by decide, kh_RX11.2.2⟩, (ch_14 _ (List.mem_of_getElem? (i := 0) rfl)), (ch_14 _ (List.mem_of_getElem? (i := 1) rfl))⟩
abbrev bX11_start : BT := (yX11_start, cX11_start, 4, (some .int))
theorem okX11_start : mV bX11_start 2 := ⟨⟨(ch_14 _ (List.mem_of_getElem? (i := 2) rfl)), (ch_11 _ (List.mem_of_getElem? (i := 24) rfl)), ⟨kh_RX11.1, kh_RX11.2.1, by decide +kernel⟩, by decide, kh_RX11.2.2⟩, (ch_14 _ (List.mem_of_getElem? (i := 3) rfl)), (ch_14 _ (List.mem_of_getElem? (i := 4) rfl))⟩
abbrev bX11_seen : BT := (yX11_seen, cX11_seen, 5, (some .int))
theorem okX11_seen : mV bX11_seen 3 := ⟨⟨(ch_14 _ (List.mem_of_getElem? (i := 5) rfl)), (ch_11 _ (List.mem_of_getElem? (i := 24) rfl)), ⟨kh_RX11.1, kh_RX11.2.1, by decide +kernel⟩, by decide, kh_RX11.2.2⟩, (ch_14 _ (List.mem_of_getElem? (i := 6) rfl)), (ch_14 _ (List.mem_of_getElem? (i := 7) rfl))⟩
abbrev bX11_set : BT := (yX11_set, cX11_set, 3, (some .int))
theorem okX11_set : mV bX11_set 2 := ⟨⟨(ch_14 _ (List.mem_of_getElem? (i := 8) rfl)), (ch_11 _ (List.mem_of_getElem? (i := 24) rfl)), ⟨kh_RX11.1, kh_RX11.2.1, by decide +kernel⟩, by decide, kh_RX11.2.2⟩, (ch_14 _ (List.mem_of_getElem? (i := 9) rfl)), (ch_14 _ (List.mem_of_getElem? (i := 10) rfl))⟩
abbrev bX11_add : BT := (yX11_add, cX11_add, 4, (some .int))
theorem okX11_add : mV bX11_add 2 := ⟨⟨(ch_14 _ (List.mem_of_getElem? (i := 11) rfl)), (ch_11 _ (List.mem_of_getElem? (i := 24) rfl)), ⟨kh_RX11.1, kh_RX11.2.1, by decide +kernel⟩, by decide, kh_RX11.2.2⟩, (ch_14 _ (List.mem_of_getElem? (i := 12) rfl)), (ch_14 _ (List.mem_of_getElem? (i := 13) rfl))⟩
abbrev bX11_take : BT := (yX11_take, cX11_take, 4, (some .int))
theorem okX11_take : mV bX11_take 2 := ⟨⟨(ch_14 _ (List.mem_of_getElem? (i := 14) rfl)), (ch_11 _ (List.mem_of_getElem? (i := 24) rfl)), ⟨kh_RX11.1, kh_RX11.2.1, by decide +kernel⟩, by decide, kh_RX11.2.2⟩, (ch_14 _ (List.mem_of_getElem? (i := 15) rfl)), (ch_14 _ (List.mem_of_getElem? (i := 16) rfl))⟩
abbrev bX11_join : BT := (yX11_join, cX11_join, 6, (some .int))
theorem okX11_join : mV bX11_join 3 := ⟨⟨(ch_14 _ (List.mem_of_getElem? (i := 17) rfl)), (ch_11 _ (List.mem_of_getElem? (i := 24) rfl)), ⟨kh_RX11.1, kh_RX11.2.1, by decide +kernel⟩, by decide, kh_RX11.2.2⟩, (ch_14 _ (List.mem_of_getElem? (i := 18) rfl)), (ch_14 _ (List.mem_of_getElem? (i := 19) rfl))⟩
abbrev bX11_member : BT := (yX11_member, cX11_member, 4, (some .int))
theorem okX11_member : mV bX11_member 2 := ⟨⟨(ch_14 _ (List.mem_of_getElem? (i := 20) rfl)), (ch_11 _ (List.mem_of_getElem? (i := 24) rfl)), ⟨kh_RX11.1, kh_RX11.2.1, by decide +kernel⟩, by decide, kh_RX11.2.2⟩, (ch_14 _ (List.mem_of_getElem? (i := 21) rfl)), (ch_14 _ (List.mem_of_getElem? (i := 22) rfl))⟩
abbrev bX11_map : BT := (yX11_map, cX11_map, 4, (some .int))
theorem okX11_map : mV bX11_map 2 := ⟨⟨(ch_14 _ (List.mem_of_getElem? (i := 23) rfl)), (ch_11 _ (List.mem_of_getElem? (i := 24) rfl)), ⟨kh_RX11.1, kh_RX11.2.1, by decide +kernel⟩, by decide, kh_RX11.2.2⟩, (ch_14 _ (List.mem_of_getElem? (i := 24) rfl)), (ch_15 _ (List.mem_of_getElem? (i := 0) rfl))⟩
abbrev bX11_put : BT := (yX11_put, cX11_put, 5, (some .int))
theorem okX11_put : mV bX11_put 3 := ⟨⟨(ch_15 _ (List.mem_of_getElem? (i := 1) rfl)), (ch_11 _ (List.mem_of_getElem? (i := 24) rfl)), ⟨kh_RX11.1, kh_RX11.2.1, by decide +kernel⟩, by decide, kh_RX11.2.2⟩, (ch_15 _ (List.mem_of_getElem? (i := 2) rfl)), (ch_15 _ (List.mem_of_getElem? (i := 3) rfl))⟩
abbrev bX11_get : BT := (yX11_get, cX11_get, 4, (some .int))
theorem okX11_get : mV bX11_get 2 := ⟨⟨(ch_15 _ (List.mem_of_getElem? (i := 4) rfl)), (ch_11 _ (List.mem_of_getElem? (i := 24) rfl)), ⟨kh_RX11.1, kh_RX11.2.1, by decide +kernel⟩, by decide, kh_RX11.2.2⟩, (ch_15 _ (List.mem_of_getElem? (i := 5) rfl)), (ch_15 _ (List.mem_of_getElem? (i := 6) rfl))⟩
abbrev bX11_encode : BT := (yX11_encode, cX11_encode, 4, (some .int))
theorem okX11_encode : mV bX11_encode 1 := ⟨⟨(ch_15 _ (List.mem_of_getElem? (i := 7) rfl)), (ch_11 _ (List.mem_of_getElem? (i := 24) rfl)), ⟨kh_RX11.1, kh_RX11.2.1, by decide +kernel⟩, by decide, kh_RX11.2.2⟩, (ch_15 _ (List.mem_of_getElem? (i := 8) rfl)), (ch_15 _ (List.mem_of_getElem? (i := 9) rfl))⟩
abbrev bX11_signal : BT := (yX11_signal, cX11_signal, 5, (some .int))
theorem okX11_signal : mV bX11_signal 3 := ⟨⟨(ch_15 _ (List.mem_of_getElem? (i := 10) rfl)), (ch_11 _ (List.mem_of_getElem? (i := 24) rfl)), ⟨kh_RX11.1, kh_RX11.2.1, by decide +kernel⟩, by decide, kh_RX11.2.2⟩, (ch_15 _ (List.mem_of_getElem? (i := 11) rfl)), (ch_15 _ (List.mem_of_getElem? (i := 12) rfl))⟩
abbrev bX11_decode : BT := (yX11_decode, cX11_decode, 4, (some .int))
theorem okX11_decode : mV bX11_decode 1 := ⟨⟨(ch_15 _ (List.mem_of_getElem? (i := 13) rfl)), (ch_11 _ (List.mem_of_getElem? (i := 24) rfl)), ⟨kh_RX11.1, kh_RX11.2.1, by decide +kernel⟩, by decide, kh_RX11.2.2⟩, (ch_15 _ (List.mem_of_getElem? (i := 14) rfl)), (ch_15 _ (List.mem_of_getElem? (i := 15) rfl))⟩
abbrev bX11_putByte : BT := (yX11_putByte, cX11_putByte, 2, none)
theorem okX11_putByte : mV bX11_putByte 1 := ⟨⟨(ch_15 _ (List.mem_of_getElem? (i := 16) rfl)), (ch_11 _ (List.mem_of_getElem? (i := 24) rfl)), ⟨kh_RX11.1, kh_RX11.2.1, by decide +kernel⟩, by decide, kh_RX11.2.2⟩, (ch_15 _ (List.mem_of_getElem? (i := 17) rfl)), (ch_15 _ (List.mem_of_getElem? (i := 18) rfl))⟩
abbrev bX11_putName : BT := (yX11_putName, cX11_putName, 5, none)
theorem okX11_putName : mV bX11_putName 1 := ⟨⟨(ch_15 _ (List.mem_of_getElem? (i := 19) rfl)), (ch_11 _ (List.mem_of_getElem? (i := 24) rfl)), ⟨kh_RX11.1, kh_RX11.2.1, by decide +kernel⟩, by decide, kh_RX11.2.2⟩, (ch_15 _ (List.mem_of_getElem? (i := 20) rfl)), (ch_15 _ (List.mem_of_getElem? (i := 21) rfl))⟩
abbrev bX11_putNumber : BT := (yX11_putNumber, cX11_putNumber, 4, none)
theorem okX11_putNumber : mV bX11_putNumber 1 := ⟨⟨(ch_15 _ (List.mem_of_getElem? (i := 22) rfl)), (ch_11 _ (List.mem_of_getElem? (i := 24) rfl)), ⟨kh_RX11.1, kh_RX11.2.1, by decide +kernel⟩, by decide, kh_RX11.2.2⟩, (ch_15 _ (List.mem_of_getElem? (i := 23) rfl)), (ch_15 _ (List.mem_of_getElem? (i := 24) rfl))⟩
abbrev bX11_nameOf : BT := (yX11_nameOf, cX11_nameOf, 5, (some .long))
theorem okX11_nameOf : mV bX11_nameOf 2 := ⟨⟨(ch_16 _ (List.mem_of_getElem? (i := 0) rfl)), (ch_11 _ (List.mem_of_getElem? (i := 24) rfl)), ⟨kh_RX11.1, kh_RX11.2.1, by decide +kernel⟩, by decide, kh_RX11.2.2⟩, (ch_16 _ (List.mem_of_getElem? (i := 1) rfl)), (ch_16 _ (List.mem_of_getElem? (i := 2) rfl))⟩
abbrev bX11_letterOf : BT := (yX11_letterOf, cX11_letterOf, 3, (some .int))
theorem okX11_letterOf : mS bX11_letterOf 2 := ⟨⟨(ch_16 _ (List.mem_of_getElem? (i := 3) rfl)), (ch_11 _ (List.mem_of_getElem? (i := 24) rfl)), ⟨kh_RX11.1, kh_RX11.2.1, by decide +kernel⟩, by decide, kh_RX11.2.2⟩, (ch_16 _ (List.mem_of_getElem? (i := 4) rfl))⟩
abbrev bX11_bookAt : BT := (yX11_bookAt, cX11_bookAt, 2, (some (.object "SignalBook$Book")))
theorem okX11_bookAt : mV bX11_bookAt 1 := ⟨⟨(ch_16 _ (List.mem_of_getElem? (i := 5) rfl)), (ch_11 _ (List.mem_of_getElem? (i := 24) rfl)), ⟨kh_RX11.1, kh_RX11.2.1, by decide +kernel⟩, by decide, kh_RX11.2.2⟩, (ch_16 _ (List.mem_of_getElem? (i := 6) rfl)), (ch_16 _ (List.mem_of_getElem? (i := 7) rfl))⟩
abbrev bX11_enumOf : BT := (yX11_enumOf, cX11_enumOf, 4, (some (.object "SignalBook$Enumeration")))
theorem okX11_enumOf : mV bX11_enumOf 2 := ⟨⟨(ch_16 _ (List.mem_of_getElem? (i := 8) rfl)), (ch_11 _ (List.mem_of_getElem? (i := 24) rfl)), ⟨kh_RX11.1, kh_RX11.2.1, by decide +kernel⟩, by decide, kh_RX11.2.2⟩, (ch_16 _ (List.mem_of_getElem? (i := 9) rfl)), (ch_16 _ (List.mem_of_getElem? (i := 10) rfl))⟩
abbrev bX11_hasAct : BT := (yX11_hasAct, cX11_hasAct, 4, (some .boolean))
theorem okX11_hasAct : mV bX11_hasAct 2 := ⟨⟨(ch_16 _ (List.mem_of_getElem? (i := 11) rfl)), (ch_11 _ (List.mem_of_getElem? (i := 24) rfl)), ⟨kh_RX11.1, kh_RX11.2.1, by decide +kernel⟩, by decide, kh_RX11.2.2⟩, (ch_16 _ (List.mem_of_getElem? (i := 12) rfl)), (ch_16 _ (List.mem_of_getElem? (i := 13) rfl))⟩
abbrev bX11_setAt : BT := (yX11_setAt, cX11_setAt, 2, (some (.object "SignalBook$Selection")))
theorem okX11_setAt : mV bX11_setAt 1 := ⟨⟨(ch_16 _ (List.mem_of_getElem? (i := 14) rfl)), (ch_11 _ (List.mem_of_getElem? (i := 24) rfl)), ⟨kh_RX11.1, kh_RX11.2.1, by decide +kernel⟩, by decide, kh_RX11.2.2⟩, (ch_16 _ (List.mem_of_getElem? (i := 15) rfl)), (ch_16 _ (List.mem_of_getElem? (i := 16) rfl))⟩
abbrev bX11_mapAt : BT := (yX11_mapAt, cX11_mapAt, 2, (some (.object "SignalBook$Selection")))
theorem okX11_mapAt : mV bX11_mapAt 1 := ⟨⟨(ch_16 _ (List.mem_of_getElem? (i := 17) rfl)), (ch_11 _ (List.mem_of_getElem? (i := 24) rfl)), ⟨kh_RX11.1, kh_RX11.2.1, by decide +kernel⟩, by decide, kh_RX11.2.2⟩, (ch_16 _ (List.mem_of_getElem? (i := 18) rfl)), (ch_16 _ (List.mem_of_getElem? (i := 19) rfl))⟩
abbrev bX11_messageAt : BT := (yX11_messageAt, cX11_messageAt, 2, (some (.object "SignalBook$Message")))
theorem okX11_messageAt : mV bX11_messageAt 1 := ⟨⟨(ch_16 _ (List.mem_of_getElem? (i := 20) rfl)), (ch_11 _ (List.mem_of_getElem? (i := 24) rfl)), ⟨kh_RX11.1, kh_RX11.2.1, by decide +kernel⟩, by decide, kh_RX11.2.2⟩, (ch_16 _ (List.mem_of_getElem? (i := 21) rfl)), (ch_16 _ (List.mem_of_getElem? (i := 22) rfl))⟩
abbrev bX11_isConstant : BT := (yX11_isConstant, cX11_isConstant, 4, (some .boolean))
theorem okX11_isConstant : mV bX11_isConstant 2 := ⟨⟨(ch_16 _ (List.mem_of_getElem? (i := 23) rfl)), (ch_11 _ (List.mem_of_getElem? (i := 24) rfl)), ⟨kh_RX11.1, kh_RX11.2.1, by decide +kernel⟩, by decide, kh_RX11.2.2⟩, (ch_16 _ (List.mem_of_getElem? (i := 24) rfl)), (ch_17 _ (List.mem_of_getElem? (i := 0) rfl))⟩
abbrev bX11_keepSet : BT := (yX11_keepSet, cX11_keepSet, 2, (some .int))
theorem okX11_keepSet : mV bX11_keepSet 1 := ⟨⟨(ch_17 _ (List.mem_of_getElem? (i := 1) rfl)), (ch_11 _ (List.mem_of_getElem? (i := 24) rfl)), ⟨kh_RX11.1, kh_RX11.2.1, by decide +kernel⟩, by decide, kh_RX11.2.2⟩, (ch_17 _ (List.mem_of_getElem? (i := 2) rfl)), (ch_17 _ (List.mem_of_getElem? (i := 3) rfl))⟩
abbrev bX11_joined : BT := (yX11_joined, cX11_joined, 3, (some .int))
theorem okX11_joined : mS bX11_joined 3 := ⟨⟨(ch_17 _ (List.mem_of_getElem? (i := 4) rfl)), (ch_11 _ (List.mem_of_getElem? (i := 24) rfl)), ⟨kh_RX11.1, kh_RX11.2.1, by decide +kernel⟩, by decide, kh_RX11.2.2⟩, (ch_17 _ (List.mem_of_getElem? (i := 5) rfl))⟩
abbrev bX11_usedWell : BT := (yX11_usedWell, cX11_usedWell, 4, (some .boolean))
theorem okX11_usedWell : mV bX11_usedWell 2 := ⟨⟨(ch_17 _ (List.mem_of_getElem? (i := 6) rfl)), (ch_11 _ (List.mem_of_getElem? (i := 24) rfl)), ⟨kh_RX11.1, kh_RX11.2.1, by decide +kernel⟩, by decide, kh_RX11.2.2⟩, (ch_17 _ (List.mem_of_getElem? (i := 7) rfl)), (ch_17 _ (List.mem_of_getElem? (i := 8) rfl))⟩
abbrev bX11_giveOut : BT := (yX11_giveOut, cX11_giveOut, 2, (some .int))
theorem okX11_giveOut : mV bX11_giveOut 1 := ⟨⟨(ch_17 _ (List.mem_of_getElem? (i := 9) rfl)), (ch_11 _ (List.mem_of_getElem? (i := 24) rfl)), ⟨kh_RX11.1, kh_RX11.2.1, by decide +kernel⟩, by decide, kh_RX11.2.2⟩, (ch_17 _ (List.mem_of_getElem? (i := 10) rfl)), (ch_17 _ (List.mem_of_getElem? (i := 11) rfl))⟩
abbrev bX12_init : BT := (yX12_init, cX12_init, 1, none)
theorem okX12_init : mI bX12_init 0 := ⟨⟨(ch_17 _ (List.mem_of_getElem? (i := 12) rfl)), (ch_17 _ (List.mem_of_getElem? (i := 13) rfl)), ⟨kh_RX12.1, kh_RX12.2.1, by decide +kernel⟩, by decide, kh_RX12.2.2⟩, (ch_17 _ (List.mem_of_getElem? (i := 14) rfl)), rfl, rfl⟩
abbrev bX12_feed : BT := (yX12_feed, cX12_feed, 5, (some .int))
theorem okX12_feed : mV bX12_feed 2 := ⟨⟨(ch_17 _ (List.mem_of_getElem? (i := 15) rfl)), (ch_17 _ (List.mem_of_getElem? (i := 13) rfl)), ⟨kh_RX12.1, kh_RX12.2.1, by decide +kernel⟩, by decide, kh_RX12.2.2⟩, (ch_17 _ (List.mem_of_getElem? (i := 16) rfl)), (ch_17 _ (List.mem_of_getElem? (i := 17) rfl))⟩
abbrev bX12_cut : BT := (yX12_cut, cX12_cut, 2, (some .int))
theorem okX12_cut : mV bX12_cut 1 := ⟨⟨(ch_17 _ (List.mem_of_getElem? (i := 18) rfl)), (ch_17 _ (List.mem_of_getElem? (i := 13) rfl)), ⟨kh_RX12.1, kh_RX12.2.1, by decide +kernel⟩, by decide, kh_RX12.2.2⟩, (ch_17 _ (List.mem_of_getElem? (i := 19) rfl)), (ch_17 _ (List.mem_of_getElem? (i := 20) rfl))⟩
abbrev bX12_isLetter : BT := (yX12_isLetter, cX12_isLetter, 1, (some .boolean))
theorem okX12_isLetter : mS bX12_isLetter 1 := ⟨⟨(ch_17 _ (List.mem_of_getElem? (i := 21) rfl)), (ch_17 _ (List.mem_of_getElem? (i := 13) rfl)), ⟨kh_RX12.1, kh_RX12.2.1, by decide +kernel⟩, by decide, kh_RX12.2.2⟩, (ch_17 _ (List.mem_of_getElem? (i := 22) rfl))⟩
abbrev bX12_isDigit : BT := (yX12_isDigit, cX12_isDigit, 1, (some .boolean))
theorem okX12_isDigit : mS bX12_isDigit 1 := ⟨⟨(ch_17 _ (List.mem_of_getElem? (i := 23) rfl)), (ch_17 _ (List.mem_of_getElem? (i := 13) rfl)), ⟨kh_RX12.1, kh_RX12.2.1, by decide +kernel⟩, by decide, kh_RX12.2.2⟩, (ch_17 _ (List.mem_of_getElem? (i := 24) rfl))⟩
abbrev bX12_at : BT := (yX12_at, cX12_at, 2, (some .int))
theorem okX12_at : mV bX12_at 1 := ⟨⟨(ch_18 _ (List.mem_of_getElem? (i := 0) rfl)), (ch_17 _ (List.mem_of_getElem? (i := 13) rfl)), ⟨kh_RX12.1, kh_RX12.2.1, by decide +kernel⟩, by decide, kh_RX12.2.2⟩, (ch_18 _ (List.mem_of_getElem? (i := 1) rfl)), (ch_18 _ (List.mem_of_getElem? (i := 2) rfl))⟩
abbrev bX12_next : BT := (yX12_next, cX12_next, 5, none)
theorem okX12_next : mV bX12_next 0 := ⟨⟨(ch_18 _ (List.mem_of_getElem? (i := 3) rfl)), (ch_17 _ (List.mem_of_getElem? (i := 13) rfl)), ⟨kh_RX12.1, kh_RX12.2.1, by decide +kernel⟩, by decide, kh_RX12.2.2⟩, (ch_18 _ (List.mem_of_getElem? (i := 4) rfl)), (ch_18 _ (List.mem_of_getElem? (i := 5) rfl))⟩
abbrev bX12_isSign : BT := (yX12_isSign, cX12_isSign, 2, (some .boolean))
theorem okX12_isSign : mV bX12_isSign 1 := ⟨⟨(ch_18 _ (List.mem_of_getElem? (i := 6) rfl)), (ch_17 _ (List.mem_of_getElem? (i := 13) rfl)), ⟨kh_RX12.1, kh_RX12.2.1, by decide +kernel⟩, by decide, kh_RX12.2.2⟩, (ch_18 _ (List.mem_of_getElem? (i := 7) rfl)), (ch_18 _ (List.mem_of_getElem? (i := 8) rfl))⟩
abbrev bX12_isWord : BT := (yX12_isWord, cX12_isWord, 4, (some .boolean))
theorem okX12_isWord : mV bX12_isWord 1 := ⟨⟨(ch_18 _ (List.mem_of_getElem? (i := 9) rfl)), (ch_17 _ (List.mem_of_getElem? (i := 13) rfl)), ⟨kh_RX12.1, kh_RX12.2.1, by decide +kernel⟩, by decide, kh_RX12.2.2⟩, (ch_18 _ (List.mem_of_getElem? (i := 10) rfl)), (ch_18 _ (List.mem_of_getElem? (i := 11) rfl))⟩
abbrev bX12_isKeyword : BT := (yX12_isKeyword, cX12_isKeyword, 1, (some .boolean))
theorem okX12_isKeyword : mV bX12_isKeyword 0 := ⟨⟨(ch_18 _ (List.mem_of_getElem? (i := 12) rfl)), (ch_17 _ (List.mem_of_getElem? (i := 13) rfl)), ⟨kh_RX12.1, kh_RX12.2.1, by decide +kernel⟩, by decide, kh_RX12.2.2⟩, (ch_18 _ (List.mem_of_getElem? (i := 13) rfl)), (ch_18 _ (List.mem_of_getElem? (i := 14) rfl))⟩
abbrev bX12_isName : BT := (yX12_isName, cX12_isName, 1, (some .boolean))
theorem okX12_isName : mV bX12_isName 0 := ⟨⟨(ch_18 _ (List.mem_of_getElem? (i := 15) rfl)), (ch_17 _ (List.mem_of_getElem? (i := 13) rfl)), ⟨kh_RX12.1, kh_RX12.2.1, by decide +kernel⟩, by decide, kh_RX12.2.2⟩, (ch_18 _ (List.mem_of_getElem? (i := 16) rfl)), (ch_18 _ (List.mem_of_getElem? (i := 17) rfl))⟩
abbrev bX12_nameHere : BT := (yX12_nameHere, cX12_nameHere, 1, (some .int))
theorem okX12_nameHere : mV bX12_nameHere 0 := ⟨⟨(ch_18 _ (List.mem_of_getElem? (i := 18) rfl)), (ch_17 _ (List.mem_of_getElem? (i := 13) rfl)), ⟨kh_RX12.1, kh_RX12.2.1, by decide +kernel⟩, by decide, kh_RX12.2.2⟩, (ch_18 _ (List.mem_of_getElem? (i := 19) rfl)), (ch_18 _ (List.mem_of_getElem? (i := 20) rfl))⟩
abbrev bX12_isSame : BT := (yX12_isSame, cX12_isSame, 5, (some .boolean))
theorem okX12_isSame : mV bX12_isSame 2 := ⟨⟨(ch_18 _ (List.mem_of_getElem? (i := 21) rfl)), (ch_17 _ (List.mem_of_getElem? (i := 13) rfl)), ⟨kh_RX12.1, kh_RX12.2.1, by decide +kernel⟩, by decide, kh_RX12.2.2⟩, (ch_18 _ (List.mem_of_getElem? (i := 22) rfl)), (ch_18 _ (List.mem_of_getElem? (i := 23) rfl))⟩
abbrev bX12_isTwo : BT := (yX12_isTwo, cX12_isTwo, 1, (some .boolean))
theorem okX12_isTwo : mS bX12_isTwo 1 := ⟨⟨(ch_18 _ (List.mem_of_getElem? (i := 24) rfl)), (ch_17 _ (List.mem_of_getElem? (i := 13) rfl)), ⟨kh_RX12.1, kh_RX12.2.1, by decide +kernel⟩, by decide, kh_RX12.2.2⟩, (ch_19 _ (List.mem_of_getElem? (i := 0) rfl))⟩
abbrev bX12_expression : BT := (yX12_expression, cX12_expression, 4, (some .int))
theorem okX12_expression : mV bX12_expression 3 := ⟨⟨(ch_19 _ (List.mem_of_getElem? (i := 1) rfl)), (ch_17 _ (List.mem_of_getElem? (i := 13) rfl)), ⟨kh_RX12.1, kh_RX12.2.1, by decide +kernel⟩, by decide, kh_RX12.2.2⟩, (ch_19 _ (List.mem_of_getElem? (i := 2) rfl)), (ch_19 _ (List.mem_of_getElem? (i := 3) rfl))⟩
abbrev bX12_fault : BT := (yX12_fault, cX12_fault, 2, (some .int))
theorem okX12_fault : mV bX12_fault 1 := ⟨⟨(ch_19 _ (List.mem_of_getElem? (i := 4) rfl)), (ch_17 _ (List.mem_of_getElem? (i := 13) rfl)), ⟨kh_RX12.1, kh_RX12.2.1, by decide +kernel⟩, by decide, kh_RX12.2.2⟩, (ch_19 _ (List.mem_of_getElem? (i := 5) rfl)), (ch_19 _ (List.mem_of_getElem? (i := 6) rfl))⟩
abbrev bX12_sign : BT := (yX12_sign, cX12_sign, 3, none)
theorem okX12_sign : mV bX12_sign 1 := ⟨⟨(ch_19 _ (List.mem_of_getElem? (i := 7) rfl)), (ch_17 _ (List.mem_of_getElem? (i := 13) rfl)), ⟨kh_RX12.1, kh_RX12.2.1, by decide +kernel⟩, by decide, kh_RX12.2.2⟩, (ch_19 _ (List.mem_of_getElem? (i := 8) rfl)), (ch_19 _ (List.mem_of_getElem? (i := 9) rfl))⟩
abbrev bX12_newName : BT := (yX12_newName, cX12_newName, 2, (some .int))
theorem okX12_newName : mV bX12_newName 1 := ⟨⟨(ch_19 _ (List.mem_of_getElem? (i := 10) rfl)), (ch_17 _ (List.mem_of_getElem? (i := 13) rfl)), ⟨kh_RX12.1, kh_RX12.2.1, by decide +kernel⟩, by decide, kh_RX12.2.2⟩, (ch_19 _ (List.mem_of_getElem? (i := 11) rfl)), (ch_19 _ (List.mem_of_getElem? (i := 12) rfl))⟩
abbrev bX12_tells : BT := (yX12_tells, cX12_tells, 4, (some .boolean))
theorem okX12_tells : mV bX12_tells 0 := ⟨⟨(ch_19 _ (List.mem_of_getElem? (i := 13) rfl)), (ch_17 _ (List.mem_of_getElem? (i := 13) rfl)), ⟨kh_RX12.1, kh_RX12.2.1, by decide +kernel⟩, by decide, kh_RX12.2.2⟩, (ch_19 _ (List.mem_of_getElem? (i := 14) rfl)), (ch_19 _ (List.mem_of_getElem? (i := 15) rfl))⟩
abbrev bX12_enumOf : BT := (yX12_enumOf, cX12_enumOf, 3, (some .int))
theorem okX12_enumOf : mV bX12_enumOf 1 := ⟨⟨(ch_19 _ (List.mem_of_getElem? (i := 16) rfl)), (ch_17 _ (List.mem_of_getElem? (i := 13) rfl)), ⟨kh_RX12.1, kh_RX12.2.1, by decide +kernel⟩, by decide, kh_RX12.2.2⟩, (ch_19 _ (List.mem_of_getElem? (i := 17) rfl)), (ch_19 _ (List.mem_of_getElem? (i := 18) rfl))⟩
abbrev bX12_readBook : BT := (yX12_readBook, cX12_readBook, 2, none)
theorem okX12_readBook : mV bX12_readBook 0 := ⟨⟨(ch_19 _ (List.mem_of_getElem? (i := 19) rfl)), (ch_17 _ (List.mem_of_getElem? (i := 13) rfl)), ⟨kh_RX12.1, kh_RX12.2.1, by decide +kernel⟩, by decide, kh_RX12.2.2⟩, (ch_19 _ (List.mem_of_getElem? (i := 20) rfl)), (ch_19 _ (List.mem_of_getElem? (i := 21) rfl))⟩
abbrev bX12_readEnum : BT := (yX12_readEnum, cX12_readEnum, 2, none)
theorem okX12_readEnum : mV bX12_readEnum 0 := ⟨⟨(ch_19 _ (List.mem_of_getElem? (i := 22) rfl)), (ch_17 _ (List.mem_of_getElem? (i := 13) rfl)), ⟨kh_RX12.1, kh_RX12.2.1, by decide +kernel⟩, by decide, kh_RX12.2.2⟩, (ch_19 _ (List.mem_of_getElem? (i := 23) rfl)), (ch_19 _ (List.mem_of_getElem? (i := 24) rfl))⟩
abbrev bX12_readConstant : BT := (yX12_readConstant, cX12_readConstant, 4, none)
theorem okX12_readConstant : mV bX12_readConstant 0 := ⟨⟨(ch_20 _ (List.mem_of_getElem? (i := 0) rfl)), (ch_17 _ (List.mem_of_getElem? (i := 13) rfl)), ⟨kh_RX12.1, kh_RX12.2.1, by decide +kernel⟩, by decide, kh_RX12.2.2⟩, (ch_20 _ (List.mem_of_getElem? (i := 1) rfl)), (ch_20 _ (List.mem_of_getElem? (i := 2) rfl))⟩
abbrev bX12_readAct : BT := (yX12_readAct, cX12_readAct, 5, none)
theorem okX12_readAct : mV bX12_readAct 1 := ⟨⟨(ch_20 _ (List.mem_of_getElem? (i := 3) rfl)), (ch_17 _ (List.mem_of_getElem? (i := 13) rfl)), ⟨kh_RX12.1, kh_RX12.2.1, by decide +kernel⟩, by decide, kh_RX12.2.2⟩, (ch_20 _ (List.mem_of_getElem? (i := 4) rfl)), (ch_20 _ (List.mem_of_getElem? (i := 5) rfl))⟩
abbrev bX12_readMember : BT := (yX12_readMember, cX12_readMember, 3, none)
theorem okX12_readMember : mV bX12_readMember 0 := ⟨⟨(ch_20 _ (List.mem_of_getElem? (i := 6) rfl)), (ch_17 _ (List.mem_of_getElem? (i := 13) rfl)), ⟨kh_RX12.1, kh_RX12.2.1, by decide +kernel⟩, by decide, kh_RX12.2.2⟩, (ch_20 _ (List.mem_of_getElem? (i := 7) rfl)), (ch_20 _ (List.mem_of_getElem? (i := 8) rfl))⟩
abbrev bX12_readTable : BT := (yX12_readTable, cX12_readTable, 3, none)
theorem okX12_readTable : mV bX12_readTable 0 := ⟨⟨(ch_20 _ (List.mem_of_getElem? (i := 9) rfl)), (ch_17 _ (List.mem_of_getElem? (i := 13) rfl)), ⟨kh_RX12.1, kh_RX12.2.1, by decide +kernel⟩, by decide, kh_RX12.2.2⟩, (ch_20 _ (List.mem_of_getElem? (i := 10) rfl)), (ch_20 _ (List.mem_of_getElem? (i := 11) rfl))⟩
abbrev bX12_readEntry : BT := (yX12_readEntry, cX12_readEntry, 3, none)
theorem okX12_readEntry : mV bX12_readEntry 1 := ⟨⟨(ch_20 _ (List.mem_of_getElem? (i := 12) rfl)), (ch_17 _ (List.mem_of_getElem? (i := 13) rfl)), ⟨kh_RX12.1, kh_RX12.2.1, by decide +kernel⟩, by decide, kh_RX12.2.2⟩, (ch_20 _ (List.mem_of_getElem? (i := 13) rfl)), (ch_20 _ (List.mem_of_getElem? (i := 14) rfl))⟩
abbrev bX12_beginsExpr : BT := (yX12_beginsExpr, cX12_beginsExpr, 1, (some .boolean))
theorem okX12_beginsExpr : mV bX12_beginsExpr 0 := ⟨⟨(ch_20 _ (List.mem_of_getElem? (i := 15) rfl)), (ch_17 _ (List.mem_of_getElem? (i := 13) rfl)), ⟨kh_RX12.1, kh_RX12.2.1, by decide +kernel⟩, by decide, kh_RX12.2.2⟩, (ch_20 _ (List.mem_of_getElem? (i := 16) rfl)), (ch_20 _ (List.mem_of_getElem? (i := 17) rfl))⟩
abbrev bX12_readSwitch : BT := (yX12_readSwitch, cX12_readSwitch, 4, none)
theorem okX12_readSwitch : mV bX12_readSwitch 0 := ⟨⟨(ch_20 _ (List.mem_of_getElem? (i := 18) rfl)), (ch_17 _ (List.mem_of_getElem? (i := 13) rfl)), ⟨kh_RX12.1, kh_RX12.2.1, by decide +kernel⟩, by decide, kh_RX12.2.2⟩, (ch_20 _ (List.mem_of_getElem? (i := 19) rfl)), (ch_20 _ (List.mem_of_getElem? (i := 20) rfl))⟩
abbrev bX12_readCase : BT := (yX12_readCase, cX12_readCase, 5, none)
theorem okX12_readCase : mV bX12_readCase 1 := ⟨⟨(ch_20 _ (List.mem_of_getElem? (i := 21) rfl)), (ch_17 _ (List.mem_of_getElem? (i := 13) rfl)), ⟨kh_RX12.1, kh_RX12.2.1, by decide +kernel⟩, by decide, kh_RX12.2.2⟩, (ch_20 _ (List.mem_of_getElem? (i := 22) rfl)), (ch_20 _ (List.mem_of_getElem? (i := 23) rfl))⟩
abbrev bX12_readExpr : BT := (yX12_readExpr, cX12_readExpr, 4, (some .int))
theorem okX12_readExpr : mV bX12_readExpr 3 := ⟨⟨(ch_20 _ (List.mem_of_getElem? (i := 24) rfl)), (ch_17 _ (List.mem_of_getElem? (i := 13) rfl)), ⟨kh_RX12.1, kh_RX12.2.1, by decide +kernel⟩, by decide, kh_RX12.2.2⟩, (ch_21 _ (List.mem_of_getElem? (i := 0) rfl)), (ch_21 _ (List.mem_of_getElem? (i := 1) rfl))⟩
abbrev bX12_readSum : BT := (yX12_readSum, cX12_readSum, 4, (some .int))
theorem okX12_readSum : mV bX12_readSum 0 := ⟨⟨(ch_21 _ (List.mem_of_getElem? (i := 2) rfl)), (ch_17 _ (List.mem_of_getElem? (i := 13) rfl)), ⟨kh_RX12.1, kh_RX12.2.1, by decide +kernel⟩, by decide, kh_RX12.2.2⟩, (ch_21 _ (List.mem_of_getElem? (i := 3) rfl)), (ch_21 _ (List.mem_of_getElem? (i := 4) rfl))⟩
abbrev bX12_readTerm : BT := (yX12_readTerm, cX12_readTerm, 4, (some .int))
theorem okX12_readTerm : mV bX12_readTerm 0 := ⟨⟨(ch_21 _ (List.mem_of_getElem? (i := 5) rfl)), (ch_17 _ (List.mem_of_getElem? (i := 13) rfl)), ⟨kh_RX12.1, kh_RX12.2.1, by decide +kernel⟩, by decide, kh_RX12.2.2⟩, (ch_21 _ (List.mem_of_getElem? (i := 6) rfl)), (ch_21 _ (List.mem_of_getElem? (i := 7) rfl))⟩
abbrev bX12_readFactor : BT := (yX12_readFactor, cX12_readFactor, 3, (some .int))
theorem okX12_readFactor : mV bX12_readFactor 0 := ⟨⟨(ch_21 _ (List.mem_of_getElem? (i := 8) rfl)), (ch_17 _ (List.mem_of_getElem? (i := 13) rfl)), ⟨kh_RX12.1, kh_RX12.2.1, by decide +kernel⟩, by decide, kh_RX12.2.2⟩, (ch_21 _ (List.mem_of_getElem? (i := 9) rfl)), (ch_21 _ (List.mem_of_getElem? (i := 10) rfl))⟩
abbrev bX12_taken : BT := (yX12_taken, cX12_taken, 2, (some .int))
theorem okX12_taken : mV bX12_taken 1 := ⟨⟨(ch_21 _ (List.mem_of_getElem? (i := 11) rfl)), (ch_17 _ (List.mem_of_getElem? (i := 13) rfl)), ⟨kh_RX12.1, kh_RX12.2.1, by decide +kernel⟩, by decide, kh_RX12.2.2⟩, (ch_21 _ (List.mem_of_getElem? (i := 12) rfl)), (ch_21 _ (List.mem_of_getElem? (i := 13) rfl))⟩
abbrev bX12_readReference : BT := (yX12_readReference, cX12_readReference, 5, (some .int))
theorem okX12_readReference : mV bX12_readReference 0 := ⟨⟨(ch_21 _ (List.mem_of_getElem? (i := 14) rfl)), (ch_17 _ (List.mem_of_getElem? (i := 13) rfl)), ⟨kh_RX12.1, kh_RX12.2.1, by decide +kernel⟩, by decide, kh_RX12.2.2⟩, (ch_21 _ (List.mem_of_getElem? (i := 15) rfl)), (ch_21 _ (List.mem_of_getElem? (i := 16) rfl))⟩
abbrev bX12_settle : BT := (yX12_settle, cX12_settle, 8, none)
theorem okX12_settle : mV bX12_settle 1 := ⟨⟨(ch_21 _ (List.mem_of_getElem? (i := 17) rfl)), (ch_17 _ (List.mem_of_getElem? (i := 13) rfl)), ⟨kh_RX12.1, kh_RX12.2.1, by decide +kernel⟩, by decide, kh_RX12.2.2⟩, (ch_21 _ (List.mem_of_getElem? (i := 18) rfl)), (ch_21 _ (List.mem_of_getElem? (i := 19) rfl))⟩
abbrev bX12_lacks : BT := (yX12_lacks, cX12_lacks, 2, none)
theorem okX12_lacks : mV bX12_lacks 1 := ⟨⟨(ch_21 _ (List.mem_of_getElem? (i := 20) rfl)), (ch_17 _ (List.mem_of_getElem? (i := 13) rfl)), ⟨kh_RX12.1, kh_RX12.2.1, by decide +kernel⟩, by decide, kh_RX12.2.2⟩, (ch_21 _ (List.mem_of_getElem? (i := 21) rfl)), (ch_21 _ (List.mem_of_getElem? (i := 22) rfl))⟩
abbrev bX12_among : BT := (yX12_among, cX12_among, 6, (some .int))
theorem okX12_among : mV bX12_among 4 := ⟨⟨(ch_21 _ (List.mem_of_getElem? (i := 23) rfl)), (ch_17 _ (List.mem_of_getElem? (i := 13) rfl)), ⟨kh_RX12.1, kh_RX12.2.1, by decide +kernel⟩, by decide, kh_RX12.2.2⟩, (ch_21 _ (List.mem_of_getElem? (i := 24) rfl)), (ch_22 _ (List.mem_of_getElem? (i := 0) rfl))⟩
abbrev bX12_book : BT := (yX12_book, cX12_book, 2, (some .int))
theorem okX12_book : mV bX12_book 0 := ⟨⟨(ch_22 _ (List.mem_of_getElem? (i := 1) rfl)), (ch_17 _ (List.mem_of_getElem? (i := 13) rfl)), ⟨kh_RX12.1, kh_RX12.2.1, by decide +kernel⟩, by decide, kh_RX12.2.2⟩, (ch_22 _ (List.mem_of_getElem? (i := 2) rfl)), (ch_22 _ (List.mem_of_getElem? (i := 3) rfl))⟩
abbrev bX12_wrong : BT := (yX12_wrong, cX12_wrong, 1, (some .int))
theorem okX12_wrong : mV bX12_wrong 0 := ⟨⟨(ch_22 _ (List.mem_of_getElem? (i := 4) rfl)), (ch_17 _ (List.mem_of_getElem? (i := 13) rfl)), ⟨kh_RX12.1, kh_RX12.2.1, by decide +kernel⟩, by decide, kh_RX12.2.2⟩, (ch_22 _ (List.mem_of_getElem? (i := 5) rfl)), (ch_22 _ (List.mem_of_getElem? (i := 6) rfl))⟩
abbrev bX12_asleep : BT := (yX12_asleep, cX12_asleep, 4, none)
theorem okX12_asleep : mV bX12_asleep 1 := ⟨⟨(ch_22 _ (List.mem_of_getElem? (i := 7) rfl)), (ch_17 _ (List.mem_of_getElem? (i := 13) rfl)), ⟨kh_RX12.1, kh_RX12.2.1, by decide +kernel⟩, by decide, kh_RX12.2.2⟩, (ch_22 _ (List.mem_of_getElem? (i := 8) rfl)), (ch_22 _ (List.mem_of_getElem? (i := 9) rfl))⟩
abbrev bX12_failing : BT := (yX12_failing, cX12_failing, 3, (some .int))
theorem okX12_failing : mV bX12_failing 2 := ⟨⟨(ch_22 _ (List.mem_of_getElem? (i := 10) rfl)), (ch_17 _ (List.mem_of_getElem? (i := 13) rfl)), ⟨kh_RX12.1, kh_RX12.2.1, by decide +kernel⟩, by decide, kh_RX12.2.2⟩, (ch_22 _ (List.mem_of_getElem? (i := 11) rfl)), (ch_22 _ (List.mem_of_getElem? (i := 12) rfl))⟩
abbrev bX12_use : BT := (yX12_use, cX12_use, 4, none)
theorem okX12_use : mV bX12_use 1 := ⟨⟨(ch_22 _ (List.mem_of_getElem? (i := 13) rfl)), (ch_17 _ (List.mem_of_getElem? (i := 13) rfl)), ⟨kh_RX12.1, kh_RX12.2.1, by decide +kernel⟩, by decide, kh_RX12.2.2⟩, (ch_22 _ (List.mem_of_getElem? (i := 14) rfl)), (ch_22 _ (List.mem_of_getElem? (i := 15) rfl))⟩
abbrev bX12_starts : BT := (yX12_starts, cX12_starts, 3, none)
theorem okX12_starts : mV bX12_starts 1 := ⟨⟨(ch_22 _ (List.mem_of_getElem? (i := 16) rfl)), (ch_17 _ (List.mem_of_getElem? (i := 13) rfl)), ⟨kh_RX12.1, kh_RX12.2.1, by decide +kernel⟩, by decide, kh_RX12.2.2⟩, (ch_22 _ (List.mem_of_getElem? (i := 17) rfl)), (ch_22 _ (List.mem_of_getElem? (i := 18) rfl))⟩
abbrev bX12_startsHolder : BT := (yX12_startsHolder, cX12_startsHolder, 3, none)
theorem okX12_startsHolder : mV bX12_startsHolder 1 := ⟨⟨(ch_22 _ (List.mem_of_getElem? (i := 19) rfl)), (ch_17 _ (List.mem_of_getElem? (i := 13) rfl)), ⟨kh_RX12.1, kh_RX12.2.1, by decide +kernel⟩, by decide, kh_RX12.2.2⟩, (ch_22 _ (List.mem_of_getElem? (i := 20) rfl)), (ch_22 _ (List.mem_of_getElem? (i := 21) rfl))⟩
abbrev bX12_startsEnum : BT := (yX12_startsEnum, cX12_startsEnum, 5, none)
theorem okX12_startsEnum : mV bX12_startsEnum 1 := ⟨⟨(ch_22 _ (List.mem_of_getElem? (i := 22) rfl)), (ch_17 _ (List.mem_of_getElem? (i := 13) rfl)), ⟨kh_RX12.1, kh_RX12.2.1, by decide +kernel⟩, by decide, kh_RX12.2.2⟩, (ch_22 _ (List.mem_of_getElem? (i := 23) rfl)), (ch_22 _ (List.mem_of_getElem? (i := 24) rfl))⟩
abbrev bX12_sees : BT := (yX12_sees, cX12_sees, 4, (some .int))
theorem okX12_sees : mV bX12_sees 2 := ⟨⟨(ch_23 _ (List.mem_of_getElem? (i := 0) rfl)), (ch_17 _ (List.mem_of_getElem? (i := 13) rfl)), ⟨kh_RX12.1, kh_RX12.2.1, by decide +kernel⟩, by decide, kh_RX12.2.2⟩, (ch_23 _ (List.mem_of_getElem? (i := 1) rfl)), (ch_23 _ (List.mem_of_getElem? (i := 2) rfl))⟩
abbrev bX12_value : BT := (yX12_value, cX12_value, 8, (some .int))
theorem okX12_value : mV bX12_value 3 := ⟨⟨(ch_23 _ (List.mem_of_getElem? (i := 3) rfl)), (ch_17 _ (List.mem_of_getElem? (i := 13) rfl)), ⟨kh_RX12.1, kh_RX12.2.1, by decide +kernel⟩, by decide, kh_RX12.2.2⟩, (ch_23 _ (List.mem_of_getElem? (i := 4) rfl)), (ch_23 _ (List.mem_of_getElem? (i := 5) rfl))⟩
abbrev bX12_entryOf : BT := (yX12_entryOf, cX12_entryOf, 7, (some .int))
theorem okX12_entryOf : mV bX12_entryOf 3 := ⟨⟨(ch_23 _ (List.mem_of_getElem? (i := 6) rfl)), (ch_17 _ (List.mem_of_getElem? (i := 13) rfl)), ⟨kh_RX12.1, kh_RX12.2.1, by decide +kernel⟩, by decide, kh_RX12.2.2⟩, (ch_23 _ (List.mem_of_getElem? (i := 7) rfl)), (ch_23 _ (List.mem_of_getElem? (i := 8) rfl))⟩
abbrev bX12_both : BT := (yX12_both, cX12_both, 6, (some .int))
theorem okX12_both : mV bX12_both 3 := ⟨⟨(ch_23 _ (List.mem_of_getElem? (i := 9) rfl)), (ch_17 _ (List.mem_of_getElem? (i := 13) rfl)), ⟨kh_RX12.1, kh_RX12.2.1, by decide +kernel⟩, by decide, kh_RX12.2.2⟩, (ch_23 _ (List.mem_of_getElem? (i := 10) rfl)), (ch_23 _ (List.mem_of_getElem? (i := 11) rfl))⟩
abbrev bX12_joined : BT := (yX12_joined, cX12_joined, 4, (some .int))
theorem okX12_joined : mV bX12_joined 3 := ⟨⟨(ch_23 _ (List.mem_of_getElem? (i := 12) rfl)), (ch_17 _ (List.mem_of_getElem? (i := 13) rfl)), ⟨kh_RX12.1, kh_RX12.2.1, by decide +kernel⟩, by decide, kh_RX12.2.2⟩, (ch_23 _ (List.mem_of_getElem? (i := 13) rfl)), (ch_23 _ (List.mem_of_getElem? (i := 14) rfl))⟩
abbrev bX12_isEnum : BT := (yX12_isEnum, cX12_isEnum, 3, (some .boolean))
theorem okX12_isEnum : mV bX12_isEnum 2 := ⟨⟨(ch_23 _ (List.mem_of_getElem? (i := 15) rfl)), (ch_17 _ (List.mem_of_getElem? (i := 13) rfl)), ⟨kh_RX12.1, kh_RX12.2.1, by decide +kernel⟩, by decide, kh_RX12.2.2⟩, (ch_23 _ (List.mem_of_getElem? (i := 16) rfl)), (ch_23 _ (List.mem_of_getElem? (i := 17) rfl))⟩
abbrev bX12_isConstant : BT := (yX12_isConstant, cX12_isConstant, 4, (some .boolean))
theorem okX12_isConstant : mV bX12_isConstant 3 := ⟨⟨(ch_23 _ (List.mem_of_getElem? (i := 18) rfl)), (ch_17 _ (List.mem_of_getElem? (i := 13) rfl)), ⟨kh_RX12.1, kh_RX12.2.1, by decide +kernel⟩, by decide, kh_RX12.2.2⟩, (ch_23 _ (List.mem_of_getElem? (i := 19) rfl)), (ch_23 _ (List.mem_of_getElem? (i := 20) rfl))⟩
abbrev bX12_begin : BT := (yX12_begin, cX12_begin, 2, none)
theorem okX12_begin : mV bX12_begin 1 := ⟨⟨(ch_23 _ (List.mem_of_getElem? (i := 21) rfl)), (ch_17 _ (List.mem_of_getElem? (i := 13) rfl)), ⟨kh_RX12.1, kh_RX12.2.1, by decide +kernel⟩, by decide, kh_RX12.2.2⟩, (ch_23 _ (List.mem_of_getElem? (i := 22) rfl)), (ch_23 _ (List.mem_of_getElem? (i := 23) rfl))⟩
abbrev bX12_ends : BT := (yX12_ends, cX12_ends, 2, (some .int))
theorem okX12_ends : mV bX12_ends 1 := ⟨⟨(ch_23 _ (List.mem_of_getElem? (i := 24) rfl)), (ch_17 _ (List.mem_of_getElem? (i := 13) rfl)), ⟨kh_RX12.1, kh_RX12.2.1, by decide +kernel⟩, by decide, kh_RX12.2.2⟩, (ch_24 _ (List.mem_of_getElem? (i := 0) rfl)), (ch_24 _ (List.mem_of_getElem? (i := 1) rfl))⟩
abbrev bX12_uses : BT := (yX12_uses, cX12_uses, 3, (some .int))
theorem okX12_uses : mV bX12_uses 2 := ⟨⟨(ch_24 _ (List.mem_of_getElem? (i := 2) rfl)), (ch_17 _ (List.mem_of_getElem? (i := 13) rfl)), ⟨kh_RX12.1, kh_RX12.2.1, by decide +kernel⟩, by decide, kh_RX12.2.2⟩, (ch_24 _ (List.mem_of_getElem? (i := 3) rfl)), (ch_24 _ (List.mem_of_getElem? (i := 4) rfl))⟩
abbrev bX12_told : BT := (yX12_told, cX12_told, 3, (some .int))
theorem okX12_told : mV bX12_told 2 := ⟨⟨(ch_24 _ (List.mem_of_getElem? (i := 5) rfl)), (ch_17 _ (List.mem_of_getElem? (i := 13) rfl)), ⟨kh_RX12.1, kh_RX12.2.1, by decide +kernel⟩, by decide, kh_RX12.2.2⟩, (ch_24 _ (List.mem_of_getElem? (i := 6) rfl)), (ch_24 _ (List.mem_of_getElem? (i := 7) rfl))⟩
abbrev bX12_about : BT := (yX12_about, cX12_about, 5, (some .int))
theorem okX12_about : mV bX12_about 3 := ⟨⟨(ch_24 _ (List.mem_of_getElem? (i := 8) rfl)), (ch_17 _ (List.mem_of_getElem? (i := 13) rfl)), ⟨kh_RX12.1, kh_RX12.2.1, by decide +kernel⟩, by decide, kh_RX12.2.2⟩, (ch_24 _ (List.mem_of_getElem? (i := 9) rfl)), (ch_24 _ (List.mem_of_getElem? (i := 10) rfl))⟩
abbrev bX12_isItem : BT := (yX12_isItem, cX12_isItem, 4, (some .boolean))
theorem okX12_isItem : mV bX12_isItem 2 := ⟨⟨(ch_24 _ (List.mem_of_getElem? (i := 11) rfl)), (ch_17 _ (List.mem_of_getElem? (i := 13) rfl)), ⟨kh_RX12.1, kh_RX12.2.1, by decide +kernel⟩, by decide, kh_RX12.2.2⟩, (ch_24 _ (List.mem_of_getElem? (i := 12) rfl)), (ch_24 _ (List.mem_of_getElem? (i := 13) rfl))⟩
abbrev bX12_state : BT := (yX12_state, cX12_state, 3, (some .int))
theorem okX12_state : mV bX12_state 2 := ⟨⟨(ch_24 _ (List.mem_of_getElem? (i := 14) rfl)), (ch_17 _ (List.mem_of_getElem? (i := 13) rfl)), ⟨kh_RX12.1, kh_RX12.2.1, by decide +kernel⟩, by decide, kh_RX12.2.2⟩, (ch_24 _ (List.mem_of_getElem? (i := 15) rfl)), (ch_24 _ (List.mem_of_getElem? (i := 16) rfl))⟩
abbrev bX12_letter : BT := (yX12_letter, cX12_letter, 7, (some .int))
theorem okX12_letter : mV bX12_letter 4 := ⟨⟨(ch_24 _ (List.mem_of_getElem? (i := 17) rfl)), (ch_17 _ (List.mem_of_getElem? (i := 13) rfl)), ⟨kh_RX12.1, kh_RX12.2.1, by decide +kernel⟩, by decide, kh_RX12.2.2⟩, (ch_24 _ (List.mem_of_getElem? (i := 18) rfl)), (ch_24 _ (List.mem_of_getElem? (i := 19) rfl))⟩
abbrev bX12_body : BT := (yX12_body, cX12_body, 6, (some .int))
theorem okX12_body : mV bX12_body 4 := ⟨⟨(ch_24 _ (List.mem_of_getElem? (i := 20) rfl)), (ch_17 _ (List.mem_of_getElem? (i := 13) rfl)), ⟨kh_RX12.1, kh_RX12.2.1, by decide +kernel⟩, by decide, kh_RX12.2.2⟩, (ch_24 _ (List.mem_of_getElem? (i := 21) rfl)), (ch_24 _ (List.mem_of_getElem? (i := 22) rfl))⟩
abbrev bX12_use_ : BT := (yX12_use_, cX12_use_, 3, (some .int))
theorem okX12_use_ : mV bX12_use_ 2 := ⟨⟨(ch_24 _ (List.mem_of_getElem? (i := 23) rfl)), (ch_17 _ (List.mem_of_getElem? (i := 13) rfl)), ⟨kh_RX12.1, kh_RX12.2.1, by decide +kernel⟩, by decide, kh_RX12.2.2⟩, (ch_24 _ (List.mem_of_getElem? (i := 24) rfl)), (ch_25 _ (List.mem_of_getElem? (i := 0) rfl))⟩
abbrev bX12_argument : BT := (yX12_argument, cX12_argument, 5, (some .int))
theorem okX12_argument : mV bX12_argument 3 := ⟨⟨(ch_25 _ (List.mem_of_getElem? (i := 1) rfl)), (ch_17 _ (List.mem_of_getElem? (i := 13) rfl)), ⟨kh_RX12.1, kh_RX12.2.1, by decide +kernel⟩, by decide, kh_RX12.2.2⟩, (ch_25 _ (List.mem_of_getElem? (i := 2) rfl)), (ch_25 _ (List.mem_of_getElem? (i := 3) rfl))⟩
abbrev bX12_act : BT := (yX12_act, cX12_act, 8, (some .int))
theorem okX12_act : mV bX12_act 4 := ⟨⟨(ch_25 _ (List.mem_of_getElem? (i := 4) rfl)), (ch_17 _ (List.mem_of_getElem? (i := 13) rfl)), ⟨kh_RX12.1, kh_RX12.2.1, by decide +kernel⟩, by decide, kh_RX12.2.2⟩, (ch_25 _ (List.mem_of_getElem? (i := 5) rfl)), (ch_25 _ (List.mem_of_getElem? (i := 6) rfl))⟩
abbrev bX12_entry : BT := (yX12_entry, cX12_entry, 7, (some .int))
theorem okX12_entry : mV bX12_entry 4 := ⟨⟨(ch_25 _ (List.mem_of_getElem? (i := 7) rfl)), (ch_17 _ (List.mem_of_getElem? (i := 13) rfl)), ⟨kh_RX12.1, kh_RX12.2.1, by decide +kernel⟩, by decide, kh_RX12.2.2⟩, (ch_25 _ (List.mem_of_getElem? (i := 8) rfl)), (ch_25 _ (List.mem_of_getElem? (i := 9) rfl))⟩
abbrev bX12_holder : BT := (yX12_holder, cX12_holder, 5, (some .int))
theorem okX12_holder : mV bX12_holder 3 := ⟨⟨(ch_25 _ (List.mem_of_getElem? (i := 10) rfl)), (ch_17 _ (List.mem_of_getElem? (i := 13) rfl)), ⟨kh_RX12.1, kh_RX12.2.1, by decide +kernel⟩, by decide, kh_RX12.2.2⟩, (ch_25 _ (List.mem_of_getElem? (i := 11) rfl)), (ch_25 _ (List.mem_of_getElem? (i := 12) rfl))⟩
abbrev bX12_branch : BT := (yX12_branch, cX12_branch, 8, (some .int))
theorem okX12_branch : mV bX12_branch 4 := ⟨⟨(ch_25 _ (List.mem_of_getElem? (i := 13) rfl)), (ch_17 _ (List.mem_of_getElem? (i := 13) rfl)), ⟨kh_RX12.1, kh_RX12.2.1, by decide +kernel⟩, by decide, kh_RX12.2.2⟩, (ch_25 _ (List.mem_of_getElem? (i := 14) rfl)), (ch_25 _ (List.mem_of_getElem? (i := 15) rfl))⟩
abbrev bX12_out : BT := (yX12_out, cX12_out, 1, (some .int))
theorem okX12_out : mV bX12_out 0 := ⟨⟨(ch_25 _ (List.mem_of_getElem? (i := 16) rfl)), (ch_17 _ (List.mem_of_getElem? (i := 13) rfl)), ⟨kh_RX12.1, kh_RX12.2.1, by decide +kernel⟩, by decide, kh_RX12.2.2⟩, (ch_25 _ (List.mem_of_getElem? (i := 17) rfl)), (ch_25 _ (List.mem_of_getElem? (i := 18) rfl))⟩
abbrev bX12_cause : BT := (yX12_cause, cX12_cause, 4, (some .int))
theorem okX12_cause : mV bX12_cause 2 := ⟨⟨(ch_25 _ (List.mem_of_getElem? (i := 19) rfl)), (ch_17 _ (List.mem_of_getElem? (i := 13) rfl)), ⟨kh_RX12.1, kh_RX12.2.1, by decide +kernel⟩, by decide, kh_RX12.2.2⟩, (ch_25 _ (List.mem_of_getElem? (i := 20) rfl)), (ch_25 _ (List.mem_of_getElem? (i := 21) rfl))⟩
abbrev bX12_start : BT := (yX12_start, cX12_start, 3, (some .int))
theorem okX12_start : mV bX12_start 2 := ⟨⟨(ch_25 _ (List.mem_of_getElem? (i := 22) rfl)), (ch_17 _ (List.mem_of_getElem? (i := 13) rfl)), ⟨kh_RX12.1, kh_RX12.2.1, by decide +kernel⟩, by decide, kh_RX12.2.2⟩, (ch_25 _ (List.mem_of_getElem? (i := 23) rfl)), (ch_25 _ (List.mem_of_getElem? (i := 24) rfl))⟩
abbrev bX12_seen : BT := (yX12_seen, cX12_seen, 4, (some .int))
theorem okX12_seen : mV bX12_seen 3 := ⟨⟨(ch_26 _ (List.mem_of_getElem? (i := 0) rfl)), (ch_17 _ (List.mem_of_getElem? (i := 13) rfl)), ⟨kh_RX12.1, kh_RX12.2.1, by decide +kernel⟩, by decide, kh_RX12.2.2⟩, (ch_26 _ (List.mem_of_getElem? (i := 1) rfl)), (ch_26 _ (List.mem_of_getElem? (i := 2) rfl))⟩
abbrev bX12_set : BT := (yX12_set, cX12_set, 3, (some .int))
theorem okX12_set : mV bX12_set 2 := ⟨⟨(ch_26 _ (List.mem_of_getElem? (i := 3) rfl)), (ch_17 _ (List.mem_of_getElem? (i := 13) rfl)), ⟨kh_RX12.1, kh_RX12.2.1, by decide +kernel⟩, by decide, kh_RX12.2.2⟩, (ch_26 _ (List.mem_of_getElem? (i := 4) rfl)), (ch_26 _ (List.mem_of_getElem? (i := 5) rfl))⟩
abbrev bX12_isIn : BT := (yX12_isIn, cX12_isIn, 3, (some .boolean))
theorem okX12_isIn : mV bX12_isIn 2 := ⟨⟨(ch_26 _ (List.mem_of_getElem? (i := 6) rfl)), (ch_17 _ (List.mem_of_getElem? (i := 13) rfl)), ⟨kh_RX12.1, kh_RX12.2.1, by decide +kernel⟩, by decide, kh_RX12.2.2⟩, (ch_26 _ (List.mem_of_getElem? (i := 7) rfl)), (ch_26 _ (List.mem_of_getElem? (i := 8) rfl))⟩
abbrev bX12_add : BT := (yX12_add, cX12_add, 4, (some .int))
theorem okX12_add : mV bX12_add 2 := ⟨⟨(ch_26 _ (List.mem_of_getElem? (i := 9) rfl)), (ch_17 _ (List.mem_of_getElem? (i := 13) rfl)), ⟨kh_RX12.1, kh_RX12.2.1, by decide +kernel⟩, by decide, kh_RX12.2.2⟩, (ch_26 _ (List.mem_of_getElem? (i := 10) rfl)), (ch_26 _ (List.mem_of_getElem? (i := 11) rfl))⟩
abbrev bX12_take : BT := (yX12_take, cX12_take, 4, (some .int))
theorem okX12_take : mV bX12_take 2 := ⟨⟨(ch_26 _ (List.mem_of_getElem? (i := 12) rfl)), (ch_17 _ (List.mem_of_getElem? (i := 13) rfl)), ⟨kh_RX12.1, kh_RX12.2.1, by decide +kernel⟩, by decide, kh_RX12.2.2⟩, (ch_26 _ (List.mem_of_getElem? (i := 13) rfl)), (ch_26 _ (List.mem_of_getElem? (i := 14) rfl))⟩
abbrev bX12_join : BT := (yX12_join, cX12_join, 6, (some .int))
theorem okX12_join : mV bX12_join 3 := ⟨⟨(ch_26 _ (List.mem_of_getElem? (i := 15) rfl)), (ch_17 _ (List.mem_of_getElem? (i := 13) rfl)), ⟨kh_RX12.1, kh_RX12.2.1, by decide +kernel⟩, by decide, kh_RX12.2.2⟩, (ch_26 _ (List.mem_of_getElem? (i := 16) rfl)), (ch_26 _ (List.mem_of_getElem? (i := 17) rfl))⟩
abbrev bX12_member : BT := (yX12_member, cX12_member, 5, (some .int))
theorem okX12_member : mV bX12_member 2 := ⟨⟨(ch_26 _ (List.mem_of_getElem? (i := 18) rfl)), (ch_17 _ (List.mem_of_getElem? (i := 13) rfl)), ⟨kh_RX12.1, kh_RX12.2.1, by decide +kernel⟩, by decide, kh_RX12.2.2⟩, (ch_26 _ (List.mem_of_getElem? (i := 19) rfl)), (ch_26 _ (List.mem_of_getElem? (i := 20) rfl))⟩
abbrev bX12_map : BT := (yX12_map, cX12_map, 3, (some .int))
theorem okX12_map : mV bX12_map 2 := ⟨⟨(ch_26 _ (List.mem_of_getElem? (i := 21) rfl)), (ch_17 _ (List.mem_of_getElem? (i := 13) rfl)), ⟨kh_RX12.1, kh_RX12.2.1, by decide +kernel⟩, by decide, kh_RX12.2.2⟩, (ch_26 _ (List.mem_of_getElem? (i := 22) rfl)), (ch_26 _ (List.mem_of_getElem? (i := 23) rfl))⟩
abbrev bX12_isMapped : BT := (yX12_isMapped, cX12_isMapped, 3, (some .boolean))
theorem okX12_isMapped : mV bX12_isMapped 2 := ⟨⟨(ch_26 _ (List.mem_of_getElem? (i := 24) rfl)), (ch_17 _ (List.mem_of_getElem? (i := 13) rfl)), ⟨kh_RX12.1, kh_RX12.2.1, by decide +kernel⟩, by decide, kh_RX12.2.2⟩, (ch_27 _ (List.mem_of_getElem? (i := 0) rfl)), (ch_27 _ (List.mem_of_getElem? (i := 1) rfl))⟩
abbrev bX12_put : BT := (yX12_put, cX12_put, 5, (some .int))
theorem okX12_put : mV bX12_put 3 := ⟨⟨(ch_27 _ (List.mem_of_getElem? (i := 2) rfl)), (ch_17 _ (List.mem_of_getElem? (i := 13) rfl)), ⟨kh_RX12.1, kh_RX12.2.1, by decide +kernel⟩, by decide, kh_RX12.2.2⟩, (ch_27 _ (List.mem_of_getElem? (i := 3) rfl)), (ch_27 _ (List.mem_of_getElem? (i := 4) rfl))⟩
abbrev bX12_get : BT := (yX12_get, cX12_get, 3, (some .int))
theorem okX12_get : mV bX12_get 2 := ⟨⟨(ch_27 _ (List.mem_of_getElem? (i := 5) rfl)), (ch_17 _ (List.mem_of_getElem? (i := 13) rfl)), ⟨kh_RX12.1, kh_RX12.2.1, by decide +kernel⟩, by decide, kh_RX12.2.2⟩, (ch_27 _ (List.mem_of_getElem? (i := 6) rfl)), (ch_27 _ (List.mem_of_getElem? (i := 7) rfl))⟩
abbrev bX12_constantHere : BT := (yX12_constantHere, cX12_constantHere, 7, (some .int))
theorem okX12_constantHere : mV bX12_constantHere 1 := ⟨⟨(ch_27 _ (List.mem_of_getElem? (i := 8) rfl)), (ch_17 _ (List.mem_of_getElem? (i := 13) rfl)), ⟨kh_RX12.1, kh_RX12.2.1, by decide +kernel⟩, by decide, kh_RX12.2.2⟩, (ch_27 _ (List.mem_of_getElem? (i := 9) rfl)), (ch_27 _ (List.mem_of_getElem? (i := 10) rfl))⟩
abbrev bX12_encode : BT := (yX12_encode, cX12_encode, 7, (some .int))
theorem okX12_encode : mV bX12_encode 1 := ⟨⟨(ch_27 _ (List.mem_of_getElem? (i := 11) rfl)), (ch_17 _ (List.mem_of_getElem? (i := 13) rfl)), ⟨kh_RX12.1, kh_RX12.2.1, by decide +kernel⟩, by decide, kh_RX12.2.2⟩, (ch_27 _ (List.mem_of_getElem? (i := 12) rfl)), (ch_27 _ (List.mem_of_getElem? (i := 13) rfl))⟩
abbrev bX12_signal : BT := (yX12_signal, cX12_signal, 5, (some .int))
theorem okX12_signal : mV bX12_signal 3 := ⟨⟨(ch_27 _ (List.mem_of_getElem? (i := 14) rfl)), (ch_17 _ (List.mem_of_getElem? (i := 13) rfl)), ⟨kh_RX12.1, kh_RX12.2.1, by decide +kernel⟩, by decide, kh_RX12.2.2⟩, (ch_27 _ (List.mem_of_getElem? (i := 15) rfl)), (ch_27 _ (List.mem_of_getElem? (i := 16) rfl))⟩
abbrev bX12_put_ : BT := (yX12_put_, cX12_put_, 2, none)
theorem okX12_put_ : mV bX12_put_ 1 := ⟨⟨(ch_27 _ (List.mem_of_getElem? (i := 17) rfl)), (ch_17 _ (List.mem_of_getElem? (i := 13) rfl)), ⟨kh_RX12.1, kh_RX12.2.1, by decide +kernel⟩, by decide, kh_RX12.2.2⟩, (ch_27 _ (List.mem_of_getElem? (i := 18) rfl)), (ch_27 _ (List.mem_of_getElem? (i := 19) rfl))⟩
abbrev bX12_decode : BT := (yX12_decode, cX12_decode, 5, (some .int))
theorem okX12_decode : mV bX12_decode 1 := ⟨⟨(ch_27 _ (List.mem_of_getElem? (i := 20) rfl)), (ch_17 _ (List.mem_of_getElem? (i := 13) rfl)), ⟨kh_RX12.1, kh_RX12.2.1, by decide +kernel⟩, by decide, kh_RX12.2.2⟩, (ch_27 _ (List.mem_of_getElem? (i := 21) rfl)), (ch_27 _ (List.mem_of_getElem? (i := 22) rfl))⟩
abbrev bJ0_length_8abf5 : BT := (yJ0_length_8abf5, cJ0_length_8abf5, 1, (some .int))
theorem okJ0_length_8abf5 : mV bJ0_length_8abf5 0 := ⟨⟨(ch_27 _ (List.mem_of_getElem? (i := 23) rfl)), (ch_27 _ (List.mem_of_getElem? (i := 24) rfl)), ⟨kh_RJ0.1, kh_RJ0.2.1, by decide +kernel⟩, by decide, kh_RJ0.2.2⟩, (ch_28 _ (List.mem_of_getElem? (i := 0) rfl)), (ch_28 _ (List.mem_of_getElem? (i := 1) rfl))⟩
abbrev bJ0_charAt_5068e : BT := (yJ0_charAt_5068e, cJ0_charAt_5068e, 2, (some .char))
theorem okJ0_charAt_5068e : mV bJ0_charAt_5068e 1 := ⟨⟨(ch_28 _ (List.mem_of_getElem? (i := 2) rfl)), (ch_27 _ (List.mem_of_getElem? (i := 24) rfl)), ⟨kh_RJ0.1, kh_RJ0.2.1, by decide +kernel⟩, by decide, kh_RJ0.2.2⟩, (ch_28 _ (List.mem_of_getElem? (i := 3) rfl)), (ch_28 _ (List.mem_of_getElem? (i := 4) rfl))⟩
abbrev bJ0_indexOf_0f7a4 : BT := (yJ0_indexOf_0f7a4, cJ0_indexOf_0f7a4, 2, (some .int))
theorem okJ0_indexOf_0f7a4 : mV bJ0_indexOf_0f7a4 1 := ⟨⟨(ch_28 _ (List.mem_of_getElem? (i := 5) rfl)), (ch_27 _ (List.mem_of_getElem? (i := 24) rfl)), ⟨kh_RJ0.1, kh_RJ0.2.1, by decide +kernel⟩, by decide, kh_RJ0.2.2⟩, (ch_28 _ (List.mem_of_getElem? (i := 6) rfl)), (ch_28 _ (List.mem_of_getElem? (i := 7) rfl))⟩
abbrev bJ0_indexOf_7cf53 : BT := (yJ0_indexOf_7cf53, cJ0_indexOf_7cf53, 3, (some .int))
theorem okJ0_indexOf_7cf53 : mV bJ0_indexOf_7cf53 2 := ⟨⟨(ch_28 _ (List.mem_of_getElem? (i := 8) rfl)), (ch_27 _ (List.mem_of_getElem? (i := 24) rfl)), ⟨kh_RJ0.1, kh_RJ0.2.1, by decide +kernel⟩, by decide, kh_RJ0.2.2⟩, (ch_28 _ (List.mem_of_getElem? (i := 9) rfl)), (ch_28 _ (List.mem_of_getElem? (i := 10) rfl))⟩
abbrev bJ0_coder_7d493 : BT := (yJ0_coder_7d493, cJ0_coder_7d493, 1, (some .byte))
theorem okJ0_coder_7d493 : mV bJ0_coder_7d493 0 := ⟨⟨(ch_28 _ (List.mem_of_getElem? (i := 11) rfl)), (ch_27 _ (List.mem_of_getElem? (i := 24) rfl)), ⟨kh_RJ0.1, kh_RJ0.2.1, by decide +kernel⟩, by decide, kh_RJ0.2.2⟩, (ch_28 _ (List.mem_of_getElem? (i := 12) rfl)), (ch_28 _ (List.mem_of_getElem? (i := 13) rfl))⟩
abbrev bJ0_isLatin1_aae02 : BT := (yJ0_isLatin1_aae02, cJ0_isLatin1_aae02, 1, (some .boolean))
theorem okJ0_isLatin1_aae02 : mV bJ0_isLatin1_aae02 0 := ⟨⟨(ch_28 _ (List.mem_of_getElem? (i := 14) rfl)), (ch_27 _ (List.mem_of_getElem? (i := 24) rfl)), ⟨kh_RJ0.1, kh_RJ0.2.1, by decide +kernel⟩, by decide, kh_RJ0.2.2⟩, (ch_28 _ (List.mem_of_getElem? (i := 15) rfl)), (ch_28 _ (List.mem_of_getElem? (i := 16) rfl))⟩
abbrev bJ0_checkIndex_df160 : BT := (yJ0_checkIndex_df160, cJ0_checkIndex_df160, 2, none)
theorem okJ0_checkIndex_df160 : mS bJ0_checkIndex_df160 2 := ⟨⟨(ch_28 _ (List.mem_of_getElem? (i := 17) rfl)), (ch_27 _ (List.mem_of_getElem? (i := 24) rfl)), ⟨kh_RJ0.1, kh_RJ0.2.1, by decide +kernel⟩, by decide, kh_RJ0.2.2⟩, (ch_28 _ (List.mem_of_getElem? (i := 18) rfl))⟩
abbrev bJ1_charAt_3b067 : BT := (yJ1_charAt_3b067, cJ1_charAt_3b067, 2, (some .char))
theorem okJ1_charAt_3b067 : mS bJ1_charAt_3b067 2 := ⟨⟨(ch_28 _ (List.mem_of_getElem? (i := 19) rfl)), (ch_28 _ (List.mem_of_getElem? (i := 20) rfl)), ⟨kh_RJ1.1, kh_RJ1.2.1, by decide +kernel⟩, by decide, kh_RJ1.2.2⟩, (ch_28 _ (List.mem_of_getElem? (i := 21) rfl))⟩
abbrev bJ1_canEncode_9a6ad : BT := (yJ1_canEncode_9a6ad, cJ1_canEncode_9a6ad, 1, (some .boolean))
theorem okJ1_canEncode_9a6ad : mS bJ1_canEncode_9a6ad 1 := ⟨⟨(ch_28 _ (List.mem_of_getElem? (i := 22) rfl)), (ch_28 _ (List.mem_of_getElem? (i := 20) rfl)), ⟨kh_RJ1.1, kh_RJ1.2.1, by decide +kernel⟩, by decide, kh_RJ1.2.2⟩, (ch_28 _ (List.mem_of_getElem? (i := 23) rfl))⟩
abbrev bJ1_indexOf_4cfef : BT := (yJ1_indexOf_4cfef, cJ1_indexOf_4cfef, 4, (some .int))
theorem okJ1_indexOf_4cfef : mS bJ1_indexOf_4cfef 4 := ⟨⟨(ch_28 _ (List.mem_of_getElem? (i := 24) rfl)), (ch_28 _ (List.mem_of_getElem? (i := 20) rfl)), ⟨kh_RJ1.1, kh_RJ1.2.1, by decide +kernel⟩, by decide, kh_RJ1.2.2⟩, (ch_29 _ (List.mem_of_getElem? (i := 0) rfl))⟩
abbrev bJ1_indexOfChar_4cfef : BT := (yJ1_indexOfChar_4cfef, cJ1_indexOfChar_4cfef, 6, (some .int))
theorem okJ1_indexOfChar_4cfef : mS bJ1_indexOfChar_4cfef 4 := ⟨⟨(ch_29 _ (List.mem_of_getElem? (i := 1) rfl)), (ch_28 _ (List.mem_of_getElem? (i := 20) rfl)), ⟨kh_RJ1.1, kh_RJ1.2.1, by decide +kernel⟩, by decide, kh_RJ1.2.2⟩, (ch_29 _ (List.mem_of_getElem? (i := 2) rfl))⟩
abbrev bJ3_checkIndex_8e157 : BT := (yJ3_checkIndex_8e157, cJ3_checkIndex_8e157, 3, (some .int))
theorem okJ3_checkIndex_8e157 : mS bJ3_checkIndex_8e157 3 := ⟨⟨(ch_29 _ (List.mem_of_getElem? (i := 3) rfl)), (ch_29 _ (List.mem_of_getElem? (i := 4) rfl)), ⟨kh_RJ3.1, kh_RJ3.2.1, by decide +kernel⟩, by decide, kh_RJ3.2.2⟩, (ch_29 _ (List.mem_of_getElem? (i := 5) rfl))⟩
abbrev bJ6_bitCount_0f7a4 : BT := (yJ6_bitCount_0f7a4, cJ6_bitCount_0f7a4, 1, (some .int))
theorem okJ6_bitCount_0f7a4 : mS bJ6_bitCount_0f7a4 1 := ⟨⟨(ch_29 _ (List.mem_of_getElem? (i := 6) rfl)), (ch_29 _ (List.mem_of_getElem? (i := 7) rfl)), ⟨kh_RJ6.1, kh_RJ6.2.1, by decide +kernel⟩, by decide, kh_RJ6.2.2⟩, (ch_29 _ (List.mem_of_getElem? (i := 8) rfl))⟩
abbrev bJ7_fill_53178 : BT := (yJ7_fill_53178, cJ7_fill_53178, 4, none)
theorem okJ7_fill_53178 : mS bJ7_fill_53178 2 := ⟨⟨(ch_29 _ (List.mem_of_getElem? (i := 9) rfl)), (ch_29 _ (List.mem_of_getElem? (i := 10) rfl)), ⟨kh_RJ7.1, kh_RJ7.2.1, by decide +kernel⟩, by decide, kh_RJ7.2.2⟩, (ch_29 _ (List.mem_of_getElem? (i := 11) rfl))⟩
theorem kf_RX11_9 : Cond.fieldLink RX11 9 RX11 "tape" "[B" ∈ am_ws := (ch_29 _ (List.mem_of_getElem? (i := 12) rfl))
theorem kf_RX11_16 : Cond.fieldLink RX11 16 RX11 "tokens" "LSignalBook$Tokens;" ∈ am_ws := (ch_29 _ (List.mem_of_getElem? (i := 13) rfl))
theorem kf_RX11_25 : Cond.fieldLink RX11 25 RX11 "reader" "LSignalBook$Reader;" ∈ am_ws := (ch_29 _ (List.mem_of_getElem? (i := 14) rfl))
theorem kf_RX11_32 : Cond.fieldLink RX11 32 RX11 "worker" "LSignalBook$Worker;" ∈ am_ws := (ch_29 _ (List.mem_of_getElem? (i := 15) rfl))
theorem kf_RX11_38 : Cond.fieldLink RX11 38 RX11 "books" "[LSignalBook$Book;" ∈ am_ws := (ch_29 _ (List.mem_of_getElem? (i := 16) rfl))
theorem kf_RX11_44 : Cond.fieldLink RX11 44 RX11 "sets" "[LSignalBook$Selection;" ∈ am_ws := (ch_29 _ (List.mem_of_getElem? (i := 17) rfl))
theorem kf_RX11_48 : Cond.fieldLink RX11 48 RX11 "maps" "[LSignalBook$Selection;" ∈ am_ws := (ch_29 _ (List.mem_of_getElem? (i := 18) rfl))
theorem kf_RX11_53 : Cond.fieldLink RX11 53 RX11 "messages" "[LSignalBook$Message;" ∈ am_ws := (ch_29 _ (List.mem_of_getElem? (i := 19) rfl))
theorem kf_RX11_58 : Cond.fieldLink RX11 58 RX11 "draft" "LSignalBook$Message;" ∈ am_ws := (ch_29 _ (List.mem_of_getElem? (i := 20) rfl))
theorem kf_RX11_62 : Cond.fieldLink RX11 62 RX11 "tapeLength" "I" ∈ am_ws := (ch_29 _ (List.mem_of_getElem? (i := 21) rfl))
theorem kf_RX11_70 : Cond.fieldLink RX11 70 RX11 "bookCount" "I" ∈ am_ws := (ch_29 _ (List.mem_of_getElem? (i := 22) rfl))
theorem kf_RX11_81 : Cond.fieldLink RX11 81 RX5 "fault" "I" ∈ am_ws := (ch_29 _ (List.mem_of_getElem? (i := 23) rfl))
theorem kf_RX11_84 : Cond.fieldLink RX11 84 RX11 "latestFault" "I" ∈ am_ws := (ch_29 _ (List.mem_of_getElem? (i := 24) rfl))
theorem kf_RX11_87 : Cond.fieldLink RX11 87 RX5 "faultPlace" "I" ∈ am_ws := (ch_30 _ (List.mem_of_getElem? (i := 0) rfl))
theorem kf_RX11_94 : Cond.fieldLink RX11 94 RX0 "enumCount" "I" ∈ am_ws := (ch_30 _ (List.mem_of_getElem? (i := 1) rfl))
theorem kf_RX11_97 : Cond.fieldLink RX11 97 RX0 "actCount" "I" ∈ am_ws := (ch_30 _ (List.mem_of_getElem? (i := 2) rfl))
theorem kf_RX11_100 : Cond.fieldLink RX11 100 RX0 "startCount" "I" ∈ am_ws := (ch_30 _ (List.mem_of_getElem? (i := 3) rfl))
theorem kf_RX11_103 : Cond.fieldLink RX11 103 RX0 "seenCount" "I" ∈ am_ws := (ch_30 _ (List.mem_of_getElem? (i := 4) rfl))
theorem kf_RX11_110 : Cond.fieldLink RX11 110 RX3 "constantCount" "I" ∈ am_ws := (ch_30 _ (List.mem_of_getElem? (i := 5) rfl))
theorem kf_RX11_115 : Cond.fieldLink RX11 115 RX3 "tableCount" "I" ∈ am_ws := (ch_30 _ (List.mem_of_getElem? (i := 6) rfl))
theorem kf_RX11_118 : Cond.fieldLink RX11 118 RX3 "checkCount" "I" ∈ am_ws := (ch_30 _ (List.mem_of_getElem? (i := 7) rfl))
theorem kf_RX11_121 : Cond.fieldLink RX11 121 RX3 "holderCount" "I" ∈ am_ws := (ch_30 _ (List.mem_of_getElem? (i := 8) rfl))
theorem kf_RX11_124 : Cond.fieldLink RX11 124 RX3 "switchCount" "I" ∈ am_ws := (ch_30 _ (List.mem_of_getElem? (i := 9) rfl))
theorem kf_RX11_135 : Cond.fieldLink RX11 135 RX3 "name" "J" ∈ am_ws := (ch_30 _ (List.mem_of_getElem? (i := 10) rfl))
theorem kf_RX11_147 : Cond.fieldLink RX11 147 RX2 "name" "J" ∈ am_ws := (ch_30 _ (List.mem_of_getElem? (i := 11) rfl))
theorem kf_RX11_154 : Cond.fieldLink RX11 154 RX3 "bodies" "[I" ∈ am_ws := (ch_30 _ (List.mem_of_getElem? (i := 12) rfl))
theorem kf_RX11_158 : Cond.fieldLink RX11 158 RX2 "bodies" "[I" ∈ am_ws := (ch_30 _ (List.mem_of_getElem? (i := 13) rfl))
theorem kf_RX11_162 : Cond.fieldLink RX11 162 RX2 "argument" "I" ∈ am_ws := (ch_30 _ (List.mem_of_getElem? (i := 14) rfl))
theorem kf_RX11_165 : Cond.fieldLink RX11 165 RX11 "latestOut" "I" ∈ am_ws := (ch_30 _ (List.mem_of_getElem? (i := 15) rfl))
theorem kf_RX11_179 : Cond.fieldLink RX11 179 RX8 "entryCount" "I" ∈ am_ws := (ch_30 _ (List.mem_of_getElem? (i := 16) rfl))
theorem kf_RX11_184 : Cond.fieldLink RX11 184 RX8 "entries" "[I" ∈ am_ws := (ch_30 _ (List.mem_of_getElem? (i := 17) rfl))
theorem kf_RX11_187 : Cond.fieldLink RX11 187 RX3 "holderValues" "[I" ∈ am_ws := (ch_30 _ (List.mem_of_getElem? (i := 18) rfl))
theorem kf_RX11_204 : Cond.fieldLink RX11 204 RX0 "starts" "[I" ∈ am_ws := (ch_30 _ (List.mem_of_getElem? (i := 19) rfl))
theorem kf_RX11_207 : Cond.fieldLink RX11 207 RX0 "seenBy" "[I" ∈ am_ws := (ch_30 _ (List.mem_of_getElem? (i := 20) rfl))
theorem kf_RX11_210 : Cond.fieldLink RX11 210 RX0 "seenOf" "[I" ∈ am_ws := (ch_30 _ (List.mem_of_getElem? (i := 21) rfl))
theorem kf_RX11_213 : Cond.fieldLink RX11 213 RX11 "setCount" "I" ∈ am_ws := (ch_30 _ (List.mem_of_getElem? (i := 22) rfl))
theorem kf_RX11_237 : Cond.fieldLink RX11 237 RX6 "book" "I" ∈ am_ws := (ch_30 _ (List.mem_of_getElem? (i := 23) rfl))
theorem kf_RX11_240 : Cond.fieldLink RX11 240 RX6 "enumNumber" "I" ∈ am_ws := (ch_30 _ (List.mem_of_getElem? (i := 24) rfl))
theorem kf_RX11_243 : Cond.fieldLink RX11 243 RX6 "bits" "I" ∈ am_ws := (ch_31 _ (List.mem_of_getElem? (i := 0) rfl))
theorem kf_RX11_258 : Cond.fieldLink RX11 258 RX11 "mapCount" "I" ∈ am_ws := (ch_31 _ (List.mem_of_getElem? (i := 1) rfl))
theorem kf_RX11_261 : Cond.fieldLink RX11 261 RX6 "values" "[I" ∈ am_ws := (ch_31 _ (List.mem_of_getElem? (i := 2) rfl))
theorem kf_RX11_270 : Cond.fieldLink RX11 270 RX11 "messageCount" "I" ∈ am_ws := (ch_31 _ (List.mem_of_getElem? (i := 3) rfl))
theorem kf_RX11_277 : Cond.fieldLink RX11 277 RX9 "places" "[I" ∈ am_ws := (ch_31 _ (List.mem_of_getElem? (i := 4) rfl))
theorem kf_RX11_280 : Cond.fieldLink RX11 280 RX4 "book" "I" ∈ am_ws := (ch_31 _ (List.mem_of_getElem? (i := 5) rfl))
theorem kf_RX11_285 : Cond.fieldLink RX11 285 RX4 "count" "I" ∈ am_ws := (ch_31 _ (List.mem_of_getElem? (i := 6) rfl))
theorem kf_RX11_288 : Cond.fieldLink RX11 288 RX4 "enums" "[I" ∈ am_ws := (ch_31 _ (List.mem_of_getElem? (i := 7) rfl))
theorem kf_RX11_291 : Cond.fieldLink RX11 291 RX4 "ordinals" "[I" ∈ am_ws := (ch_31 _ (List.mem_of_getElem? (i := 8) rfl))
theorem kf_RX11_294 : Cond.fieldLink RX11 294 RX4 "added" "[I" ∈ am_ws := (ch_31 _ (List.mem_of_getElem? (i := 9) rfl))
theorem kf_RX11_323 : Cond.fieldLink RX11 323 RX10 "failing" "Z" ∈ am_ws := (ch_31 _ (List.mem_of_getElem? (i := 10) rfl))
theorem kf_RX0_11 : Cond.fieldLink RX0 11 RX0 "enums" "[LSignalBook$Enumeration;" ∈ am_ws := (ch_31 _ (List.mem_of_getElem? (i := 11) rfl))
theorem kf_RX0_17 : Cond.fieldLink RX0 17 RX0 "enumCount" "I" ∈ am_ws := (ch_31 _ (List.mem_of_getElem? (i := 12) rfl))
theorem kf_RX0_21 : Cond.fieldLink RX0 21 RX0 "code" "LSignalBook$Code;" ∈ am_ws := (ch_31 _ (List.mem_of_getElem? (i := 13) rfl))
theorem kf_RX0_25 : Cond.fieldLink RX0 25 RX0 "states" "[I" ∈ am_ws := (ch_31 _ (List.mem_of_getElem? (i := 14) rfl))
theorem kf_RX0_29 : Cond.fieldLink RX0 29 RX0 "starts" "[I" ∈ am_ws := (ch_31 _ (List.mem_of_getElem? (i := 15) rfl))
theorem kf_RX0_32 : Cond.fieldLink RX0 32 RX1 "length" "I" ∈ am_ws := (ch_31 _ (List.mem_of_getElem? (i := 16) rfl))
theorem kf_RX0_37 : Cond.fieldLink RX0 37 RX0 "seenBy" "[I" ∈ am_ws := (ch_31 _ (List.mem_of_getElem? (i := 17) rfl))
theorem kf_RX0_40 : Cond.fieldLink RX0 40 RX0 "seenOf" "[I" ∈ am_ws := (ch_31 _ (List.mem_of_getElem? (i := 18) rfl))
theorem kf_RX0_43 : Cond.fieldLink RX0 43 RX3 "name" "J" ∈ am_ws := (ch_31 _ (List.mem_of_getElem? (i := 19) rfl))
theorem kf_RX0_62 : Cond.fieldLink RX0 62 RX3 "holderCount" "I" ∈ am_ws := (ch_31 _ (List.mem_of_getElem? (i := 20) rfl))
theorem kf_RX0_65 : Cond.fieldLink RX0 65 RX0 "startCount" "I" ∈ am_ws := (ch_31 _ (List.mem_of_getElem? (i := 21) rfl))
theorem kf_RX0_68 : Cond.fieldLink RX0 68 RX0 "seenCount" "I" ∈ am_ws := (ch_31 _ (List.mem_of_getElem? (i := 22) rfl))
theorem kf_RX0_71 : Cond.fieldLink RX0 71 RX3 "endCode" "I" ∈ am_ws := (ch_31 _ (List.mem_of_getElem? (i := 23) rfl))
theorem kf_RX0_80 : Cond.fieldLink RX0 80 RX3 "firstCode" "I" ∈ am_ws := (ch_31 _ (List.mem_of_getElem? (i := 24) rfl))
theorem kf_RX0_90 : Cond.fieldLink RX0 90 RX1 "ops" "[I" ∈ am_ws := (ch_32 _ (List.mem_of_getElem? (i := 0) rfl))
theorem kf_RX0_93 : Cond.fieldLink RX0 93 RX3 "constantCount" "I" ∈ am_ws := (ch_32 _ (List.mem_of_getElem? (i := 1) rfl))
theorem kf_RX0_100 : Cond.fieldLink RX0 100 RX1 "args" "[I" ∈ am_ws := (ch_32 _ (List.mem_of_getElem? (i := 2) rfl))
theorem kf_RX0_103 : Cond.fieldLink RX0 103 RX9 "kinds" "[I" ∈ am_ws := (ch_32 _ (List.mem_of_getElem? (i := 3) rfl))
theorem kf_RX0_108 : Cond.fieldLink RX0 108 RX9 "values" "[J" ∈ am_ws := (ch_32 _ (List.mem_of_getElem? (i := 4) rfl))
theorem kf_RX1_13 : Cond.fieldLink RX1 13 RX1 "ops" "[I" ∈ am_ws := (ch_32 _ (List.mem_of_getElem? (i := 5) rfl))
theorem kf_RX1_19 : Cond.fieldLink RX1 19 RX1 "args" "[I" ∈ am_ws := (ch_32 _ (List.mem_of_getElem? (i := 6) rfl))
theorem kf_RX1_22 : Cond.fieldLink RX1 22 RX1 "length" "I" ∈ am_ws := (ch_32 _ (List.mem_of_getElem? (i := 7) rfl))
theorem kf_RX2_9 : Cond.fieldLink RX2 9 RX2 "argumentCode" "I" ∈ am_ws := (ch_32 _ (List.mem_of_getElem? (i := 8) rfl))
theorem kf_RX2_15 : Cond.fieldLink RX2 15 RX2 "bodies" "[I" ∈ am_ws := (ch_32 _ (List.mem_of_getElem? (i := 9) rfl))
theorem kf_RX2_19 : Cond.fieldLink RX2 19 RX2 "name" "J" ∈ am_ws := (ch_32 _ (List.mem_of_getElem? (i := 10) rfl))
theorem kf_RX3_11 : Cond.fieldLink RX3 11 RX3 "constants" "[LSignalBook$Constant;" ∈ am_ws := (ch_32 _ (List.mem_of_getElem? (i := 11) rfl))
theorem kf_RX3_17 : Cond.fieldLink RX3 17 RX3 "bodies" "[I" ∈ am_ws := (ch_32 _ (List.mem_of_getElem? (i := 12) rfl))
theorem kf_RX3_23 : Cond.fieldLink RX3 23 RX3 "tables" "[LSignalBook$Table;" ∈ am_ws := (ch_32 _ (List.mem_of_getElem? (i := 13) rfl))
theorem kf_RX3_27 : Cond.fieldLink RX3 27 RX3 "checkCodes" "[I" ∈ am_ws := (ch_32 _ (List.mem_of_getElem? (i := 14) rfl))
theorem kf_RX3_30 : Cond.fieldLink RX3 30 RX3 "holderNames" "[J" ∈ am_ws := (ch_32 _ (List.mem_of_getElem? (i := 15) rfl))
theorem kf_RX3_34 : Cond.fieldLink RX3 34 RX3 "holderCodes" "[I" ∈ am_ws := (ch_32 _ (List.mem_of_getElem? (i := 16) rfl))
theorem kf_RX3_37 : Cond.fieldLink RX3 37 RX3 "holderValues" "[I" ∈ am_ws := (ch_32 _ (List.mem_of_getElem? (i := 17) rfl))
theorem kf_RX3_42 : Cond.fieldLink RX3 42 RX3 "switches" "[LSignalBook$Switch;" ∈ am_ws := (ch_32 _ (List.mem_of_getElem? (i := 18) rfl))
theorem kf_RX3_46 : Cond.fieldLink RX3 46 RX3 "name" "J" ∈ am_ws := (ch_32 _ (List.mem_of_getElem? (i := 19) rfl))
theorem kf_RX3_56 : Cond.fieldLink RX3 56 RX3 "constantCount" "I" ∈ am_ws := (ch_32 _ (List.mem_of_getElem? (i := 20) rfl))
theorem kf_RX3_60 : Cond.fieldLink RX3 60 RX3 "tableCount" "I" ∈ am_ws := (ch_32 _ (List.mem_of_getElem? (i := 21) rfl))
theorem kf_RX3_63 : Cond.fieldLink RX3 63 RX3 "switchCount" "I" ∈ am_ws := (ch_32 _ (List.mem_of_getElem? (i := 22) rfl))
theorem kf_RX3_66 : Cond.fieldLink RX3 66 RX2 "name" "J" ∈ am_ws := (ch_32 _ (List.mem_of_getElem? (i := 23) rfl))
theorem kf_RX3_67 : Cond.fieldLink RX3 67 RX8 "name" "J" ∈ am_ws := (ch_32 _ (List.mem_of_getElem? (i := 24) rfl))
theorem kf_RX3_68 : Cond.fieldLink RX3 68 RX3 "holderCount" "I" ∈ am_ws := (ch_33 _ (List.mem_of_getElem? (i := 0) rfl))
theorem kf_RX3_71 : Cond.fieldLink RX3 71 RX7 "name" "J" ∈ am_ws := (ch_33 _ (List.mem_of_getElem? (i := 1) rfl))
theorem kf_RX4_9 : Cond.fieldLink RX4 9 RX4 "enums" "[I" ∈ am_ws := (ch_33 _ (List.mem_of_getElem? (i := 2) rfl))
theorem kf_RX4_15 : Cond.fieldLink RX4 15 RX4 "ordinals" "[I" ∈ am_ws := (ch_33 _ (List.mem_of_getElem? (i := 3) rfl))
theorem kf_RX4_18 : Cond.fieldLink RX4 18 RX4 "added" "[I" ∈ am_ws := (ch_33 _ (List.mem_of_getElem? (i := 4) rfl))
theorem kf_RX4_21 : Cond.fieldLink RX4 21 RX4 "count" "I" ∈ am_ws := (ch_33 _ (List.mem_of_getElem? (i := 5) rfl))
theorem kf_RX4_25 : Cond.fieldLink RX4 25 RX9 "count" "I" ∈ am_ws := (ch_33 _ (List.mem_of_getElem? (i := 6) rfl))
theorem kf_RX4_28 : Cond.fieldLink RX4 28 RX9 "kinds" "[I" ∈ am_ws := (ch_33 _ (List.mem_of_getElem? (i := 7) rfl))
theorem kf_RX4_31 : Cond.fieldLink RX4 31 RX9 "values" "[J" ∈ am_ws := (ch_33 _ (List.mem_of_getElem? (i := 8) rfl))
theorem kf_RX4_39 : Cond.fieldLink RX4 39 RX0 "enumCount" "I" ∈ am_ws := (ch_33 _ (List.mem_of_getElem? (i := 9) rfl))
theorem kf_RX5_14 : Cond.fieldLink RX5 14 RX5 "code" "LSignalBook$Code;" ∈ am_ws := (ch_33 _ (List.mem_of_getElem? (i := 10) rfl))
theorem kf_RX5_20 : Cond.fieldLink RX5 20 RX5 "acts" "[J" ∈ am_ws := (ch_33 _ (List.mem_of_getElem? (i := 11) rfl))
theorem kf_RX5_24 : Cond.fieldLink RX5 24 RX5 "tokens" "LSignalBook$Tokens;" ∈ am_ws := (ch_33 _ (List.mem_of_getElem? (i := 12) rfl))
theorem kf_RX5_28 : Cond.fieldLink RX5 28 RX5 "fault" "I" ∈ am_ws := (ch_33 _ (List.mem_of_getElem? (i := 13) rfl))
theorem kf_RX5_32 : Cond.fieldLink RX5 32 RX5 "faultPlace" "I" ∈ am_ws := (ch_33 _ (List.mem_of_getElem? (i := 14) rfl))
theorem kf_RX5_35 : Cond.fieldLink RX5 35 RX1 "length" "I" ∈ am_ws := (ch_33 _ (List.mem_of_getElem? (i := 15) rfl))
theorem kf_RX5_41 : Cond.fieldLink RX5 41 RX5 "book" "LSignalBook$Book;" ∈ am_ws := (ch_33 _ (List.mem_of_getElem? (i := 16) rfl))
theorem kf_RX5_45 : Cond.fieldLink RX5 45 RX5 "at" "I" ∈ am_ws := (ch_33 _ (List.mem_of_getElem? (i := 17) rfl))
theorem kf_RX5_52 : Cond.fieldLink RX5 52 RX5 "kind" "I" ∈ am_ws := (ch_33 _ (List.mem_of_getElem? (i := 18) rfl))
theorem kf_RX5_79 : Cond.fieldLink RX5 79 RX9 "places" "[I" ∈ am_ws := (ch_33 _ (List.mem_of_getElem? (i := 19) rfl))
theorem kf_RX5_83 : Cond.fieldLink RX5 83 RX0 "enumCount" "I" ∈ am_ws := (ch_33 _ (List.mem_of_getElem? (i := 20) rfl))
theorem kf_RX5_86 : Cond.fieldLink RX5 86 RX5 "value" "J" ∈ am_ws := (ch_33 _ (List.mem_of_getElem? (i := 21) rfl))
theorem kf_RX5_100 : Cond.fieldLink RX5 100 RX5 "newName" "J" ∈ am_ws := (ch_33 _ (List.mem_of_getElem? (i := 22) rfl))
theorem kf_RX5_106 : Cond.fieldLink RX5 106 RX5 "current" "LSignalBook$Enumeration;" ∈ am_ws := (ch_33 _ (List.mem_of_getElem? (i := 23) rfl))
theorem kf_RX5_110 : Cond.fieldLink RX5 110 RX3 "firstCode" "I" ∈ am_ws := (ch_33 _ (List.mem_of_getElem? (i := 24) rfl))
theorem kf_RX5_128 : Cond.fieldLink RX5 128 RX3 "constantCount" "I" ∈ am_ws := (ch_34 _ (List.mem_of_getElem? (i := 0) rfl))
theorem kf_RX5_134 : Cond.fieldLink RX5 134 RX3 "constants" "[LSignalBook$Constant;" ∈ am_ws := (ch_34 _ (List.mem_of_getElem? (i := 1) rfl))
theorem kf_RX5_138 : Cond.fieldLink RX5 138 RX2 "argumentCode" "I" ∈ am_ws := (ch_34 _ (List.mem_of_getElem? (i := 2) rfl))
theorem kf_RX5_141 : Cond.fieldLink RX5 141 RX5 "setting" "I" ∈ am_ws := (ch_34 _ (List.mem_of_getElem? (i := 3) rfl))
theorem kf_RX5_147 : Cond.fieldLink RX5 147 RX2 "bodies" "[I" ∈ am_ws := (ch_34 _ (List.mem_of_getElem? (i := 4) rfl))
theorem kf_RX5_157 : Cond.fieldLink RX5 157 RX0 "actCount" "I" ∈ am_ws := (ch_34 _ (List.mem_of_getElem? (i := 5) rfl))
theorem kf_RX5_160 : Cond.fieldLink RX5 160 RX3 "bodies" "[I" ∈ am_ws := (ch_34 _ (List.mem_of_getElem? (i := 6) rfl))
theorem kf_RX5_173 : Cond.fieldLink RX5 173 RX3 "endCode" "I" ∈ am_ws := (ch_34 _ (List.mem_of_getElem? (i := 7) rfl))
theorem kf_RX5_176 : Cond.fieldLink RX5 176 RX3 "tableCount" "I" ∈ am_ws := (ch_34 _ (List.mem_of_getElem? (i := 8) rfl))
theorem kf_RX5_186 : Cond.fieldLink RX5 186 RX3 "tables" "[LSignalBook$Table;" ∈ am_ws := (ch_34 _ (List.mem_of_getElem? (i := 9) rfl))
theorem kf_RX5_194 : Cond.fieldLink RX5 194 RX8 "entryCodes" "[I" ∈ am_ws := (ch_34 _ (List.mem_of_getElem? (i := 10) rfl))
theorem kf_RX5_197 : Cond.fieldLink RX5 197 RX8 "entryCount" "I" ∈ am_ws := (ch_34 _ (List.mem_of_getElem? (i := 11) rfl))
theorem kf_RX5_203 : Cond.fieldLink RX5 203 RX3 "checkCount" "I" ∈ am_ws := (ch_34 _ (List.mem_of_getElem? (i := 12) rfl))
theorem kf_RX5_206 : Cond.fieldLink RX5 206 RX3 "checkCodes" "[I" ∈ am_ws := (ch_34 _ (List.mem_of_getElem? (i := 13) rfl))
theorem kf_RX5_209 : Cond.fieldLink RX5 209 RX3 "holderCount" "I" ∈ am_ws := (ch_34 _ (List.mem_of_getElem? (i := 14) rfl))
theorem kf_RX5_212 : Cond.fieldLink RX5 212 RX3 "holderNames" "[J" ∈ am_ws := (ch_34 _ (List.mem_of_getElem? (i := 15) rfl))
theorem kf_RX5_215 : Cond.fieldLink RX5 215 RX3 "holderCodes" "[I" ∈ am_ws := (ch_34 _ (List.mem_of_getElem? (i := 16) rfl))
theorem kf_RX5_218 : Cond.fieldLink RX5 218 RX3 "switchCount" "I" ∈ am_ws := (ch_34 _ (List.mem_of_getElem? (i := 17) rfl))
theorem kf_RX5_224 : Cond.fieldLink RX5 224 RX3 "switches" "[LSignalBook$Switch;" ∈ am_ws := (ch_34 _ (List.mem_of_getElem? (i := 18) rfl))
theorem kf_RX5_232 : Cond.fieldLink RX5 232 RX7 "elseCode" "I" ∈ am_ws := (ch_34 _ (List.mem_of_getElem? (i := 19) rfl))
theorem kf_RX5_235 : Cond.fieldLink RX5 235 RX7 "caseCount" "I" ∈ am_ws := (ch_34 _ (List.mem_of_getElem? (i := 20) rfl))
theorem kf_RX5_241 : Cond.fieldLink RX5 241 RX7 "caseNames" "[J" ∈ am_ws := (ch_34 _ (List.mem_of_getElem? (i := 21) rfl))
theorem kf_RX5_244 : Cond.fieldLink RX5 244 RX7 "caseCodes" "[I" ∈ am_ws := (ch_34 _ (List.mem_of_getElem? (i := 22) rfl))
theorem kf_RX5_264 : Cond.fieldLink RX5 264 RX9 "count" "I" ∈ am_ws := (ch_34 _ (List.mem_of_getElem? (i := 23) rfl))
theorem kf_RX5_273 : Cond.fieldLink RX5 273 RX9 "kinds" "[I" ∈ am_ws := (ch_34 _ (List.mem_of_getElem? (i := 24) rfl))
theorem kf_RX5_276 : Cond.fieldLink RX5 276 RX9 "values" "[J" ∈ am_ws := (ch_35 _ (List.mem_of_getElem? (i := 0) rfl))
theorem kf_RX6_9 : Cond.fieldLink RX6 9 RX6 "values" "[I" ∈ am_ws := (ch_35 _ (List.mem_of_getElem? (i := 1) rfl))
theorem kf_RX6_15 : Cond.fieldLink RX6 15 RX6 "book" "I" ∈ am_ws := (ch_35 _ (List.mem_of_getElem? (i := 2) rfl))
theorem kf_RX6_19 : Cond.fieldLink RX6 19 RX6 "enumNumber" "I" ∈ am_ws := (ch_35 _ (List.mem_of_getElem? (i := 3) rfl))
theorem kf_RX6_22 : Cond.fieldLink RX6 22 RX6 "bits" "I" ∈ am_ws := (ch_35 _ (List.mem_of_getElem? (i := 4) rfl))
theorem kf_RX7_9 : Cond.fieldLink RX7 9 RX7 "caseNames" "[J" ∈ am_ws := (ch_35 _ (List.mem_of_getElem? (i := 5) rfl))
theorem kf_RX7_15 : Cond.fieldLink RX7 15 RX7 "caseCodes" "[I" ∈ am_ws := (ch_35 _ (List.mem_of_getElem? (i := 6) rfl))
theorem kf_RX7_19 : Cond.fieldLink RX7 19 RX7 "name" "J" ∈ am_ws := (ch_35 _ (List.mem_of_getElem? (i := 7) rfl))
theorem kf_RX7_23 : Cond.fieldLink RX7 23 RX7 "caseCount" "I" ∈ am_ws := (ch_35 _ (List.mem_of_getElem? (i := 8) rfl))
theorem kf_RX8_9 : Cond.fieldLink RX8 9 RX8 "entryCodes" "[I" ∈ am_ws := (ch_35 _ (List.mem_of_getElem? (i := 9) rfl))
theorem kf_RX8_15 : Cond.fieldLink RX8 15 RX8 "entries" "[I" ∈ am_ws := (ch_35 _ (List.mem_of_getElem? (i := 10) rfl))
theorem kf_RX8_18 : Cond.fieldLink RX8 18 RX8 "name" "J" ∈ am_ws := (ch_35 _ (List.mem_of_getElem? (i := 11) rfl))
theorem kf_RX9_9 : Cond.fieldLink RX9 9 RX9 "kinds" "[I" ∈ am_ws := (ch_35 _ (List.mem_of_getElem? (i := 12) rfl))
theorem kf_RX9_15 : Cond.fieldLink RX9 15 RX9 "places" "[I" ∈ am_ws := (ch_35 _ (List.mem_of_getElem? (i := 13) rfl))
theorem kf_RX9_18 : Cond.fieldLink RX9 18 RX9 "values" "[J" ∈ am_ws := (ch_35 _ (List.mem_of_getElem? (i := 14) rfl))
theorem kf_RX9_22 : Cond.fieldLink RX9 22 RX9 "count" "I" ∈ am_ws := (ch_35 _ (List.mem_of_getElem? (i := 15) rfl))
theorem kf_RX9_26 : Cond.fieldLink RX9 26 RX9 "keywords" "[J" ∈ am_ws := (ch_35 _ (List.mem_of_getElem? (i := 16) rfl))
theorem kf_RX10_11 : Cond.fieldLink RX10 11 RX10 "stack" "[I" ∈ am_ws := (ch_35 _ (List.mem_of_getElem? (i := 17) rfl))
theorem kf_RX10_15 : Cond.fieldLink RX10 15 RX10 "underWay" "[I" ∈ am_ws := (ch_35 _ (List.mem_of_getElem? (i := 18) rfl))
theorem kf_RX10_18 : Cond.fieldLink RX10 18 RX10 "causeKinds" "[I" ∈ am_ws := (ch_35 _ (List.mem_of_getElem? (i := 19) rfl))
theorem kf_RX10_21 : Cond.fieldLink RX10 21 RX10 "causeItems" "[I" ∈ am_ws := (ch_35 _ (List.mem_of_getElem? (i := 20) rfl))
theorem kf_RX10_24 : Cond.fieldLink RX10 24 RX10 "book" "LSignalBook$Book;" ∈ am_ws := (ch_35 _ (List.mem_of_getElem? (i := 21) rfl))
theorem kf_RX10_28 : Cond.fieldLink RX10 28 RX10 "failing" "Z" ∈ am_ws := (ch_35 _ (List.mem_of_getElem? (i := 22) rfl))
theorem kf_RX10_32 : Cond.fieldLink RX10 32 RX10 "top" "I" ∈ am_ws := (ch_35 _ (List.mem_of_getElem? (i := 23) rfl))
theorem kf_RX10_36 : Cond.fieldLink RX10 36 RX10 "underWayCount" "I" ∈ am_ws := (ch_35 _ (List.mem_of_getElem? (i := 24) rfl))
theorem kf_RX10_43 : Cond.fieldLink RX10 43 RX10 "causeCount" "I" ∈ am_ws := (ch_36 _ (List.mem_of_getElem? (i := 0) rfl))
theorem kf_RX10_59 : Cond.fieldLink RX10 59 RX10 "aboveKnown" "Z" ∈ am_ws := (ch_36 _ (List.mem_of_getElem? (i := 1) rfl))
theorem kf_RX10_68 : Cond.fieldLink RX10 68 RX2 "bodies" "[I" ∈ am_ws := (ch_36 _ (List.mem_of_getElem? (i := 2) rfl))
theorem kf_RX10_81 : Cond.fieldLink RX10 81 RX3 "bodies" "[I" ∈ am_ws := (ch_36 _ (List.mem_of_getElem? (i := 3) rfl))
theorem kf_RX10_82 : Cond.fieldLink RX10 82 RX7 "caseCount" "I" ∈ am_ws := (ch_36 _ (List.mem_of_getElem? (i := 4) rfl))
theorem kf_RX10_87 : Cond.fieldLink RX10 87 RX7 "caseCodes" "[I" ∈ am_ws := (ch_36 _ (List.mem_of_getElem? (i := 5) rfl))
theorem kf_RX10_90 : Cond.fieldLink RX10 90 RX0 "code" "LSignalBook$Code;" ∈ am_ws := (ch_36 _ (List.mem_of_getElem? (i := 6) rfl))
theorem kf_RX10_94 : Cond.fieldLink RX10 94 RX1 "length" "I" ∈ am_ws := (ch_36 _ (List.mem_of_getElem? (i := 7) rfl))
theorem kf_RX10_99 : Cond.fieldLink RX10 99 RX1 "args" "[I" ∈ am_ws := (ch_36 _ (List.mem_of_getElem? (i := 8) rfl))
theorem kf_RX10_102 : Cond.fieldLink RX10 102 RX7 "elseCode" "I" ∈ am_ws := (ch_36 _ (List.mem_of_getElem? (i := 9) rfl))
theorem kf_RX10_136 : Cond.fieldLink RX10 136 RX3 "holderCount" "I" ∈ am_ws := (ch_36 _ (List.mem_of_getElem? (i := 10) rfl))
theorem kf_RX10_139 : Cond.fieldLink RX10 139 RX3 "holderValues" "[I" ∈ am_ws := (ch_36 _ (List.mem_of_getElem? (i := 11) rfl))
theorem kf_RX10_142 : Cond.fieldLink RX10 142 RX3 "holderCodes" "[I" ∈ am_ws := (ch_36 _ (List.mem_of_getElem? (i := 12) rfl))
theorem kf_RX10_145 : Cond.fieldLink RX10 145 RX3 "constantCount" "I" ∈ am_ws := (ch_36 _ (List.mem_of_getElem? (i := 13) rfl))
theorem kf_RX10_151 : Cond.fieldLink RX10 151 RX3 "tableCount" "I" ∈ am_ws := (ch_36 _ (List.mem_of_getElem? (i := 14) rfl))
theorem kf_RX10_154 : Cond.fieldLink RX10 154 RX3 "tables" "[LSignalBook$Table;" ∈ am_ws := (ch_36 _ (List.mem_of_getElem? (i := 15) rfl))
theorem kf_RX10_162 : Cond.fieldLink RX10 162 RX3 "checkCount" "I" ∈ am_ws := (ch_36 _ (List.mem_of_getElem? (i := 16) rfl))
theorem kf_RX10_165 : Cond.fieldLink RX10 165 RX3 "checkCodes" "[I" ∈ am_ws := (ch_36 _ (List.mem_of_getElem? (i := 17) rfl))
theorem kf_RX10_168 : Cond.fieldLink RX10 168 RX3 "constants" "[LSignalBook$Constant;" ∈ am_ws := (ch_36 _ (List.mem_of_getElem? (i := 18) rfl))
theorem kf_RX10_172 : Cond.fieldLink RX10 172 RX2 "argumentCode" "I" ∈ am_ws := (ch_36 _ (List.mem_of_getElem? (i := 19) rfl))
theorem kf_RX10_175 : Cond.fieldLink RX10 175 RX2 "argument" "I" ∈ am_ws := (ch_36 _ (List.mem_of_getElem? (i := 20) rfl))
theorem kf_RX10_178 : Cond.fieldLink RX10 178 RX3 "made" "I" ∈ am_ws := (ch_36 _ (List.mem_of_getElem? (i := 21) rfl))
theorem kf_RX10_181 : Cond.fieldLink RX10 181 RX8 "entryCount" "I" ∈ am_ws := (ch_36 _ (List.mem_of_getElem? (i := 22) rfl))
theorem kf_RX10_186 : Cond.fieldLink RX10 186 RX8 "entries" "[I" ∈ am_ws := (ch_36 _ (List.mem_of_getElem? (i := 23) rfl))
theorem kf_RX10_189 : Cond.fieldLink RX10 189 RX8 "entryCodes" "[I" ∈ am_ws := (ch_36 _ (List.mem_of_getElem? (i := 24) rfl))
theorem kf_RX10_192 : Cond.fieldLink RX10 192 RX8 "there" "I" ∈ am_ws := (ch_37 _ (List.mem_of_getElem? (i := 0) rfl))
theorem kf_RX10_201 : Cond.fieldLink RX10 201 RX1 "ops" "[I" ∈ am_ws := (ch_37 _ (List.mem_of_getElem? (i := 1) rfl))
theorem kf_RX10_235 : Cond.fieldLink RX10 235 RX10 "aboveValue" "I" ∈ am_ws := (ch_37 _ (List.mem_of_getElem? (i := 2) rfl))
theorem kf_RX12_7 : Cond.fieldLink RX12 7 RX12 "tape" "[B" ∈ am_ws := (ch_37 _ (List.mem_of_getElem? (i := 3) rfl))
theorem kf_RX12_13 : Cond.fieldLink RX12 13 RX12 "texts" "[B" ∈ am_ws := (ch_37 _ (List.mem_of_getElem? (i := 4) rfl))
theorem kf_RX12_16 : Cond.fieldLink RX12 16 RX12 "enums" "[I" ∈ am_ws := (ch_37 _ (List.mem_of_getElem? (i := 5) rfl))
theorem kf_RX12_20 : Cond.fieldLink RX12 20 RX12 "acts" "[I" ∈ am_ws := (ch_37 _ (List.mem_of_getElem? (i := 6) rfl))
theorem kf_RX12_23 : Cond.fieldLink RX12 23 RX12 "actName" "[I" ∈ am_ws := (ch_37 _ (List.mem_of_getElem? (i := 7) rfl))
theorem kf_RX12_26 : Cond.fieldLink RX12 26 RX12 "enumName" "[I" ∈ am_ws := (ch_37 _ (List.mem_of_getElem? (i := 8) rfl))
theorem kf_RX12_29 : Cond.fieldLink RX12 29 RX12 "constants" "[I" ∈ am_ws := (ch_37 _ (List.mem_of_getElem? (i := 9) rfl))
theorem kf_RX12_32 : Cond.fieldLink RX12 32 RX12 "tables" "[I" ∈ am_ws := (ch_37 _ (List.mem_of_getElem? (i := 10) rfl))
theorem kf_RX12_35 : Cond.fieldLink RX12 35 RX12 "checks" "[I" ∈ am_ws := (ch_37 _ (List.mem_of_getElem? (i := 11) rfl))
theorem kf_RX12_38 : Cond.fieldLink RX12 38 RX12 "holders" "[I" ∈ am_ws := (ch_37 _ (List.mem_of_getElem? (i := 12) rfl))
theorem kf_RX12_41 : Cond.fieldLink RX12 41 RX12 "switches" "[I" ∈ am_ws := (ch_37 _ (List.mem_of_getElem? (i := 13) rfl))
theorem kf_RX12_44 : Cond.fieldLink RX12 44 RX12 "enumBody" "[I" ∈ am_ws := (ch_37 _ (List.mem_of_getElem? (i := 14) rfl))
theorem kf_RX12_47 : Cond.fieldLink RX12 47 RX12 "constantName" "[I" ∈ am_ws := (ch_37 _ (List.mem_of_getElem? (i := 15) rfl))
theorem kf_RX12_50 : Cond.fieldLink RX12 50 RX12 "argument" "[I" ∈ am_ws := (ch_37 _ (List.mem_of_getElem? (i := 16) rfl))
theorem kf_RX12_53 : Cond.fieldLink RX12 53 RX12 "constantBody" "[I" ∈ am_ws := (ch_37 _ (List.mem_of_getElem? (i := 17) rfl))
theorem kf_RX12_56 : Cond.fieldLink RX12 56 RX12 "tableName" "[I" ∈ am_ws := (ch_37 _ (List.mem_of_getElem? (i := 18) rfl))
theorem kf_RX12_59 : Cond.fieldLink RX12 59 RX12 "tableSize" "[I" ∈ am_ws := (ch_37 _ (List.mem_of_getElem? (i := 19) rfl))
theorem kf_RX12_62 : Cond.fieldLink RX12 62 RX12 "entry" "[I" ∈ am_ws := (ch_37 _ (List.mem_of_getElem? (i := 20) rfl))
theorem kf_RX12_65 : Cond.fieldLink RX12 65 RX12 "check" "[I" ∈ am_ws := (ch_37 _ (List.mem_of_getElem? (i := 21) rfl))
theorem kf_RX12_68 : Cond.fieldLink RX12 68 RX12 "holderName" "[I" ∈ am_ws := (ch_37 _ (List.mem_of_getElem? (i := 22) rfl))
theorem kf_RX12_71 : Cond.fieldLink RX12 71 RX12 "holder" "[I" ∈ am_ws := (ch_37 _ (List.mem_of_getElem? (i := 23) rfl))
theorem kf_RX12_74 : Cond.fieldLink RX12 74 RX12 "switchName" "[I" ∈ am_ws := (ch_37 _ (List.mem_of_getElem? (i := 24) rfl))
theorem kf_RX12_77 : Cond.fieldLink RX12 77 RX12 "cases" "[I" ∈ am_ws := (ch_38 _ (List.mem_of_getElem? (i := 0) rfl))
theorem kf_RX12_80 : Cond.fieldLink RX12 80 RX12 "caseName" "[I" ∈ am_ws := (ch_38 _ (List.mem_of_getElem? (i := 1) rfl))
theorem kf_RX12_83 : Cond.fieldLink RX12 83 RX12 "caseOf" "[I" ∈ am_ws := (ch_38 _ (List.mem_of_getElem? (i := 2) rfl))
theorem kf_RX12_86 : Cond.fieldLink RX12 86 RX12 "caseExpr" "[I" ∈ am_ws := (ch_38 _ (List.mem_of_getElem? (i := 3) rfl))
theorem kf_RX12_89 : Cond.fieldLink RX12 89 RX12 "otherwise" "[I" ∈ am_ws := (ch_38 _ (List.mem_of_getElem? (i := 4) rfl))
theorem kf_RX12_92 : Cond.fieldLink RX12 92 RX12 "xKind" "[I" ∈ am_ws := (ch_38 _ (List.mem_of_getElem? (i := 5) rfl))
theorem kf_RX12_95 : Cond.fieldLink RX12 95 RX12 "xA" "[I" ∈ am_ws := (ch_38 _ (List.mem_of_getElem? (i := 6) rfl))
theorem kf_RX12_98 : Cond.fieldLink RX12 98 RX12 "xB" "[I" ∈ am_ws := (ch_38 _ (List.mem_of_getElem? (i := 7) rfl))
theorem kf_RX12_101 : Cond.fieldLink RX12 101 RX12 "xUp" "[I" ∈ am_ws := (ch_38 _ (List.mem_of_getElem? (i := 8) rfl))
theorem kf_RX12_104 : Cond.fieldLink RX12 104 RX12 "xEnum" "[I" ∈ am_ws := (ch_38 _ (List.mem_of_getElem? (i := 9) rfl))
theorem kf_RX12_107 : Cond.fieldLink RX12 107 RX12 "refNode" "[I" ∈ am_ws := (ch_38 _ (List.mem_of_getElem? (i := 10) rfl))
theorem kf_RX12_110 : Cond.fieldLink RX12 110 RX12 "refEnum" "[I" ∈ am_ws := (ch_38 _ (List.mem_of_getElem? (i := 11) rfl))
theorem kf_RX12_113 : Cond.fieldLink RX12 113 RX12 "refName" "[I" ∈ am_ws := (ch_38 _ (List.mem_of_getElem? (i := 12) rfl))
theorem kf_RX12_116 : Cond.fieldLink RX12 116 RX12 "states" "[I" ∈ am_ws := (ch_38 _ (List.mem_of_getElem? (i := 13) rfl))
theorem kf_RX12_119 : Cond.fieldLink RX12 119 RX12 "constantsMade" "[I" ∈ am_ws := (ch_38 _ (List.mem_of_getElem? (i := 14) rfl))
theorem kf_RX12_122 : Cond.fieldLink RX12 122 RX12 "worth" "[I" ∈ am_ws := (ch_38 _ (List.mem_of_getElem? (i := 15) rfl))
theorem kf_RX12_125 : Cond.fieldLink RX12 125 RX12 "entriesMade" "[I" ∈ am_ws := (ch_38 _ (List.mem_of_getElem? (i := 16) rfl))
theorem kf_RX12_128 : Cond.fieldLink RX12 128 RX12 "entryWorth" "[I" ∈ am_ws := (ch_38 _ (List.mem_of_getElem? (i := 17) rfl))
theorem kf_RX12_131 : Cond.fieldLink RX12 131 RX12 "holderWorth" "[I" ∈ am_ws := (ch_38 _ (List.mem_of_getElem? (i := 18) rfl))
theorem kf_RX12_134 : Cond.fieldLink RX12 134 RX12 "starts" "[I" ∈ am_ws := (ch_38 _ (List.mem_of_getElem? (i := 19) rfl))
theorem kf_RX12_137 : Cond.fieldLink RX12 137 RX12 "started" "[I" ∈ am_ws := (ch_38 _ (List.mem_of_getElem? (i := 20) rfl))
theorem kf_RX12_140 : Cond.fieldLink RX12 140 RX12 "seenBy" "[I" ∈ am_ws := (ch_38 _ (List.mem_of_getElem? (i := 21) rfl))
theorem kf_RX12_143 : Cond.fieldLink RX12 143 RX12 "seenOf" "[I" ∈ am_ws := (ch_38 _ (List.mem_of_getElem? (i := 22) rfl))
theorem kf_RX12_146 : Cond.fieldLink RX12 146 RX12 "seens" "[I" ∈ am_ws := (ch_38 _ (List.mem_of_getElem? (i := 23) rfl))
theorem kf_RX12_149 : Cond.fieldLink RX12 149 RX12 "underWay" "[I" ∈ am_ws := (ch_38 _ (List.mem_of_getElem? (i := 24) rfl))
theorem kf_RX12_152 : Cond.fieldLink RX12 152 RX12 "causes" "[I" ∈ am_ws := (ch_39 _ (List.mem_of_getElem? (i := 0) rfl))
theorem kf_RX12_155 : Cond.fieldLink RX12 155 RX12 "causeBy" "[I" ∈ am_ws := (ch_39 _ (List.mem_of_getElem? (i := 1) rfl))
theorem kf_RX12_158 : Cond.fieldLink RX12 158 RX12 "setEnum" "[I" ∈ am_ws := (ch_39 _ (List.mem_of_getElem? (i := 2) rfl))
theorem kf_RX12_161 : Cond.fieldLink RX12 161 RX12 "setBits" "[I" ∈ am_ws := (ch_39 _ (List.mem_of_getElem? (i := 3) rfl))
theorem kf_RX12_164 : Cond.fieldLink RX12 164 RX12 "mapEnum" "[I" ∈ am_ws := (ch_39 _ (List.mem_of_getElem? (i := 4) rfl))
theorem kf_RX12_167 : Cond.fieldLink RX12 167 RX12 "mapBits" "[I" ∈ am_ws := (ch_39 _ (List.mem_of_getElem? (i := 5) rfl))
theorem kf_RX12_170 : Cond.fieldLink RX12 170 RX12 "mapValue" "[I" ∈ am_ws := (ch_39 _ (List.mem_of_getElem? (i := 6) rfl))
theorem kf_RX12_173 : Cond.fieldLink RX12 173 RX12 "messageBook" "[I" ∈ am_ws := (ch_39 _ (List.mem_of_getElem? (i := 7) rfl))
theorem kf_RX12_176 : Cond.fieldLink RX12 176 RX12 "messageSize" "[I" ∈ am_ws := (ch_39 _ (List.mem_of_getElem? (i := 8) rfl))
theorem kf_RX12_179 : Cond.fieldLink RX12 179 RX12 "signals" "[I" ∈ am_ws := (ch_39 _ (List.mem_of_getElem? (i := 9) rfl))
theorem kf_RX12_182 : Cond.fieldLink RX12 182 RX12 "added" "[I" ∈ am_ws := (ch_39 _ (List.mem_of_getElem? (i := 10) rfl))
theorem kf_RX12_185 : Cond.fieldLink RX12 185 RX12 "line" "[B" ∈ am_ws := (ch_39 _ (List.mem_of_getElem? (i := 11) rfl))
theorem kf_RX12_192 : Cond.fieldLink RX12 192 RX12 "taped" "I" ∈ am_ws := (ch_39 _ (List.mem_of_getElem? (i := 12) rfl))
theorem kf_RX12_195 : Cond.fieldLink RX12 195 RX12 "behind" "I" ∈ am_ws := (ch_39 _ (List.mem_of_getElem? (i := 13) rfl))
theorem kf_RX12_198 : Cond.fieldLink RX12 198 RX12 "from" "I" ∈ am_ws := (ch_39 _ (List.mem_of_getElem? (i := 14) rfl))
theorem kf_RX12_205 : Cond.fieldLink RX12 205 RX12 "kind" "I" ∈ am_ws := (ch_39 _ (List.mem_of_getElem? (i := 15) rfl))
theorem kf_RX12_215 : Cond.fieldLink RX12 215 RX12 "numeral" "I" ∈ am_ws := (ch_39 _ (List.mem_of_getElem? (i := 16) rfl))
theorem kf_RX12_263 : Cond.fieldLink RX12 263 RX12 "now" "I" ∈ am_ws := (ch_39 _ (List.mem_of_getElem? (i := 17) rfl))
theorem kf_RX12_266 : Cond.fieldLink RX12 266 RX12 "expressions" "I" ∈ am_ws := (ch_39 _ (List.mem_of_getElem? (i := 18) rfl))
theorem kf_RX12_269 : Cond.fieldLink RX12 269 RX12 "g" "I" ∈ am_ws := (ch_39 _ (List.mem_of_getElem? (i := 19) rfl))
theorem kf_RX12_275 : Cond.fieldLink RX12 275 RX12 "wrong" "I" ∈ am_ws := (ch_39 _ (List.mem_of_getElem? (i := 20) rfl))
theorem kf_RX12_278 : Cond.fieldLink RX12 278 RX12 "wrongAt" "I" ∈ am_ws := (ch_39 _ (List.mem_of_getElem? (i := 21) rfl))
theorem kf_RX12_301 : Cond.fieldLink RX12 301 RX12 "refs" "I" ∈ am_ws := (ch_39 _ (List.mem_of_getElem? (i := 22) rfl))
theorem kf_RX12_353 : Cond.fieldLink RX12 353 RX12 "mayValue" "Z" ∈ am_ws := (ch_39 _ (List.mem_of_getElem? (i := 23) rfl))
theorem kf_RX12_357 : Cond.fieldLink RX12 357 RX12 "mayOrd" "Z" ∈ am_ws := (ch_39 _ (List.mem_of_getElem? (i := 24) rfl))
theorem kf_RX12_360 : Cond.fieldLink RX12 360 RX12 "mayAbove" "Z" ∈ am_ws := (ch_40 _ (List.mem_of_getElem? (i := 0) rfl))
theorem kf_RX12_363 : Cond.fieldLink RX12 363 RX12 "nest" "I" ∈ am_ws := (ch_40 _ (List.mem_of_getElem? (i := 1) rfl))
theorem kf_RX12_392 : Cond.fieldLink RX12 392 RX12 "books" "I" ∈ am_ws := (ch_40 _ (List.mem_of_getElem? (i := 2) rfl))
theorem kf_RX12_401 : Cond.fieldLink RX12 401 RX12 "failed" "Z" ∈ am_ws := (ch_40 _ (List.mem_of_getElem? (i := 3) rfl))
theorem kf_RX12_404 : Cond.fieldLink RX12 404 RX12 "causeCount" "I" ∈ am_ws := (ch_40 _ (List.mem_of_getElem? (i := 4) rfl))
theorem kf_RX12_413 : Cond.fieldLink RX12 413 RX12 "deep" "I" ∈ am_ws := (ch_40 _ (List.mem_of_getElem? (i := 5) rfl))
theorem kf_RX12_442 : Cond.fieldLink RX12 442 RX12 "out" "I" ∈ am_ws := (ch_40 _ (List.mem_of_getElem? (i := 6) rfl))
theorem kf_RX12_461 : Cond.fieldLink RX12 461 RX12 "sets" "I" ∈ am_ws := (ch_40 _ (List.mem_of_getElem? (i := 7) rfl))
theorem kf_RX12_467 : Cond.fieldLink RX12 467 RX12 "maps" "I" ∈ am_ws := (ch_40 _ (List.mem_of_getElem? (i := 8) rfl))
theorem kf_RX12_473 : Cond.fieldLink RX12 473 RX12 "messages" "I" ∈ am_ws := (ch_40 _ (List.mem_of_getElem? (i := 9) rfl))
theorem kf_RX12_479 : Cond.fieldLink RX12 479 RX12 "lined" "I" ∈ am_ws := (ch_40 _ (List.mem_of_getElem? (i := 10) rfl))
theorem kf_RJ0_9 : Cond.fieldLink RJ0 9 RJ0 "value" "[B" ∈ am_ws := (ch_40 _ (List.mem_of_getElem? (i := 11) rfl))
theorem kf_RJ0_15 : Cond.fieldLink RJ0 15 RJ0 "coder" "B" ∈ am_ws := (ch_40 _ (List.mem_of_getElem? (i := 12) rfl))
theorem kf_RJ0_38 : Cond.fieldLink RJ0 38 RJ0 "COMPACT_STRINGS" "Z" ∈ am_ws := (ch_40 _ (List.mem_of_getElem? (i := 13) rfl))
theorem kf_RJ0_1053 : Cond.fieldLink RJ0 1053 RJ3 "SIOOBE_FORMATTER" "Ljava/util/function/BiFunction;" ∈ am_ws := (ch_40 _ (List.mem_of_getElem? (i := 14) rfl))
theorem kf_RJ2_44 : Cond.fieldLink RJ2 44 RJ2 "$assertionsDisabled" "Z" ∈ am_ws := (ch_40 _ (List.mem_of_getElem? (i := 15) rfl))
theorem kf_RJ2_59 : Cond.fieldLink RJ2 59 RJ2 "HI_BYTE_SHIFT" "I" ∈ am_ws := (ch_40 _ (List.mem_of_getElem? (i := 16) rfl))
theorem kf_RJ2_63 : Cond.fieldLink RJ2 63 RJ2 "LO_BYTE_SHIFT" "I" ∈ am_ws := (ch_40 _ (List.mem_of_getElem? (i := 17) rfl))
theorem km_RX11_3 : Cond.methodLink RX11 3 Lib.objectInit ∈ am_ws := (ch_40 _ (List.mem_of_getElem? (i := 18) rfl))
theorem km_RX11_15 : Cond.methodLink RX11 15 yX9_init ∈ am_ws := (ch_40 _ (List.mem_of_getElem? (i := 19) rfl))
theorem km_RX11_22 : Cond.methodLink RX11 22 yX5_init ∈ am_ws := (ch_40 _ (List.mem_of_getElem? (i := 20) rfl))
theorem km_RX11_66 : Cond.methodLink RX11 66 yX11_putByte ∈ am_ws := (ch_40 _ (List.mem_of_getElem? (i := 21) rfl))
theorem km_RX11_73 : Cond.methodLink RX11 73 yX9_cutUp ∈ am_ws := (ch_40 _ (List.mem_of_getElem? (i := 22) rfl))
theorem km_RX11_77 : Cond.methodLink RX11 77 yX5_readBook ∈ am_ws := (ch_40 _ (List.mem_of_getElem? (i := 23) rfl))
theorem km_RX11_90 : Cond.methodLink RX11 90 yX11_bookAt ∈ am_ws := (ch_40 _ (List.mem_of_getElem? (i := 24) rfl))
theorem km_RX11_106 : Cond.methodLink RX11 106 yX11_enumOf ∈ am_ws := (ch_41 _ (List.mem_of_getElem? (i := 0) rfl))
theorem km_RX11_127 : Cond.methodLink RX11 127 yX0_hasItem ∈ am_ws := (ch_41 _ (List.mem_of_getElem? (i := 1) rfl))
theorem km_RX11_131 : Cond.methodLink RX11 131 yX0_stateOf ∈ am_ws := (ch_41 _ (List.mem_of_getElem? (i := 2) rfl))
theorem km_RX11_139 : Cond.methodLink RX11 139 yX11_letterOf ∈ am_ws := (ch_41 _ (List.mem_of_getElem? (i := 3) rfl))
theorem km_RX11_143 : Cond.methodLink RX11 143 yX3_constantAt ∈ am_ws := (ch_41 _ (List.mem_of_getElem? (i := 4) rfl))
theorem km_RX11_150 : Cond.methodLink RX11 150 yX11_hasAct ∈ am_ws := (ch_41 _ (List.mem_of_getElem? (i := 5) rfl))
theorem km_RX11_159 : Cond.methodLink RX11 159 yX11_usedWell ∈ am_ws := (ch_41 _ (List.mem_of_getElem? (i := 6) rfl))
theorem km_RX11_168 : Cond.methodLink RX11 168 yX10_perform ∈ am_ws := (ch_41 _ (List.mem_of_getElem? (i := 7) rfl))
theorem km_RX11_172 : Cond.methodLink RX11 172 yX11_giveOut ∈ am_ws := (ch_41 _ (List.mem_of_getElem? (i := 8) rfl))
theorem km_RX11_175 : Cond.methodLink RX11 175 yX3_tableAt ∈ am_ws := (ch_41 _ (List.mem_of_getElem? (i := 9) rfl))
theorem km_RX11_190 : Cond.methodLink RX11 190 yX3_switchAt ∈ am_ws := (ch_41 _ (List.mem_of_getElem? (i := 10) rfl))
theorem km_RX11_194 : Cond.methodLink RX11 194 yX10_choose ∈ am_ws := (ch_41 _ (List.mem_of_getElem? (i := 11) rfl))
theorem km_RX11_198 : Cond.methodLink RX11 198 yX10_causeKind ∈ am_ws := (ch_41 _ (List.mem_of_getElem? (i := 12) rfl))
theorem km_RX11_201 : Cond.methodLink RX11 201 yX10_causeItem ∈ am_ws := (ch_41 _ (List.mem_of_getElem? (i := 13) rfl))
theorem km_RX11_216 : Cond.methodLink RX11 216 yX6_init ∈ am_ws := (ch_41 _ (List.mem_of_getElem? (i := 14) rfl))
theorem km_RX11_219 : Cond.methodLink RX11 219 yX11_keepSet ∈ am_ws := (ch_41 _ (List.mem_of_getElem? (i := 15) rfl))
theorem km_RX11_223 : Cond.methodLink RX11 223 yX11_setAt ∈ am_ws := (ch_41 _ (List.mem_of_getElem? (i := 16) rfl))
theorem km_RX11_227 : Cond.methodLink RX11 227 yX11_isConstant ∈ am_ws := (ch_41 _ (List.mem_of_getElem? (i := 17) rfl))
theorem km_RX11_231 : Cond.methodLink RX11 231 yX6_include ∈ am_ws := (ch_41 _ (List.mem_of_getElem? (i := 18) rfl))
theorem km_RX11_234 : Cond.methodLink RX11 234 yX6_exclude ∈ am_ws := (ch_41 _ (List.mem_of_getElem? (i := 19) rfl))
theorem km_RX11_246 : Cond.methodLink RX11 246 yX11_joined ∈ am_ws := (ch_41 _ (List.mem_of_getElem? (i := 20) rfl))
theorem km_RX11_250 : Cond.methodLink RX11 250 yJ6_bitCount_0f7a4 ∈ am_ws := (ch_41 _ (List.mem_of_getElem? (i := 21) rfl))
theorem km_RX11_255 : Cond.methodLink RX11 255 yX6_ordinalAt ∈ am_ws := (ch_41 _ (List.mem_of_getElem? (i := 22) rfl))
theorem km_RX11_264 : Cond.methodLink RX11 264 yX11_mapAt ∈ am_ws := (ch_41 _ (List.mem_of_getElem? (i := 23) rfl))
theorem km_RX11_267 : Cond.methodLink RX11 267 yX6_contains ∈ am_ws := (ch_41 _ (List.mem_of_getElem? (i := 24) rfl))
theorem km_RX11_273 : Cond.methodLink RX11 273 yX4_readFrom ∈ am_ws := (ch_42 _ (List.mem_of_getElem? (i := 0) rfl))
theorem km_RX11_281 : Cond.methodLink RX11 281 yX11_messageAt ∈ am_ws := (ch_42 _ (List.mem_of_getElem? (i := 1) rfl))
theorem km_RX11_297 : Cond.methodLink RX11 297 yX11_nameOf ∈ am_ws := (ch_42 _ (List.mem_of_getElem? (i := 2) rfl))
theorem km_RX11_301 : Cond.methodLink RX11 301 yX11_putName ∈ am_ws := (ch_42 _ (List.mem_of_getElem? (i := 3) rfl))
theorem km_RX11_305 : Cond.methodLink RX11 305 yX11_putNumber ∈ am_ws := (ch_42 _ (List.mem_of_getElem? (i := 4) rfl))
theorem km_RX11_308 : Cond.methodLink RX11 308 yX9_lengthOfName ∈ am_ws := (ch_42 _ (List.mem_of_getElem? (i := 5) rfl))
theorem km_RX11_312 : Cond.methodLink RX11 312 yX9_signOfName ∈ am_ws := (ch_42 _ (List.mem_of_getElem? (i := 6) rfl))
theorem km_RX11_315 : Cond.methodLink RX11 315 yX0_enumAt ∈ am_ws := (ch_42 _ (List.mem_of_getElem? (i := 7) rfl))
theorem km_RX11_319 : Cond.methodLink RX11 319 yX10_beginWith ∈ am_ws := (ch_42 _ (List.mem_of_getElem? (i := 8) rfl))
theorem km_RX0_3 : Cond.methodLink RX0 3 Lib.objectInit ∈ am_ws := (ch_42 _ (List.mem_of_getElem? (i := 9) rfl))
theorem km_RX0_47 : Cond.methodLink RX0 47 yX0_isHolder ∈ am_ws := (ch_42 _ (List.mem_of_getElem? (i := 10) rfl))
theorem km_RX0_51 : Cond.methodLink RX0 51 yX0_enumOfItem ∈ am_ws := (ch_42 _ (List.mem_of_getElem? (i := 11) rfl))
theorem km_RX0_55 : Cond.methodLink RX0 55 yX0_enumAt ∈ am_ws := (ch_42 _ (List.mem_of_getElem? (i := 12) rfl))
theorem km_RX0_59 : Cond.methodLink RX0 59 yX0_holderOfItem ∈ am_ws := (ch_42 _ (List.mem_of_getElem? (i := 13) rfl))
theorem km_RX0_74 : Cond.methodLink RX0 74 yJ9_min_7cf53 ∈ am_ws := (ch_42 _ (List.mem_of_getElem? (i := 14) rfl))
theorem km_RX0_83 : Cond.methodLink RX0 83 yJ9_max_7cf53 ∈ am_ws := (ch_42 _ (List.mem_of_getElem? (i := 15) rfl))
theorem km_RX0_86 : Cond.methodLink RX0 86 yX0_linkStep ∈ am_ws := (ch_42 _ (List.mem_of_getElem? (i := 16) rfl))
theorem km_RX0_96 : Cond.methodLink RX0 96 yX0_relink ∈ am_ws := (ch_42 _ (List.mem_of_getElem? (i := 17) rfl))
theorem km_RX0_112 : Cond.methodLink RX0 112 yX0_findEnum ∈ am_ws := (ch_42 _ (List.mem_of_getElem? (i := 18) rfl))
theorem km_RX0_116 : Cond.methodLink RX0 116 yX0_linkTo ∈ am_ws := (ch_42 _ (List.mem_of_getElem? (i := 19) rfl))
theorem km_RX0_120 : Cond.methodLink RX0 120 yX3_findTable ∈ am_ws := (ch_42 _ (List.mem_of_getElem? (i := 20) rfl))
theorem km_RX0_123 : Cond.methodLink RX0 123 yX3_findConstant ∈ am_ws := (ch_42 _ (List.mem_of_getElem? (i := 21) rfl))
theorem km_RX0_126 : Cond.methodLink RX0 126 yX3_findHolder ∈ am_ws := (ch_42 _ (List.mem_of_getElem? (i := 22) rfl))
theorem km_RX1_1 : Cond.methodLink RX1 1 Lib.objectInit ∈ am_ws := (ch_42 _ (List.mem_of_getElem? (i := 23) rfl))
theorem km_RX1_7 : Cond.methodLink RX1 7 yJ9_max_7cf53 ∈ am_ws := (ch_42 _ (List.mem_of_getElem? (i := 24) rfl))
theorem km_RX1_26 : Cond.methodLink RX1 26 yX1_init ∈ am_ws := (ch_43 _ (List.mem_of_getElem? (i := 0) rfl))
theorem km_RX1_29 : Cond.methodLink RX1 29 arraycopyName ∈ am_ws := (ch_43 _ (List.mem_of_getElem? (i := 1) rfl))
theorem km_RX2_3 : Cond.methodLink RX2 3 Lib.objectInit ∈ am_ws := (ch_43 _ (List.mem_of_getElem? (i := 2) rfl))
theorem km_RX2_23 : Cond.methodLink RX2 23 yJ7_fill_53178 ∈ am_ws := (ch_43 _ (List.mem_of_getElem? (i := 3) rfl))
theorem km_RX3_3 : Cond.methodLink RX3 3 Lib.objectInit ∈ am_ws := (ch_43 _ (List.mem_of_getElem? (i := 4) rfl))
theorem km_RX3_50 : Cond.methodLink RX3 50 yJ7_fill_53178 ∈ am_ws := (ch_43 _ (List.mem_of_getElem? (i := 5) rfl))
theorem km_RX3_72 : Cond.methodLink RX3 72 yX3_findConstant ∈ am_ws := (ch_43 _ (List.mem_of_getElem? (i := 6) rfl))
theorem km_RX3_76 : Cond.methodLink RX3 76 yX3_findTable ∈ am_ws := (ch_43 _ (List.mem_of_getElem? (i := 7) rfl))
theorem km_RX3_79 : Cond.methodLink RX3 79 yX3_findHolder ∈ am_ws := (ch_43 _ (List.mem_of_getElem? (i := 8) rfl))
theorem km_RX3_82 : Cond.methodLink RX3 82 yX3_findSwitch ∈ am_ws := (ch_43 _ (List.mem_of_getElem? (i := 9) rfl))
theorem km_RX4_3 : Cond.methodLink RX4 3 Lib.objectInit ∈ am_ws := (ch_43 _ (List.mem_of_getElem? (i := 10) rfl))
theorem km_RX4_35 : Cond.methodLink RX4 35 yX4_keepSignal ∈ am_ws := (ch_43 _ (List.mem_of_getElem? (i := 11) rfl))
theorem km_RX4_44 : Cond.methodLink RX4 44 yX0_enumAt ∈ am_ws := (ch_43 _ (List.mem_of_getElem? (i := 12) rfl))
theorem km_RX4_48 : Cond.methodLink RX4 48 yX3_findConstant ∈ am_ws := (ch_43 _ (List.mem_of_getElem? (i := 13) rfl))
theorem km_RX5_3 : Cond.methodLink RX5 3 Lib.objectInit ∈ am_ws := (ch_43 _ (List.mem_of_getElem? (i := 14) rfl))
theorem km_RX5_11 : Cond.methodLink RX5 11 yX1_init ∈ am_ws := (ch_43 _ (List.mem_of_getElem? (i := 15) rfl))
theorem km_RX5_48 : Cond.methodLink RX5 48 yX5_pass ∈ am_ws := (ch_43 _ (List.mem_of_getElem? (i := 16) rfl))
theorem km_RX5_57 : Cond.methodLink RX5 57 yX5_readHead ∈ am_ws := (ch_43 _ (List.mem_of_getElem? (i := 17) rfl))
theorem km_RX5_61 : Cond.methodLink RX5 61 yX5_readConstants ∈ am_ws := (ch_43 _ (List.mem_of_getElem? (i := 18) rfl))
theorem km_RX5_64 : Cond.methodLink RX5 64 yX5_readMembers ∈ am_ws := (ch_43 _ (List.mem_of_getElem? (i := 19) rfl))
theorem km_RX5_67 : Cond.methodLink RX5 67 yX1_copy ∈ am_ws := (ch_43 _ (List.mem_of_getElem? (i := 20) rfl))
theorem km_RX5_71 : Cond.methodLink RX5 71 yX0_settle ∈ am_ws := (ch_43 _ (List.mem_of_getElem? (i := 21) rfl))
theorem km_RX5_75 : Cond.methodLink RX5 75 yX0_linkNames ∈ am_ws := (ch_43 _ (List.mem_of_getElem? (i := 22) rfl))
theorem km_RX5_90 : Cond.methodLink RX5 90 yX0_findEnum ∈ am_ws := (ch_43 _ (List.mem_of_getElem? (i := 23) rfl))
theorem km_RX5_94 : Cond.methodLink RX5 94 yX5_acceptNew ∈ am_ws := (ch_43 _ (List.mem_of_getElem? (i := 24) rfl))
theorem km_RX5_103 : Cond.methodLink RX5 103 yX3_init ∈ am_ws := (ch_44 _ (List.mem_of_getElem? (i := 0) rfl))
theorem km_RX5_113 : Cond.methodLink RX5 113 yX0_keepEnum ∈ am_ws := (ch_44 _ (List.mem_of_getElem? (i := 1) rfl))
theorem km_RX5_117 : Cond.methodLink RX5 117 yX5_accept ∈ am_ws := (ch_44 _ (List.mem_of_getElem? (i := 2) rfl))
theorem km_RX5_121 : Cond.methodLink RX5 121 yX5_readConstant ∈ am_ws := (ch_44 _ (List.mem_of_getElem? (i := 3) rfl))
theorem km_RX5_124 : Cond.methodLink RX5 124 yX3_knows ∈ am_ws := (ch_44 _ (List.mem_of_getElem? (i := 4) rfl))
theorem km_RX5_133 : Cond.methodLink RX5 133 yX2_init ∈ am_ws := (ch_44 _ (List.mem_of_getElem? (i := 5) rfl))
theorem km_RX5_144 : Cond.methodLink RX5 144 yX5_readSum ∈ am_ws := (ch_44 _ (List.mem_of_getElem? (i := 6) rfl))
theorem km_RX5_150 : Cond.methodLink RX5 150 yX5_readAct ∈ am_ws := (ch_44 _ (List.mem_of_getElem? (i := 7) rfl))
theorem km_RX5_154 : Cond.methodLink RX5 154 yX5_findAct ∈ am_ws := (ch_44 _ (List.mem_of_getElem? (i := 8) rfl))
theorem km_RX5_161 : Cond.methodLink RX5 161 yX5_readTable ∈ am_ws := (ch_44 _ (List.mem_of_getElem? (i := 9) rfl))
theorem km_RX5_164 : Cond.methodLink RX5 164 yX5_readCheck ∈ am_ws := (ch_44 _ (List.mem_of_getElem? (i := 10) rfl))
theorem km_RX5_167 : Cond.methodLink RX5 167 yX5_readHolder ∈ am_ws := (ch_44 _ (List.mem_of_getElem? (i := 11) rfl))
theorem km_RX5_170 : Cond.methodLink RX5 170 yX5_readSwitch ∈ am_ws := (ch_44 _ (List.mem_of_getElem? (i := 12) rfl))
theorem km_RX5_179 : Cond.methodLink RX5 179 yX5_acceptMember ∈ am_ws := (ch_44 _ (List.mem_of_getElem? (i := 13) rfl))
theorem km_RX5_185 : Cond.methodLink RX5 185 yX8_init ∈ am_ws := (ch_44 _ (List.mem_of_getElem? (i := 14) rfl))
theorem km_RX5_190 : Cond.methodLink RX5 190 yX5_readEntries ∈ am_ws := (ch_44 _ (List.mem_of_getElem? (i := 15) rfl))
theorem km_RX5_200 : Cond.methodLink RX5 200 yX5_beginsPlainExpr ∈ am_ws := (ch_44 _ (List.mem_of_getElem? (i := 16) rfl))
theorem km_RX5_223 : Cond.methodLink RX5 223 yX7_init ∈ am_ws := (ch_44 _ (List.mem_of_getElem? (i := 17) rfl))
theorem km_RX5_228 : Cond.methodLink RX5 228 yX5_readCase ∈ am_ws := (ch_44 _ (List.mem_of_getElem? (i := 18) rfl))
theorem km_RX5_238 : Cond.methodLink RX5 238 yX7_hasCase ∈ am_ws := (ch_44 _ (List.mem_of_getElem? (i := 19) rfl))
theorem km_RX5_247 : Cond.methodLink RX5 247 yX1_emit ∈ am_ws := (ch_44 _ (List.mem_of_getElem? (i := 20) rfl))
theorem km_RX5_251 : Cond.methodLink RX5 251 yX5_readFactor ∈ am_ws := (ch_44 _ (List.mem_of_getElem? (i := 21) rfl))
theorem km_RX5_254 : Cond.methodLink RX5 254 yX1_ofProduct ∈ am_ws := (ch_44 _ (List.mem_of_getElem? (i := 22) rfl))
theorem km_RX5_258 : Cond.methodLink RX5 258 yX1_ofSum ∈ am_ws := (ch_44 _ (List.mem_of_getElem? (i := 23) rfl))
theorem km_RX5_261 : Cond.methodLink RX5 261 yX5_readReference ∈ am_ws := (ch_44 _ (List.mem_of_getElem? (i := 24) rfl))
theorem km_RX5_267 : Cond.methodLink RX5 267 yJ9_min_7cf53 ∈ am_ws := (ch_45 _ (List.mem_of_getElem? (i := 0) rfl))
theorem km_RX6_3 : Cond.methodLink RX6 3 Lib.objectInit ∈ am_ws := (ch_45 _ (List.mem_of_getElem? (i := 1) rfl))
theorem km_RX6_25 : Cond.methodLink RX6 25 yX6_contains ∈ am_ws := (ch_45 _ (List.mem_of_getElem? (i := 2) rfl))
theorem km_RX7_3 : Cond.methodLink RX7 3 Lib.objectInit ∈ am_ws := (ch_45 _ (List.mem_of_getElem? (i := 3) rfl))
theorem km_RX8_3 : Cond.methodLink RX8 3 Lib.objectInit ∈ am_ws := (ch_45 _ (List.mem_of_getElem? (i := 4) rfl))
theorem km_RX9_3 : Cond.methodLink RX9 3 Lib.objectInit ∈ am_ws := (ch_45 _ (List.mem_of_getElem? (i := 5) rfl))
theorem km_RX9_31 : Cond.methodLink RX9 31 yJ0_length_8abf5 ∈ am_ws := (ch_45 _ (List.mem_of_getElem? (i := 6) rfl))
theorem km_RX9_37 : Cond.methodLink RX9 37 yJ0_charAt_5068e ∈ am_ws := (ch_45 _ (List.mem_of_getElem? (i := 7) rfl))
theorem km_RX9_41 : Cond.methodLink RX9 41 yX9_rankOf ∈ am_ws := (ch_45 _ (List.mem_of_getElem? (i := 8) rfl))
theorem km_RX9_47 : Cond.methodLink RX9 47 yX9_rowEnd ∈ am_ws := (ch_45 _ (List.mem_of_getElem? (i := 9) rfl))
theorem km_RX9_51 : Cond.methodLink RX9 51 yX9_keepRow ∈ am_ws := (ch_45 _ (List.mem_of_getElem? (i := 10) rfl))
theorem km_RX9_57 : Cond.methodLink RX9 57 yJ0_indexOf_0f7a4 ∈ am_ws := (ch_45 _ (List.mem_of_getElem? (i := 11) rfl))
theorem km_RX9_60 : Cond.methodLink RX9 60 yX9_keep ∈ am_ws := (ch_45 _ (List.mem_of_getElem? (i := 12) rfl))
theorem km_RX9_64 : Cond.methodLink RX9 64 yX9_lengthOfName ∈ am_ws := (ch_45 _ (List.mem_of_getElem? (i := 13) rfl))
theorem km_RX9_70 : Cond.methodLink RX9 70 yX9_isDigit ∈ am_ws := (ch_45 _ (List.mem_of_getElem? (i := 14) rfl))
theorem km_RX9_74 : Cond.methodLink RX9 74 yX9_keepNumber ∈ am_ws := (ch_45 _ (List.mem_of_getElem? (i := 15) rfl))
theorem km_RX9_77 : Cond.methodLink RX9 77 yX9_keepWord ∈ am_ws := (ch_45 _ (List.mem_of_getElem? (i := 16) rfl))
theorem km_RX9_82 : Cond.methodLink RX9 82 yX9_kindOfWord ∈ am_ws := (ch_45 _ (List.mem_of_getElem? (i := 17) rfl))
theorem km_RX10_3 : Cond.methodLink RX10 3 Lib.objectInit ∈ am_ws := (ch_45 _ (List.mem_of_getElem? (i := 18) rfl))
theorem km_RX10_39 : Cond.methodLink RX10 39 yX10_useItem ∈ am_ws := (ch_45 _ (List.mem_of_getElem? (i := 19) rfl))
theorem km_RX10_46 : Cond.methodLink RX10 46 yX0_stateOf ∈ am_ws := (ch_45 _ (List.mem_of_getElem? (i := 20) rfl))
theorem km_RX10_52 : Cond.methodLink RX10 52 yX10_fail ∈ am_ws := (ch_45 _ (List.mem_of_getElem? (i := 21) rfl))
theorem km_RX10_56 : Cond.methodLink RX10 56 yX10_startItem ∈ am_ws := (ch_45 _ (List.mem_of_getElem? (i := 22) rfl))
theorem km_RX10_62 : Cond.methodLink RX10 62 yX3_constantAt ∈ am_ws := (ch_45 _ (List.mem_of_getElem? (i := 23) rfl))
theorem km_RX10_73 : Cond.methodLink RX10 73 yX10_performShared ∈ am_ws := (ch_45 _ (List.mem_of_getElem? (i := 24) rfl))
theorem km_RX10_77 : Cond.methodLink RX10 77 yX10_workOut ∈ am_ws := (ch_46 _ (List.mem_of_getElem? (i := 0) rfl))
theorem km_RX10_105 : Cond.methodLink RX10 105 yX0_setState ∈ am_ws := (ch_46 _ (List.mem_of_getElem? (i := 1) rfl))
theorem km_RX10_108 : Cond.methodLink RX10 108 yX0_noteStart ∈ am_ws := (ch_46 _ (List.mem_of_getElem? (i := 2) rfl))
theorem km_RX10_111 : Cond.methodLink RX10 111 yX0_enumOfItem ∈ am_ws := (ch_46 _ (List.mem_of_getElem? (i := 3) rfl))
theorem km_RX10_114 : Cond.methodLink RX10 114 yX0_enumAt ∈ am_ws := (ch_46 _ (List.mem_of_getElem? (i := 4) rfl))
theorem km_RX10_118 : Cond.methodLink RX10 118 yX0_isHolder ∈ am_ws := (ch_46 _ (List.mem_of_getElem? (i := 5) rfl))
theorem km_RX10_122 : Cond.methodLink RX10 122 yX0_holderOfItem ∈ am_ws := (ch_46 _ (List.mem_of_getElem? (i := 6) rfl))
theorem km_RX10_125 : Cond.methodLink RX10 125 yX10_fillHolder ∈ am_ws := (ch_46 _ (List.mem_of_getElem? (i := 7) rfl))
theorem km_RX10_129 : Cond.methodLink RX10 129 yX10_makeEnum ∈ am_ws := (ch_46 _ (List.mem_of_getElem? (i := 8) rfl))
theorem km_RX10_133 : Cond.methodLink RX10 133 yX10_failAround ∈ am_ws := (ch_46 _ (List.mem_of_getElem? (i := 9) rfl))
theorem km_RX10_148 : Cond.methodLink RX10 148 yX10_makeConstant ∈ am_ws := (ch_46 _ (List.mem_of_getElem? (i := 10) rfl))
theorem km_RX10_158 : Cond.methodLink RX10 158 yX10_fillTable ∈ am_ws := (ch_46 _ (List.mem_of_getElem? (i := 11) rfl))
theorem km_RX10_195 : Cond.methodLink RX10 195 yJ9_max_7cf53 ∈ am_ws := (ch_46 _ (List.mem_of_getElem? (i := 12) rfl))
theorem km_RX10_204 : Cond.methodLink RX10 204 yX10_takeStep ∈ am_ws := (ch_46 _ (List.mem_of_getElem? (i := 13) rfl))
theorem km_RX10_208 : Cond.methodLink RX10 208 yX10_pop ∈ am_ws := (ch_46 _ (List.mem_of_getElem? (i := 14) rfl))
theorem km_RX10_212 : Cond.methodLink RX10 212 yX10_push ∈ am_ws := (ch_46 _ (List.mem_of_getElem? (i := 15) rfl))
theorem km_RX10_215 : Cond.methodLink RX10 215 yX10_argumentOf ∈ am_ws := (ch_46 _ (List.mem_of_getElem? (i := 16) rfl))
theorem km_RX10_219 : Cond.methodLink RX10 219 yX10_workOutAbove ∈ am_ws := (ch_46 _ (List.mem_of_getElem? (i := 17) rfl))
theorem km_RX10_222 : Cond.methodLink RX10 222 yX10_readConstant ∈ am_ws := (ch_46 _ (List.mem_of_getElem? (i := 18) rfl))
theorem km_RX10_225 : Cond.methodLink RX10 225 yX10_readHolder ∈ am_ws := (ch_46 _ (List.mem_of_getElem? (i := 19) rfl))
theorem km_RX10_228 : Cond.methodLink RX10 228 yX10_readEntry ∈ am_ws := (ch_46 _ (List.mem_of_getElem? (i := 20) rfl))
theorem km_RX10_232 : Cond.methodLink RX10 232 yX10_combine ∈ am_ws := (ch_46 _ (List.mem_of_getElem? (i := 21) rfl))
theorem km_RX10_238 : Cond.methodLink RX10 238 yX10_see ∈ am_ws := (ch_46 _ (List.mem_of_getElem? (i := 22) rfl))
theorem km_RX10_241 : Cond.methodLink RX10 241 yX3_tableAt ∈ am_ws := (ch_46 _ (List.mem_of_getElem? (i := 23) rfl))
theorem km_RX10_245 : Cond.methodLink RX10 245 yX0_noteSeen ∈ am_ws := (ch_46 _ (List.mem_of_getElem? (i := 24) rfl))
theorem km_RL_9 : Cond.methodLink RL 9 yX11_init ∈ am_ws := (ch_47 _ (List.mem_of_getElem? (i := 0) rfl))
theorem km_RL_12 : Cond.methodLink RL 12 yX12_init ∈ am_ws := (ch_47 _ (List.mem_of_getElem? (i := 1) rfl))
theorem km_RL_15 : Cond.methodLink RL 15 yX11_feed ∈ am_ws := (ch_47 _ (List.mem_of_getElem? (i := 2) rfl))
theorem km_RL_19 : Cond.methodLink RL 19 yX12_feed ∈ am_ws := (ch_47 _ (List.mem_of_getElem? (i := 3) rfl))
theorem km_RL_20 : Cond.methodLink RL 20 yX11_cut ∈ am_ws := (ch_47 _ (List.mem_of_getElem? (i := 4) rfl))
theorem km_RL_24 : Cond.methodLink RL 24 yX12_cut ∈ am_ws := (ch_47 _ (List.mem_of_getElem? (i := 5) rfl))
theorem km_RL_25 : Cond.methodLink RL 25 yX11_book ∈ am_ws := (ch_47 _ (List.mem_of_getElem? (i := 6) rfl))
theorem km_RL_29 : Cond.methodLink RL 29 yX12_book ∈ am_ws := (ch_47 _ (List.mem_of_getElem? (i := 7) rfl))
theorem km_RL_30 : Cond.methodLink RL 30 yX11_wrong ∈ am_ws := (ch_47 _ (List.mem_of_getElem? (i := 8) rfl))
theorem km_RL_33 : Cond.methodLink RL 33 yX12_wrong ∈ am_ws := (ch_47 _ (List.mem_of_getElem? (i := 9) rfl))
theorem km_RL_34 : Cond.methodLink RL 34 yX11_told ∈ am_ws := (ch_47 _ (List.mem_of_getElem? (i := 10) rfl))
theorem km_RL_38 : Cond.methodLink RL 38 yX12_told ∈ am_ws := (ch_47 _ (List.mem_of_getElem? (i := 11) rfl))
theorem km_RL_39 : Cond.methodLink RL 39 yX11_about ∈ am_ws := (ch_47 _ (List.mem_of_getElem? (i := 12) rfl))
theorem km_RL_43 : Cond.methodLink RL 43 yX12_about ∈ am_ws := (ch_47 _ (List.mem_of_getElem? (i := 13) rfl))
theorem km_RL_44 : Cond.methodLink RL 44 yX11_state ∈ am_ws := (ch_47 _ (List.mem_of_getElem? (i := 14) rfl))
theorem km_RL_47 : Cond.methodLink RL 47 yX12_state ∈ am_ws := (ch_47 _ (List.mem_of_getElem? (i := 15) rfl))
theorem km_RL_48 : Cond.methodLink RL 48 yX11_letter ∈ am_ws := (ch_47 _ (List.mem_of_getElem? (i := 16) rfl))
theorem km_RL_52 : Cond.methodLink RL 52 yX12_letter ∈ am_ws := (ch_47 _ (List.mem_of_getElem? (i := 17) rfl))
theorem km_RL_53 : Cond.methodLink RL 53 yX11_body ∈ am_ws := (ch_47 _ (List.mem_of_getElem? (i := 18) rfl))
theorem km_RL_56 : Cond.methodLink RL 56 yX12_body ∈ am_ws := (ch_47 _ (List.mem_of_getElem? (i := 19) rfl))
theorem km_RL_57 : Cond.methodLink RL 57 yX11_use ∈ am_ws := (ch_47 _ (List.mem_of_getElem? (i := 20) rfl))
theorem km_RL_60 : Cond.methodLink RL 60 yX12_use_ ∈ am_ws := (ch_47 _ (List.mem_of_getElem? (i := 21) rfl))
theorem km_RL_61 : Cond.methodLink RL 61 yX11_argument ∈ am_ws := (ch_47 _ (List.mem_of_getElem? (i := 22) rfl))
theorem km_RL_64 : Cond.methodLink RL 64 yX12_argument ∈ am_ws := (ch_47 _ (List.mem_of_getElem? (i := 23) rfl))
theorem km_RL_65 : Cond.methodLink RL 65 yX11_act ∈ am_ws := (ch_47 _ (List.mem_of_getElem? (i := 24) rfl))
theorem km_RL_68 : Cond.methodLink RL 68 yX12_act ∈ am_ws := (ch_48 _ (List.mem_of_getElem? (i := 0) rfl))
theorem km_RL_69 : Cond.methodLink RL 69 yX11_entry ∈ am_ws := (ch_48 _ (List.mem_of_getElem? (i := 1) rfl))
theorem km_RL_72 : Cond.methodLink RL 72 yX12_entry ∈ am_ws := (ch_48 _ (List.mem_of_getElem? (i := 2) rfl))
theorem km_RL_73 : Cond.methodLink RL 73 yX11_holder ∈ am_ws := (ch_48 _ (List.mem_of_getElem? (i := 3) rfl))
theorem km_RL_76 : Cond.methodLink RL 76 yX12_holder ∈ am_ws := (ch_48 _ (List.mem_of_getElem? (i := 4) rfl))
theorem km_RL_77 : Cond.methodLink RL 77 yX11_branch ∈ am_ws := (ch_48 _ (List.mem_of_getElem? (i := 5) rfl))
theorem km_RL_80 : Cond.methodLink RL 80 yX12_branch ∈ am_ws := (ch_48 _ (List.mem_of_getElem? (i := 6) rfl))
theorem km_RL_81 : Cond.methodLink RL 81 yX11_out ∈ am_ws := (ch_48 _ (List.mem_of_getElem? (i := 7) rfl))
theorem km_RL_84 : Cond.methodLink RL 84 yX12_out ∈ am_ws := (ch_48 _ (List.mem_of_getElem? (i := 8) rfl))
theorem km_RL_85 : Cond.methodLink RL 85 yX11_cause ∈ am_ws := (ch_48 _ (List.mem_of_getElem? (i := 9) rfl))
theorem km_RL_88 : Cond.methodLink RL 88 yX12_cause ∈ am_ws := (ch_48 _ (List.mem_of_getElem? (i := 10) rfl))
theorem km_RL_89 : Cond.methodLink RL 89 yX11_start ∈ am_ws := (ch_48 _ (List.mem_of_getElem? (i := 11) rfl))
theorem km_RL_92 : Cond.methodLink RL 92 yX12_start ∈ am_ws := (ch_48 _ (List.mem_of_getElem? (i := 12) rfl))
theorem km_RL_93 : Cond.methodLink RL 93 yX11_seen ∈ am_ws := (ch_48 _ (List.mem_of_getElem? (i := 13) rfl))
theorem km_RL_96 : Cond.methodLink RL 96 yX12_seen ∈ am_ws := (ch_48 _ (List.mem_of_getElem? (i := 14) rfl))
theorem km_RL_97 : Cond.methodLink RL 97 yX11_set ∈ am_ws := (ch_48 _ (List.mem_of_getElem? (i := 15) rfl))
theorem km_RL_100 : Cond.methodLink RL 100 yX12_set ∈ am_ws := (ch_48 _ (List.mem_of_getElem? (i := 16) rfl))
theorem km_RL_101 : Cond.methodLink RL 101 yX11_add ∈ am_ws := (ch_48 _ (List.mem_of_getElem? (i := 17) rfl))
theorem km_RL_104 : Cond.methodLink RL 104 yX12_add ∈ am_ws := (ch_48 _ (List.mem_of_getElem? (i := 18) rfl))
theorem km_RL_105 : Cond.methodLink RL 105 yX11_take ∈ am_ws := (ch_48 _ (List.mem_of_getElem? (i := 19) rfl))
theorem km_RL_108 : Cond.methodLink RL 108 yX12_take ∈ am_ws := (ch_48 _ (List.mem_of_getElem? (i := 20) rfl))
theorem km_RL_109 : Cond.methodLink RL 109 yX11_join ∈ am_ws := (ch_48 _ (List.mem_of_getElem? (i := 21) rfl))
theorem km_RL_112 : Cond.methodLink RL 112 yX12_join ∈ am_ws := (ch_48 _ (List.mem_of_getElem? (i := 22) rfl))
theorem km_RL_113 : Cond.methodLink RL 113 yX11_member ∈ am_ws := (ch_48 _ (List.mem_of_getElem? (i := 23) rfl))
theorem km_RL_116 : Cond.methodLink RL 116 yX12_member ∈ am_ws := (ch_48 _ (List.mem_of_getElem? (i := 24) rfl))
theorem km_RL_117 : Cond.methodLink RL 117 yX11_map ∈ am_ws := (ch_49 _ (List.mem_of_getElem? (i := 0) rfl))
theorem km_RL_120 : Cond.methodLink RL 120 yX12_map ∈ am_ws := (ch_49 _ (List.mem_of_getElem? (i := 1) rfl))
theorem km_RL_121 : Cond.methodLink RL 121 yX11_put ∈ am_ws := (ch_49 _ (List.mem_of_getElem? (i := 2) rfl))
theorem km_RL_124 : Cond.methodLink RL 124 yX12_put ∈ am_ws := (ch_49 _ (List.mem_of_getElem? (i := 3) rfl))
theorem km_RL_125 : Cond.methodLink RL 125 yX11_get ∈ am_ws := (ch_49 _ (List.mem_of_getElem? (i := 4) rfl))
theorem km_RL_128 : Cond.methodLink RL 128 yX12_get ∈ am_ws := (ch_49 _ (List.mem_of_getElem? (i := 5) rfl))
theorem km_RL_129 : Cond.methodLink RL 129 yX11_encode ∈ am_ws := (ch_49 _ (List.mem_of_getElem? (i := 6) rfl))
theorem km_RL_132 : Cond.methodLink RL 132 yX12_encode ∈ am_ws := (ch_49 _ (List.mem_of_getElem? (i := 7) rfl))
theorem km_RL_133 : Cond.methodLink RL 133 yX11_signal ∈ am_ws := (ch_49 _ (List.mem_of_getElem? (i := 8) rfl))
theorem km_RL_136 : Cond.methodLink RL 136 yX12_signal ∈ am_ws := (ch_49 _ (List.mem_of_getElem? (i := 9) rfl))
theorem km_RL_137 : Cond.methodLink RL 137 yX11_decode ∈ am_ws := (ch_49 _ (List.mem_of_getElem? (i := 10) rfl))
theorem km_RL_140 : Cond.methodLink RL 140 yX12_decode ∈ am_ws := (ch_49 _ (List.mem_of_getElem? (i := 11) rfl))
theorem km_RX12_1 : Cond.methodLink RX12 1 Lib.objectInit ∈ am_ws := (ch_49 _ (List.mem_of_getElem? (i := 12) rfl))
theorem km_RX12_201 : Cond.methodLink RX12 201 yX12_at ∈ am_ws := (ch_49 _ (List.mem_of_getElem? (i := 13) rfl))
theorem km_RX12_208 : Cond.methodLink RX12 208 yX12_isLetter ∈ am_ws := (ch_49 _ (List.mem_of_getElem? (i := 14) rfl))
theorem km_RX12_212 : Cond.methodLink RX12 212 yX12_isDigit ∈ am_ws := (ch_49 _ (List.mem_of_getElem? (i := 15) rfl))
theorem km_RX12_220 : Cond.methodLink RX12 220 yJ0_indexOf_0f7a4 ∈ am_ws := (ch_49 _ (List.mem_of_getElem? (i := 16) rfl))
theorem km_RX12_225 : Cond.methodLink RX12 225 yJ0_length_8abf5 ∈ am_ws := (ch_49 _ (List.mem_of_getElem? (i := 17) rfl))
theorem km_RX12_229 : Cond.methodLink RX12 229 yJ0_charAt_5068e ∈ am_ws := (ch_49 _ (List.mem_of_getElem? (i := 18) rfl))
theorem km_RX12_235 : Cond.methodLink RX12 235 yX12_isWord ∈ am_ws := (ch_49 _ (List.mem_of_getElem? (i := 19) rfl))
theorem km_RX12_259 : Cond.methodLink RX12 259 yX12_isKeyword ∈ am_ws := (ch_49 _ (List.mem_of_getElem? (i := 20) rfl))
theorem km_RX12_272 : Cond.methodLink RX12 272 yX12_isTwo ∈ am_ws := (ch_49 _ (List.mem_of_getElem? (i := 21) rfl))
theorem km_RX12_281 : Cond.methodLink RX12 281 yX12_isSign ∈ am_ws := (ch_49 _ (List.mem_of_getElem? (i := 22) rfl))
theorem km_RX12_285 : Cond.methodLink RX12 285 yX12_next ∈ am_ws := (ch_49 _ (List.mem_of_getElem? (i := 23) rfl))
theorem km_RX12_288 : Cond.methodLink RX12 288 yX12_fault ∈ am_ws := (ch_49 _ (List.mem_of_getElem? (i := 24) rfl))
theorem km_RX12_291 : Cond.methodLink RX12 291 yX12_isName ∈ am_ws := (ch_50 _ (List.mem_of_getElem? (i := 0) rfl))
theorem km_RX12_294 : Cond.methodLink RX12 294 yX12_nameHere ∈ am_ws := (ch_50 _ (List.mem_of_getElem? (i := 1) rfl))
theorem km_RX12_297 : Cond.methodLink RX12 297 yX12_isSame ∈ am_ws := (ch_50 _ (List.mem_of_getElem? (i := 2) rfl))
theorem km_RX12_304 : Cond.methodLink RX12 304 yX12_readEnum ∈ am_ws := (ch_50 _ (List.mem_of_getElem? (i := 3) rfl))
theorem km_RX12_307 : Cond.methodLink RX12 307 yX12_settle ∈ am_ws := (ch_50 _ (List.mem_of_getElem? (i := 4) rfl))
theorem km_RX12_311 : Cond.methodLink RX12 311 yX12_enumOf ∈ am_ws := (ch_50 _ (List.mem_of_getElem? (i := 5) rfl))
theorem km_RX12_314 : Cond.methodLink RX12 314 yX12_newName ∈ am_ws := (ch_50 _ (List.mem_of_getElem? (i := 6) rfl))
theorem km_RX12_318 : Cond.methodLink RX12 318 yX12_sign ∈ am_ws := (ch_50 _ (List.mem_of_getElem? (i := 7) rfl))
theorem km_RX12_322 : Cond.methodLink RX12 322 yX12_readConstant ∈ am_ws := (ch_50 _ (List.mem_of_getElem? (i := 8) rfl))
theorem km_RX12_325 : Cond.methodLink RX12 325 yX12_readMember ∈ am_ws := (ch_50 _ (List.mem_of_getElem? (i := 9) rfl))
theorem km_RX12_328 : Cond.methodLink RX12 328 yX12_tells ∈ am_ws := (ch_50 _ (List.mem_of_getElem? (i := 10) rfl))
theorem km_RX12_331 : Cond.methodLink RX12 331 yX12_readExpr ∈ am_ws := (ch_50 _ (List.mem_of_getElem? (i := 11) rfl))
theorem km_RX12_335 : Cond.methodLink RX12 335 yX12_readAct ∈ am_ws := (ch_50 _ (List.mem_of_getElem? (i := 12) rfl))
theorem km_RX12_338 : Cond.methodLink RX12 338 yX12_readTable ∈ am_ws := (ch_50 _ (List.mem_of_getElem? (i := 13) rfl))
theorem km_RX12_341 : Cond.methodLink RX12 341 yX12_readSwitch ∈ am_ws := (ch_50 _ (List.mem_of_getElem? (i := 14) rfl))
theorem km_RX12_344 : Cond.methodLink RX12 344 yX12_readEntry ∈ am_ws := (ch_50 _ (List.mem_of_getElem? (i := 15) rfl))
theorem km_RX12_347 : Cond.methodLink RX12 347 yX12_beginsExpr ∈ am_ws := (ch_50 _ (List.mem_of_getElem? (i := 16) rfl))
theorem km_RX12_350 : Cond.methodLink RX12 350 yX12_readCase ∈ am_ws := (ch_50 _ (List.mem_of_getElem? (i := 17) rfl))
theorem km_RX12_366 : Cond.methodLink RX12 366 yX12_readSum ∈ am_ws := (ch_50 _ (List.mem_of_getElem? (i := 18) rfl))
theorem km_RX12_369 : Cond.methodLink RX12 369 yX12_readTerm ∈ am_ws := (ch_50 _ (List.mem_of_getElem? (i := 19) rfl))
theorem km_RX12_372 : Cond.methodLink RX12 372 yX12_expression ∈ am_ws := (ch_50 _ (List.mem_of_getElem? (i := 20) rfl))
theorem km_RX12_376 : Cond.methodLink RX12 376 yX12_readFactor ∈ am_ws := (ch_50 _ (List.mem_of_getElem? (i := 21) rfl))
theorem km_RX12_379 : Cond.methodLink RX12 379 yX12_taken ∈ am_ws := (ch_50 _ (List.mem_of_getElem? (i := 22) rfl))
theorem km_RX12_382 : Cond.methodLink RX12 382 yX12_readReference ∈ am_ws := (ch_50 _ (List.mem_of_getElem? (i := 23) rfl))
theorem km_RX12_385 : Cond.methodLink RX12 385 yX12_lacks ∈ am_ws := (ch_50 _ (List.mem_of_getElem? (i := 24) rfl))
theorem km_RX12_388 : Cond.methodLink RX12 388 yX12_among ∈ am_ws := (ch_51 _ (List.mem_of_getElem? (i := 0) rfl))
theorem km_RX12_395 : Cond.methodLink RX12 395 yX12_readBook ∈ am_ws := (ch_51 _ (List.mem_of_getElem? (i := 1) rfl))
theorem km_RX12_398 : Cond.methodLink RX12 398 yX12_asleep ∈ am_ws := (ch_51 _ (List.mem_of_getElem? (i := 2) rfl))
theorem km_RX12_407 : Cond.methodLink RX12 407 yX12_failing ∈ am_ws := (ch_51 _ (List.mem_of_getElem? (i := 3) rfl))
theorem km_RX12_411 : Cond.methodLink RX12 411 yX12_starts ∈ am_ws := (ch_51 _ (List.mem_of_getElem? (i := 4) rfl))
theorem km_RX12_416 : Cond.methodLink RX12 416 yX12_startsEnum ∈ am_ws := (ch_51 _ (List.mem_of_getElem? (i := 5) rfl))
theorem km_RX12_419 : Cond.methodLink RX12 419 yX12_startsHolder ∈ am_ws := (ch_51 _ (List.mem_of_getElem? (i := 6) rfl))
theorem km_RX12_422 : Cond.methodLink RX12 422 yX12_value ∈ am_ws := (ch_51 _ (List.mem_of_getElem? (i := 7) rfl))
theorem km_RX12_424 : Cond.methodLink RX12 424 yX12_use ∈ am_ws := (ch_51 _ (List.mem_of_getElem? (i := 8) rfl))
theorem km_RX12_427 : Cond.methodLink RX12 427 yX12_sees ∈ am_ws := (ch_51 _ (List.mem_of_getElem? (i := 9) rfl))
theorem km_RX12_430 : Cond.methodLink RX12 430 yX12_entryOf ∈ am_ws := (ch_51 _ (List.mem_of_getElem? (i := 10) rfl))
theorem km_RX12_433 : Cond.methodLink RX12 433 yX12_both ∈ am_ws := (ch_51 _ (List.mem_of_getElem? (i := 11) rfl))
theorem km_RX12_436 : Cond.methodLink RX12 436 yX12_joined ∈ am_ws := (ch_51 _ (List.mem_of_getElem? (i := 12) rfl))
theorem km_RX12_439 : Cond.methodLink RX12 439 yX12_isEnum ∈ am_ws := (ch_51 _ (List.mem_of_getElem? (i := 13) rfl))
theorem km_RX12_445 : Cond.methodLink RX12 445 yX12_begin ∈ am_ws := (ch_51 _ (List.mem_of_getElem? (i := 14) rfl))
theorem km_RX12_448 : Cond.methodLink RX12 448 yX12_isItem ∈ am_ws := (ch_51 _ (List.mem_of_getElem? (i := 15) rfl))
theorem km_RX12_451 : Cond.methodLink RX12 451 yX12_isConstant ∈ am_ws := (ch_51 _ (List.mem_of_getElem? (i := 16) rfl))
theorem km_RX12_455 : Cond.methodLink RX12 455 yX12_uses ∈ am_ws := (ch_51 _ (List.mem_of_getElem? (i := 17) rfl))
theorem km_RX12_458 : Cond.methodLink RX12 458 yX12_ends ∈ am_ws := (ch_51 _ (List.mem_of_getElem? (i := 18) rfl))
theorem km_RX12_464 : Cond.methodLink RX12 464 yX12_isIn ∈ am_ws := (ch_51 _ (List.mem_of_getElem? (i := 19) rfl))
theorem km_RX12_470 : Cond.methodLink RX12 470 yX12_isMapped ∈ am_ws := (ch_51 _ (List.mem_of_getElem? (i := 20) rfl))
theorem km_RX12_476 : Cond.methodLink RX12 476 yX12_constantHere ∈ am_ws := (ch_51 _ (List.mem_of_getElem? (i := 21) rfl))
theorem km_RX12_482 : Cond.methodLink RX12 482 yX12_put_ ∈ am_ws := (ch_51 _ (List.mem_of_getElem? (i := 22) rfl))
theorem km_RJ0_335 : Cond.methodLink RJ0 335 yJ0_coder_7d493 ∈ am_ws := (ch_51 _ (List.mem_of_getElem? (i := 23) rfl))
theorem km_RJ0_492 : Cond.methodLink RJ0 492 yJ0_isLatin1_aae02 ∈ am_ws := (ch_51 _ (List.mem_of_getElem? (i := 24) rfl))
theorem km_RJ0_495 : Cond.methodLink RJ0 495 yJ1_charAt_3b067 ∈ am_ws := (ch_52 _ (List.mem_of_getElem? (i := 0) rfl))
theorem km_RJ0_498 : Cond.methodLink RJ0 498 yJ2_charAt_3b067 ∈ am_ws := (ch_52 _ (List.mem_of_getElem? (i := 1) rfl))
theorem km_RJ0_505 : Cond.methodLink RJ0 505 yJ0_length_8abf5 ∈ am_ws := (ch_52 _ (List.mem_of_getElem? (i := 2) rfl))
theorem km_RJ0_633 : Cond.methodLink RJ0 633 yJ0_indexOf_7cf53 ∈ am_ws := (ch_52 _ (List.mem_of_getElem? (i := 3) rfl))
theorem km_RJ0_637 : Cond.methodLink RJ0 637 yJ1_indexOf_4cfef ∈ am_ws := (ch_52 _ (List.mem_of_getElem? (i := 4) rfl))
theorem km_RJ0_640 : Cond.methodLink RJ0 640 yJ2_indexOf_4cfef ∈ am_ws := (ch_52 _ (List.mem_of_getElem? (i := 5) rfl))
theorem km_RJ0_1059 : Cond.methodLink RJ0 1059 yJ3_checkIndex_8e157 ∈ am_ws := (ch_52 _ (List.mem_of_getElem? (i := 6) rfl))
theorem km_RJ0_1062 : Cond.methodLink RJ0 1062 yJ3_checkFromToIndex_8c36e ∈ am_ws := (ch_52 _ (List.mem_of_getElem? (i := 7) rfl))
theorem km_RJ1_9 : Cond.methodLink RJ1 9 yJ0_checkIndex_df160 ∈ am_ws := (ch_52 _ (List.mem_of_getElem? (i := 8) rfl))
theorem km_RJ1_38 : Cond.methodLink RJ1 38 yJ9_min_7cf53 ∈ am_ws := (ch_52 _ (List.mem_of_getElem? (i := 9) rfl))
theorem km_RJ1_88 : Cond.methodLink RJ1 88 yJ1_canEncode_9a6ad ∈ am_ws := (ch_52 _ (List.mem_of_getElem? (i := 10) rfl))
theorem km_RJ1_92 : Cond.methodLink RJ1 92 yJ9_max_7cf53 ∈ am_ws := (ch_52 _ (List.mem_of_getElem? (i := 11) rfl))
theorem km_RJ1_95 : Cond.methodLink RJ1 95 yJ1_indexOfChar_4cfef ∈ am_ws := (ch_52 _ (List.mem_of_getElem? (i := 12) rfl))
theorem km_RJ2_48 : Cond.methodLink RJ2 48 yJ2_length_9d52b ∈ am_ws := (ch_52 _ (List.mem_of_getElem? (i := 13) rfl))
theorem km_RJ2_67 : Cond.methodLink RJ2 67 yJ2_checkIndex_2214a ∈ am_ws := (ch_52 _ (List.mem_of_getElem? (i := 14) rfl))
theorem km_RJ2_71 : Cond.methodLink RJ2 71 yJ2_getChar_3b067 ∈ am_ws := (ch_52 _ (List.mem_of_getElem? (i := 15) rfl))
theorem km_RJ2_96 : Cond.methodLink RJ2 96 yJ2_checkBoundsBeginEnd_d044e ∈ am_ws := (ch_52 _ (List.mem_of_getElem? (i := 16) rfl))
theorem km_RJ2_157 : Cond.methodLink RJ2 157 yJ11_highSurrogate_5068e ∈ am_ws := (ch_52 _ (List.mem_of_getElem? (i := 17) rfl))
theorem km_RJ2_161 : Cond.methodLink RJ2 161 yJ11_lowSurrogate_5068e ∈ am_ws := (ch_52 _ (List.mem_of_getElem? (i := 18) rfl))
theorem km_RJ2_164 : Cond.methodLink RJ2 164 yJ11_isValidCodePoint_9a6ad ∈ am_ws := (ch_52 _ (List.mem_of_getElem? (i := 19) rfl))
theorem km_RJ2_183 : Cond.methodLink RJ2 183 yJ9_min_7cf53 ∈ am_ws := (ch_52 _ (List.mem_of_getElem? (i := 20) rfl))
theorem km_RJ2_224 : Cond.methodLink RJ2 224 yJ9_max_7cf53 ∈ am_ws := (ch_52 _ (List.mem_of_getElem? (i := 21) rfl))
theorem km_RJ2_228 : Cond.methodLink RJ2 228 yJ2_indexOfChar_4cfef ∈ am_ws := (ch_52 _ (List.mem_of_getElem? (i := 22) rfl))
theorem km_RJ2_232 : Cond.methodLink RJ2 232 yJ2_indexOfSupplementary_4cfef ∈ am_ws := (ch_52 _ (List.mem_of_getElem? (i := 23) rfl))
theorem km_RJ2_241 : Cond.methodLink RJ2 241 yJ0_checkBoundsBeginEnd_23922 ∈ am_ws := (ch_52 _ (List.mem_of_getElem? (i := 24) rfl))
theorem km_RJ2_244 : Cond.methodLink RJ2 244 yJ2_indexOfCharUnsafe_4cfef ∈ am_ws := (ch_53 _ (List.mem_of_getElem? (i := 0) rfl))
theorem km_RJ2_414 : Cond.methodLink RJ2 414 yJ0_checkIndex_df160 ∈ am_ws := (ch_53 _ (List.mem_of_getElem? (i := 1) rfl))
theorem kc_RX11_13 : Cond.classLink RX11 13 RX9 ∈ am_ws := (ch_53 _ (List.mem_of_getElem? (i := 2) rfl))
theorem kc_RX11_20 : Cond.classLink RX11 20 RX5 ∈ am_ws := (ch_53 _ (List.mem_of_getElem? (i := 3) rfl))
theorem kc_RX11_29 : Cond.classLink RX11 29 RX10 ∈ am_ws := (ch_53 _ (List.mem_of_getElem? (i := 4) rfl))
theorem kc_RX11_36 : Cond.classLink RX11 36 RX0 ∈ am_ws := (ch_53 _ (List.mem_of_getElem? (i := 5) rfl))
theorem kc_RX11_42 : Cond.classLink RX11 42 RX6 ∈ am_ws := (ch_53 _ (List.mem_of_getElem? (i := 6) rfl))
theorem kc_RX11_51 : Cond.classLink RX11 51 RX4 ∈ am_ws := (ch_53 _ (List.mem_of_getElem? (i := 7) rfl))
theorem kc_RX0_9 : Cond.classLink RX0 9 RX3 ∈ am_ws := (ch_53 _ (List.mem_of_getElem? (i := 8) rfl))
theorem kc_RX1_14 : Cond.classLink RX1 14 RX1 ∈ am_ws := (ch_53 _ (List.mem_of_getElem? (i := 9) rfl))
theorem kc_RX3_9 : Cond.classLink RX3 9 RX2 ∈ am_ws := (ch_53 _ (List.mem_of_getElem? (i := 10) rfl))
theorem kc_RX3_21 : Cond.classLink RX3 21 RX8 ∈ am_ws := (ch_53 _ (List.mem_of_getElem? (i := 11) rfl))
theorem kc_RX3_40 : Cond.classLink RX3 40 RX7 ∈ am_ws := (ch_53 _ (List.mem_of_getElem? (i := 12) rfl))
theorem kc_RX5_9 : Cond.classLink RX5 9 RX1 ∈ am_ws := (ch_53 _ (List.mem_of_getElem? (i := 13) rfl))
theorem kc_RX5_38 : Cond.classLink RX5 38 RX0 ∈ am_ws := (ch_53 _ (List.mem_of_getElem? (i := 14) rfl))
theorem kc_RX5_98 : Cond.classLink RX5 98 RX3 ∈ am_ws := (ch_53 _ (List.mem_of_getElem? (i := 15) rfl))
theorem kc_RX5_131 : Cond.classLink RX5 131 RX2 ∈ am_ws := (ch_53 _ (List.mem_of_getElem? (i := 16) rfl))
theorem kc_RX5_183 : Cond.classLink RX5 183 RX8 ∈ am_ws := (ch_53 _ (List.mem_of_getElem? (i := 17) rfl))
theorem kc_RX5_221 : Cond.classLink RX5 221 RX7 ∈ am_ws := (ch_53 _ (List.mem_of_getElem? (i := 18) rfl))
theorem kc_RL_7 : Cond.classLink RL 7 RX11 ∈ am_ws := (ch_53 _ (List.mem_of_getElem? (i := 19) rfl))
theorem kc_RL_10 : Cond.classLink RL 10 RX12 ∈ am_ws := (ch_53 _ (List.mem_of_getElem? (i := 20) rfl))
theorem kn_0 : Cond.instantiable RX0 10 ∈ am_ws ∧ Cond.initialized RX0 ∈ am_ws := ⟨(ch_53 _ (List.mem_of_getElem? (i := 21) rfl)), (ch_0 _ (List.mem_of_getElem? (i := 1) rfl))⟩
theorem kd_0 : ∀ k, k < 10 → defaultValue (tyOf 0 k) = cvt (tyOf 0 k) 0 := fun k hk => am_df _ (by revert k; decide +kernel)
theorem kn_1 : Cond.instantiable RX1 3 ∈ am_ws ∧ Cond.initialized RX1 ∈ am_ws := ⟨(ch_53 _ (List.mem_of_getElem? (i := 22) rfl)), (ch_1 _ (List.mem_of_getElem? (i := 24) rfl))⟩
theorem kd_1 : ∀ k, k < 3 → defaultValue (tyOf 1 k) = cvt (tyOf 1 k) 0 := fun k hk => am_df _ (by revert k; decide +kernel)
theorem kn_2 : Cond.instantiable RX2 4 ∈ am_ws ∧ Cond.initialized RX2 ∈ am_ws := ⟨(ch_53 _ (List.mem_of_getElem? (i := 23) rfl)), (ch_2 _ (List.mem_of_getElem? (i := 12) rfl))⟩
theorem kd_2 : ∀ k, k < 4 → defaultValue (tyOf 2 k) = cvt (tyOf 2 k) 0 := fun k hk => am_df _ (by revert k; decide +kernel)
theorem kn_3 : Cond.instantiable RX3 17 ∈ am_ws ∧ Cond.initialized RX3 ∈ am_ws := ⟨(ch_53 _ (List.mem_of_getElem? (i := 24) rfl)), (ch_2 _ (List.mem_of_getElem? (i := 15) rfl))⟩
theorem kd_3 : ∀ k, k < 17 → defaultValue (tyOf 3 k) = cvt (tyOf 3 k) 0 := fun k hk => am_df _ (by revert k; decide +kernel)
theorem kn_4 : Cond.instantiable RX4 5 ∈ am_ws ∧ Cond.initialized RX4 ∈ am_ws := ⟨(ch_54 _ (List.mem_of_getElem? (i := 0) rfl)), (ch_3 _ (List.mem_of_getElem? (i := 17) rfl))⟩
theorem kd_4 : ∀ k, k < 5 → defaultValue (tyOf 4 k) = cvt (tyOf 4 k) 0 := fun k hk => am_df _ (by revert k; decide +kernel)
theorem kn_5 : Cond.instantiable RX5 12 ∈ am_ws ∧ Cond.initialized RX5 ∈ am_ws := ⟨(ch_54 _ (List.mem_of_getElem? (i := 1) rfl)), (ch_4 _ (List.mem_of_getElem? (i := 1) rfl))⟩
theorem kd_5 : ∀ k, k < 12 → defaultValue (tyOf 5 k) = cvt (tyOf 5 k) 0 := fun k hk => am_df _ (by revert k; decide +kernel)
theorem kn_6 : Cond.instantiable RX6 4 ∈ am_ws ∧ Cond.initialized RX6 ∈ am_ws := ⟨(ch_54 _ (List.mem_of_getElem? (i := 2) rfl)), (ch_6 _ (List.mem_of_getElem? (i := 17) rfl))⟩
theorem kd_6 : ∀ k, k < 4 → defaultValue (tyOf 6 k) = cvt (tyOf 6 k) 0 := fun k hk => am_df _ (by revert k; decide +kernel)
theorem kn_7 : Cond.instantiable RX7 5 ∈ am_ws ∧ Cond.initialized RX7 ∈ am_ws := ⟨(ch_54 _ (List.mem_of_getElem? (i := 3) rfl)), (ch_7 _ (List.mem_of_getElem? (i := 7) rfl))⟩
theorem kd_7 : ∀ k, k < 5 → defaultValue (tyOf 7 k) = cvt (tyOf 7 k) 0 := fun k hk => am_df _ (by revert k; decide +kernel)
theorem kn_8 : Cond.instantiable RX8 5 ∈ am_ws ∧ Cond.initialized RX8 ∈ am_ws := ⟨(ch_54 _ (List.mem_of_getElem? (i := 4) rfl)), (ch_7 _ (List.mem_of_getElem? (i := 13) rfl))⟩
theorem kd_8 : ∀ k, k < 5 → defaultValue (tyOf 8 k) = cvt (tyOf 8 k) 0 := fun k hk => am_df _ (by revert k; decide +kernel)
theorem kn_9 : Cond.instantiable RX9 5 ∈ am_ws ∧ Cond.initialized RX9 ∈ am_ws := ⟨(ch_54 _ (List.mem_of_getElem? (i := 5) rfl)), (ch_7 _ (List.mem_of_getElem? (i := 16) rfl))⟩
theorem kd_9 : ∀ k, k < 5 → defaultValue (tyOf 9 k) = cvt (tyOf 9 k) 0 := fun k hk => am_df _ (by revert k; decide +kernel)
theorem kn_10 : Cond.instantiable RX10 11 ∈ am_ws ∧ Cond.initialized RX10 ∈ am_ws := ⟨(ch_54 _ (List.mem_of_getElem? (i := 6) rfl)), (ch_8 _ (List.mem_of_getElem? (i := 22) rfl))⟩
theorem kd_10 : ∀ k, k < 11 → defaultValue (tyOf 10 k) = cvt (tyOf 10 k) 0 := fun k hk => am_df _ (by revert k; decide +kernel)
theorem kn_11 : Cond.instantiable RX11 16 ∈ am_ws ∧ Cond.initialized RX11 ∈ am_ws := ⟨(ch_54 _ (List.mem_of_getElem? (i := 7) rfl)), (ch_11 _ (List.mem_of_getElem? (i := 24) rfl))⟩
theorem kd_11 : ∀ k, k < 16 → defaultValue (tyOf 11 k) = cvt (tyOf 11 k) 0 := fun k hk => am_df _ (by revert k; decide +kernel)
theorem kn_12 : Cond.instantiable RX12 84 ∈ am_ws ∧ Cond.initialized RX12 ∈ am_ws := ⟨(ch_54 _ (List.mem_of_getElem? (i := 8) rfl)), (ch_17 _ (List.mem_of_getElem? (i := 13) rfl))⟩
theorem kd_12 : ∀ k, k < 84 → defaultValue (tyOf 12 k) = cvt (tyOf 12 k) 0 := fun k hk => am_df _ (by revert k; decide +kernel)
theorem kk_RJ2_227 : Cond.constant RJ2 227 (Int32.ofInt 65536) ∈ am_ws := (ch_54 _ (List.mem_of_getElem? (i := 9) rfl))
theorem kk_RJ11_110 : Cond.constant RJ11 110 (Int32.ofInt 55232) ∈ am_ws := (ch_54 _ (List.mem_of_getElem? (i := 10) rfl))
theorem kk_RJ11_76 : Cond.constant RJ11 76 (Int32.ofInt 56320) ∈ am_ws := (ch_54 _ (List.mem_of_getElem? (i := 11) rfl))
theorem kk_RJ6_265 : Cond.constant RJ6 265 (Int32.ofInt 1431655765) ∈ am_ws := (ch_54 _ (List.mem_of_getElem? (i := 12) rfl))
theorem kk_RJ6_266 : Cond.constant RJ6 266 (Int32.ofInt 858993459) ∈ am_ws := (ch_54 _ (List.mem_of_getElem? (i := 13) rfl))
theorem kk_RJ6_267 : Cond.constant RJ6 267 (Int32.ofInt 252645135) ∈ am_ws := (ch_54 _ (List.mem_of_getElem? (i := 14) rfl))
theorem kl_RX9_45 : Cond.constantLong RX9 45 (Int64.ofInt 64) ∈ am_ws := (ch_54 _ (List.mem_of_getElem? (i := 15) rfl))
theorem kl_RX9_80 : Cond.constantLong RX9 80 (Int64.ofInt 10) ∈ am_ws := (ch_54 _ (List.mem_of_getElem? (i := 16) rfl))
theorem kl_RL_13 : Cond.constantLong RL 13 (Int64.ofInt 4294967295) ∈ am_ws := (ch_54 _ (List.mem_of_getElem? (i := 17) rfl))
theorem k_obj : Cond.instanceMethod Lib.objectInit ∈ am_ws ∧ Cond.code Lib.objectInit ⟨#[0xb1]⟩ 1 none ∈ am_ws := ⟨(ch_54 _ (List.mem_of_getElem? (i := 18) rfl)), (ch_54 _ (List.mem_of_getElem? (i := 19) rfl))⟩
theorem k_arr : Cond.arrayClass .int ∈ am_ws ∧ Cond.arrayClass .byte ∈ am_ws ∧ Cond.arrayClass .long ∈ am_ws := ⟨(ch_54 _ (List.mem_of_getElem? (i := 20) rfl)), (ch_54 _ (List.mem_of_getElem? (i := 21) rfl)), (ch_54 _ (List.mem_of_getElem? (i := 22) rfl))⟩
theorem k_cpy : Cond.native arraycopyName ∈ am_ws ∧ Cond.static arraycopyName ∈ am_ws ∧ Cond.initialized "java/lang/System" ∈ am_ws := ⟨(ch_54 _ (List.mem_of_getElem? (i := 23) rfl)), (ch_54 _ (List.mem_of_getElem? (i := 24) rfl)), (ch_55 _ (List.mem_of_getElem? (i := 0) rfl))⟩
theorem k_max : Cond.static Lib.Math.max.name ∈ am_ws ∧ Cond.initialized "java/lang/Math" ∈ am_ws ∧ Cond.code Lib.Math.max.name Lib.Math.max.code 2 (some .int) ∈ am_ws := ⟨(ch_55 _ (List.mem_of_getElem? (i := 1) rfl)), (ch_55 _ (List.mem_of_getElem? (i := 3) rfl)), (ch_55 _ (List.mem_of_getElem? (i := 4) rfl))⟩
theorem k_min : Cond.static Lib.Math.min.name ∈ am_ws ∧ Cond.initialized "java/lang/Math" ∈ am_ws ∧ Cond.code Lib.Math.min.name Lib.Math.min.code 2 (some .int) ∈ am_ws := ⟨(ch_55 _ (List.mem_of_getElem? (i := 2) rfl)), (ch_55 _ (List.mem_of_getElem? (i := 3) rfl)), (ch_55 _ (List.mem_of_getElem? (i := 5) rfl))⟩
