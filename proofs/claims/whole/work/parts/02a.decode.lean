theorem dX0_init_0 : decode cX0_init 0 = .ok (.aload_n 0, 1) := by decide +kernel
theorem dX0_init_1 : decode cX0_init 1 = .ok (.invokespecial 3, 3) := by decide +kernel
theorem dX0_init_4 : decode cX0_init 4 = .ok (.aload_n 0, 1) := by decide +kernel
theorem dX0_init_5 : decode cX0_init 5 = .ok (.bipush 12, 2) := by decide +kernel
theorem dX0_init_7 : decode cX0_init 7 = .ok (.anewarray 9, 3) := by decide +kernel
theorem dX0_init_10 : decode cX0_init 10 = .ok (.putfield 11, 3) := by decide +kernel
theorem dX0_init_13 : decode cX0_init 13 = .ok (.return_, 1) := by decide +kernel
theorem dX0_keepEnum_0 : decode cX0_keepEnum 0 = .ok (.aload_n 0, 1) := by decide +kernel
theorem dX0_keepEnum_1 : decode cX0_keepEnum 1 = .ok (.getfield 17, 3) := by decide +kernel
theorem dX0_keepEnum_4 : decode cX0_keepEnum 4 = .ok (.bipush 12, 2) := by decide +kernel
theorem dX0_keepEnum_6 : decode cX0_keepEnum 6 = .ok (.if_icmp .ge 23, 3) := by decide +kernel
theorem dX0_keepEnum_9 : decode cX0_keepEnum 9 = .ok (.aload_n 0, 1) := by decide +kernel
theorem dX0_keepEnum_10 : decode cX0_keepEnum 10 = .ok (.getfield 11, 3) := by decide +kernel
theorem dX0_keepEnum_13 : decode cX0_keepEnum 13 = .ok (.aload_n 0, 1) := by decide +kernel
theorem dX0_keepEnum_14 : decode cX0_keepEnum 14 = .ok (.getfield 17, 3) := by decide +kernel
theorem dX0_keepEnum_17 : decode cX0_keepEnum 17 = .ok (.aload_n 1, 1) := by decide +kernel
theorem dX0_keepEnum_18 : decode cX0_keepEnum 18 = .ok (.aastore, 1) := by decide +kernel
theorem dX0_keepEnum_19 : decode cX0_keepEnum 19 = .ok (.aload_n 0, 1) := by decide +kernel
theorem dX0_keepEnum_20 : decode cX0_keepEnum 20 = .ok (.dup, 1) := by decide +kernel
theorem dX0_keepEnum_21 : decode cX0_keepEnum 21 = .ok (.getfield 17, 3) := by decide +kernel
theorem dX0_keepEnum_24 : decode cX0_keepEnum 24 = .ok (.iconst 1, 1) := by decide +kernel
theorem dX0_keepEnum_25 : decode cX0_keepEnum 25 = .ok (.iadd, 1) := by decide +kernel
theorem dX0_keepEnum_26 : decode cX0_keepEnum 26 = .ok (.putfield 17, 3) := by decide +kernel
theorem dX0_keepEnum_29 : decode cX0_keepEnum 29 = .ok (.return_, 1) := by decide +kernel
theorem dX0_settle_0 : decode cX0_settle 0 = .ok (.aload_n 0, 1) := by decide +kernel
theorem dX0_settle_1 : decode cX0_settle 1 = .ok (.aload_n 1, 1) := by decide +kernel
theorem dX0_settle_2 : decode cX0_settle 2 = .ok (.putfield 21, 3) := by decide +kernel
theorem dX0_settle_5 : decode cX0_settle 5 = .ok (.aload_n 0, 1) := by decide +kernel
theorem dX0_settle_6 : decode cX0_settle 6 = .ok (.sipush 148, 3) := by decide +kernel
theorem dX0_settle_9 : decode cX0_settle 9 = .ok (.newarray .int, 2) := by decide +kernel
theorem dX0_settle_11 : decode cX0_settle 11 = .ok (.putfield 25, 3) := by decide +kernel
theorem dX0_settle_14 : decode cX0_settle 14 = .ok (.aload_n 0, 1) := by decide +kernel
theorem dX0_settle_15 : decode cX0_settle 15 = .ok (.bipush 60, 2) := by decide +kernel
theorem dX0_settle_17 : decode cX0_settle 17 = .ok (.newarray .int, 2) := by decide +kernel
theorem dX0_settle_19 : decode cX0_settle 19 = .ok (.putfield 29, 3) := by decide +kernel
theorem dX0_settle_22 : decode cX0_settle 22 = .ok (.aload_n 0, 1) := by decide +kernel
theorem dX0_settle_23 : decode cX0_settle 23 = .ok (.aload_n 1, 1) := by decide +kernel
theorem dX0_settle_24 : decode cX0_settle 24 = .ok (.getfield 32, 3) := by decide +kernel
theorem dX0_settle_27 : decode cX0_settle 27 = .ok (.newarray .int, 2) := by decide +kernel
theorem dX0_settle_29 : decode cX0_settle 29 = .ok (.putfield 37, 3) := by decide +kernel
theorem dX0_settle_32 : decode cX0_settle 32 = .ok (.aload_n 0, 1) := by decide +kernel
theorem dX0_settle_33 : decode cX0_settle 33 = .ok (.aload_n 1, 1) := by decide +kernel
theorem dX0_settle_34 : decode cX0_settle 34 = .ok (.getfield 32, 3) := by decide +kernel
theorem dX0_settle_37 : decode cX0_settle 37 = .ok (.newarray .int, 2) := by decide +kernel
theorem dX0_settle_39 : decode cX0_settle 39 = .ok (.putfield 40, 3) := by decide +kernel
theorem dX0_settle_42 : decode cX0_settle 42 = .ok (.return_, 1) := by decide +kernel
theorem dX0_enumAt_0 : decode cX0_enumAt 0 = .ok (.iload_n 1, 1) := by decide +kernel
theorem dX0_enumAt_1 : decode cX0_enumAt 1 = .ok (.ifCond .lt 11, 3) := by decide +kernel
theorem dX0_enumAt_4 : decode cX0_enumAt 4 = .ok (.iload_n 1, 1) := by decide +kernel
theorem dX0_enumAt_5 : decode cX0_enumAt 5 = .ok (.aload_n 0, 1) := by decide +kernel
theorem dX0_enumAt_6 : decode cX0_enumAt 6 = .ok (.getfield 17, 3) := by decide +kernel
theorem dX0_enumAt_9 : decode cX0_enumAt 9 = .ok (.if_icmp .lt 7, 3) := by decide +kernel
theorem dX0_enumAt_12 : decode cX0_enumAt 12 = .ok (.aconst_null, 1) := by decide +kernel
theorem dX0_enumAt_13 : decode cX0_enumAt 13 = .ok (.goto 9, 3) := by decide +kernel
theorem dX0_enumAt_16 : decode cX0_enumAt 16 = .ok (.aload_n 0, 1) := by decide +kernel
theorem dX0_enumAt_17 : decode cX0_enumAt 17 = .ok (.getfield 11, 3) := by decide +kernel
theorem dX0_enumAt_20 : decode cX0_enumAt 20 = .ok (.iload_n 1, 1) := by decide +kernel
theorem dX0_enumAt_21 : decode cX0_enumAt 21 = .ok (.aaload, 1) := by decide +kernel
theorem dX0_enumAt_22 : decode cX0_enumAt 22 = .ok (.areturn, 1) := by decide +kernel
theorem dX0_findEnum_0 : decode cX0_findEnum 0 = .ok (.iconst 0, 1) := by decide +kernel
theorem dX0_findEnum_1 : decode cX0_findEnum 1 = .ok (.istore_n 3, 1) := by decide +kernel
theorem dX0_findEnum_2 : decode cX0_findEnum 2 = .ok (.iload_n 3, 1) := by decide +kernel
theorem dX0_findEnum_3 : decode cX0_findEnum 3 = .ok (.aload_n 0, 1) := by decide +kernel
theorem dX0_findEnum_4 : decode cX0_findEnum 4 = .ok (.getfield 17, 3) := by decide +kernel
theorem dX0_findEnum_7 : decode cX0_findEnum 7 = .ok (.if_icmp .ge 25, 3) := by decide +kernel
theorem dX0_findEnum_10 : decode cX0_findEnum 10 = .ok (.aload_n 0, 1) := by decide +kernel
theorem dX0_findEnum_11 : decode cX0_findEnum 11 = .ok (.getfield 11, 3) := by decide +kernel
theorem dX0_findEnum_14 : decode cX0_findEnum 14 = .ok (.iload_n 3, 1) := by decide +kernel
theorem dX0_findEnum_15 : decode cX0_findEnum 15 = .ok (.aaload, 1) := by decide +kernel
theorem dX0_findEnum_16 : decode cX0_findEnum 16 = .ok (.getfield 43, 3) := by decide +kernel
theorem dX0_findEnum_19 : decode cX0_findEnum 19 = .ok (.lload_n 1, 1) := by decide +kernel
theorem dX0_findEnum_20 : decode cX0_findEnum 20 = .ok (.lcmp, 1) := by decide +kernel
theorem dX0_findEnum_21 : decode cX0_findEnum 21 = .ok (.ifCond .ne 5, 3) := by decide +kernel
theorem dX0_findEnum_24 : decode cX0_findEnum 24 = .ok (.iload_n 3, 1) := by decide +kernel
theorem dX0_findEnum_25 : decode cX0_findEnum 25 = .ok (.ireturn, 1) := by decide +kernel
theorem dX0_findEnum_26 : decode cX0_findEnum 26 = .ok (.iinc 3 1, 3) := by decide +kernel
theorem dX0_findEnum_29 : decode cX0_findEnum 29 = .ok (.goto (-27), 3) := by decide +kernel
theorem dX0_findEnum_32 : decode cX0_findEnum 32 = .ok (.iconst (-1), 1) := by decide +kernel
theorem dX0_findEnum_33 : decode cX0_findEnum 33 = .ok (.ireturn, 1) := by decide +kernel
theorem dX0_isHolder_0 : decode cX0_isHolder 0 = .ok (.iload_n 0, 1) := by decide +kernel
theorem dX0_isHolder_1 : decode cX0_isHolder 1 = .ok (.bipush 100, 2) := by decide +kernel
theorem dX0_isHolder_3 : decode cX0_isHolder 3 = .ok (.if_icmp .lt 7, 3) := by decide +kernel
theorem dX0_isHolder_6 : decode cX0_isHolder 6 = .ok (.iconst 1, 1) := by decide +kernel
theorem dX0_isHolder_7 : decode cX0_isHolder 7 = .ok (.goto 4, 3) := by decide +kernel
theorem dX0_isHolder_10 : decode cX0_isHolder 10 = .ok (.iconst 0, 1) := by decide +kernel
theorem dX0_isHolder_11 : decode cX0_isHolder 11 = .ok (.ireturn, 1) := by decide +kernel
theorem dX0_enumOfItem_0 : decode cX0_enumOfItem 0 = .ok (.iload_n 0, 1) := by decide +kernel
theorem dX0_enumOfItem_1 : decode cX0_enumOfItem 1 = .ok (.invokestatic 47, 3) := by decide +kernel
theorem dX0_enumOfItem_4 : decode cX0_enumOfItem 4 = .ok (.ifCond .eq 12, 3) := by decide +kernel
theorem dX0_enumOfItem_7 : decode cX0_enumOfItem 7 = .ok (.iload_n 0, 1) := by decide +kernel
theorem dX0_enumOfItem_8 : decode cX0_enumOfItem 8 = .ok (.bipush 100, 2) := by decide +kernel
theorem dX0_enumOfItem_10 : decode cX0_enumOfItem 10 = .ok (.isub, 1) := by decide +kernel
theorem dX0_enumOfItem_11 : decode cX0_enumOfItem 11 = .ok (.iconst 4, 1) := by decide +kernel
theorem dX0_enumOfItem_12 : decode cX0_enumOfItem 12 = .ok (.idiv, 1) := by decide +kernel
theorem dX0_enumOfItem_13 : decode cX0_enumOfItem 13 = .ok (.goto 4, 3) := by decide +kernel
theorem dX0_enumOfItem_16 : decode cX0_enumOfItem 16 = .ok (.iload_n 0, 1) := by decide +kernel
theorem dX0_enumOfItem_17 : decode cX0_enumOfItem 17 = .ok (.ireturn, 1) := by decide +kernel
theorem dX0_holderOfItem_0 : decode cX0_holderOfItem 0 = .ok (.iload_n 0, 1) := by decide +kernel
theorem dX0_holderOfItem_1 : decode cX0_holderOfItem 1 = .ok (.invokestatic 47, 3) := by decide +kernel
theorem dX0_holderOfItem_4 : decode cX0_holderOfItem 4 = .ok (.ifCond .eq 12, 3) := by decide +kernel
theorem dX0_holderOfItem_7 : decode cX0_holderOfItem 7 = .ok (.iload_n 0, 1) := by decide +kernel
theorem dX0_holderOfItem_8 : decode cX0_holderOfItem 8 = .ok (.bipush 100, 2) := by decide +kernel
theorem dX0_holderOfItem_10 : decode cX0_holderOfItem 10 = .ok (.isub, 1) := by decide +kernel
theorem dX0_holderOfItem_11 : decode cX0_holderOfItem 11 = .ok (.iconst 4, 1) := by decide +kernel
theorem dX0_holderOfItem_12 : decode cX0_holderOfItem 12 = .ok (.irem, 1) := by decide +kernel
theorem dX0_holderOfItem_13 : decode cX0_holderOfItem 13 = .ok (.goto 4, 3) := by decide +kernel
theorem dX0_holderOfItem_16 : decode cX0_holderOfItem 16 = .ok (.iconst (-1), 1) := by decide +kernel
theorem dX0_holderOfItem_17 : decode cX0_holderOfItem 17 = .ok (.ireturn, 1) := by decide +kernel
theorem dX0_hasItem_0 : decode cX0_hasItem 0 = .ok (.aload_n 0, 1) := by decide +kernel
theorem dX0_hasItem_1 : decode cX0_hasItem 1 = .ok (.iload_n 1, 1) := by decide +kernel
theorem dX0_hasItem_2 : decode cX0_hasItem 2 = .ok (.invokestatic 51, 3) := by decide +kernel
theorem dX0_hasItem_5 : decode cX0_hasItem 5 = .ok (.invokevirtual 55, 3) := by decide +kernel
theorem dX0_hasItem_8 : decode cX0_hasItem 8 = .ok (.astore_n 2, 1) := by decide +kernel
theorem dX0_hasItem_9 : decode cX0_hasItem 9 = .ok (.aload_n 2, 1) := by decide +kernel
theorem dX0_hasItem_10 : decode cX0_hasItem 10 = .ok (.ifnull 18, 3) := by decide +kernel
theorem dX0_hasItem_13 : decode cX0_hasItem 13 = .ok (.iload_n 1, 1) := by decide +kernel
theorem dX0_hasItem_14 : decode cX0_hasItem 14 = .ok (.invokestatic 59, 3) := by decide +kernel
theorem dX0_hasItem_17 : decode cX0_hasItem 17 = .ok (.aload_n 2, 1) := by decide +kernel
theorem dX0_hasItem_18 : decode cX0_hasItem 18 = .ok (.getfield 62, 3) := by decide +kernel
theorem dX0_hasItem_21 : decode cX0_hasItem 21 = .ok (.if_icmp .ge 7, 3) := by decide +kernel
theorem dX0_hasItem_24 : decode cX0_hasItem 24 = .ok (.iconst 1, 1) := by decide +kernel
theorem dX0_hasItem_25 : decode cX0_hasItem 25 = .ok (.goto 4, 3) := by decide +kernel
theorem dX0_hasItem_28 : decode cX0_hasItem 28 = .ok (.iconst 0, 1) := by decide +kernel
theorem dX0_hasItem_29 : decode cX0_hasItem 29 = .ok (.ireturn, 1) := by decide +kernel
theorem dX0_stateOf_0 : decode cX0_stateOf 0 = .ok (.iload_n 1, 1) := by decide +kernel
theorem dX0_stateOf_1 : decode cX0_stateOf 1 = .ok (.ifCond .lt 10, 3) := by decide +kernel
theorem dX0_stateOf_4 : decode cX0_stateOf 4 = .ok (.iload_n 1, 1) := by decide +kernel
theorem dX0_stateOf_5 : decode cX0_stateOf 5 = .ok (.sipush 148, 3) := by decide +kernel
theorem dX0_stateOf_8 : decode cX0_stateOf 8 = .ok (.if_icmp .lt 7, 3) := by decide +kernel
theorem dX0_stateOf_11 : decode cX0_stateOf 11 = .ok (.iconst 0, 1) := by decide +kernel
theorem dX0_stateOf_12 : decode cX0_stateOf 12 = .ok (.goto 9, 3) := by decide +kernel
theorem dX0_stateOf_15 : decode cX0_stateOf 15 = .ok (.aload_n 0, 1) := by decide +kernel
theorem dX0_stateOf_16 : decode cX0_stateOf 16 = .ok (.getfield 25, 3) := by decide +kernel
theorem dX0_stateOf_19 : decode cX0_stateOf 19 = .ok (.iload_n 1, 1) := by decide +kernel
theorem dX0_stateOf_20 : decode cX0_stateOf 20 = .ok (.iaload, 1) := by decide +kernel
theorem dX0_stateOf_21 : decode cX0_stateOf 21 = .ok (.ireturn, 1) := by decide +kernel
theorem dX0_setState_0 : decode cX0_setState 0 = .ok (.iload_n 1, 1) := by decide +kernel
theorem dX0_setState_1 : decode cX0_setState 1 = .ok (.ifCond .lt 17, 3) := by decide +kernel
theorem dX0_setState_4 : decode cX0_setState 4 = .ok (.iload_n 1, 1) := by decide +kernel
theorem dX0_setState_5 : decode cX0_setState 5 = .ok (.sipush 148, 3) := by decide +kernel
theorem dX0_setState_8 : decode cX0_setState 8 = .ok (.if_icmp .ge 10, 3) := by decide +kernel
theorem dX0_setState_11 : decode cX0_setState 11 = .ok (.aload_n 0, 1) := by decide +kernel
theorem dX0_setState_12 : decode cX0_setState 12 = .ok (.getfield 25, 3) := by decide +kernel
theorem dX0_setState_15 : decode cX0_setState 15 = .ok (.iload_n 1, 1) := by decide +kernel
theorem dX0_setState_16 : decode cX0_setState 16 = .ok (.iload_n 2, 1) := by decide +kernel
theorem dX0_setState_17 : decode cX0_setState 17 = .ok (.iastore, 1) := by decide +kernel
theorem dX0_setState_18 : decode cX0_setState 18 = .ok (.return_, 1) := by decide +kernel
theorem dX0_noteStart_0 : decode cX0_noteStart 0 = .ok (.aload_n 0, 1) := by decide +kernel
theorem dX0_noteStart_1 : decode cX0_noteStart 1 = .ok (.getfield 65, 3) := by decide +kernel
theorem dX0_noteStart_4 : decode cX0_noteStart 4 = .ok (.aload_n 0, 1) := by decide +kernel
theorem dX0_noteStart_5 : decode cX0_noteStart 5 = .ok (.getfield 29, 3) := by decide +kernel
theorem dX0_noteStart_8 : decode cX0_noteStart 8 = .ok (.arraylength, 1) := by decide +kernel
theorem dX0_noteStart_9 : decode cX0_noteStart 9 = .ok (.if_icmp .ge 23, 3) := by decide +kernel
theorem dX0_noteStart_12 : decode cX0_noteStart 12 = .ok (.aload_n 0, 1) := by decide +kernel
theorem dX0_noteStart_13 : decode cX0_noteStart 13 = .ok (.getfield 29, 3) := by decide +kernel
theorem dX0_noteStart_16 : decode cX0_noteStart 16 = .ok (.aload_n 0, 1) := by decide +kernel
theorem dX0_noteStart_17 : decode cX0_noteStart 17 = .ok (.getfield 65, 3) := by decide +kernel
theorem dX0_noteStart_20 : decode cX0_noteStart 20 = .ok (.iload_n 1, 1) := by decide +kernel
theorem dX0_noteStart_21 : decode cX0_noteStart 21 = .ok (.iastore, 1) := by decide +kernel
theorem dX0_noteStart_22 : decode cX0_noteStart 22 = .ok (.aload_n 0, 1) := by decide +kernel
theorem dX0_noteStart_23 : decode cX0_noteStart 23 = .ok (.dup, 1) := by decide +kernel
theorem dX0_noteStart_24 : decode cX0_noteStart 24 = .ok (.getfield 65, 3) := by decide +kernel
theorem dX0_noteStart_27 : decode cX0_noteStart 27 = .ok (.iconst 1, 1) := by decide +kernel
theorem dX0_noteStart_28 : decode cX0_noteStart 28 = .ok (.iadd, 1) := by decide +kernel
theorem dX0_noteStart_29 : decode cX0_noteStart 29 = .ok (.putfield 65, 3) := by decide +kernel
theorem dX0_noteStart_32 : decode cX0_noteStart 32 = .ok (.return_, 1) := by decide +kernel
theorem dX0_noteSeen_0 : decode cX0_noteSeen 0 = .ok (.aload_n 0, 1) := by decide +kernel
theorem dX0_noteSeen_1 : decode cX0_noteSeen 1 = .ok (.getfield 68, 3) := by decide +kernel
theorem dX0_noteSeen_4 : decode cX0_noteSeen 4 = .ok (.aload_n 0, 1) := by decide +kernel
theorem dX0_noteSeen_5 : decode cX0_noteSeen 5 = .ok (.getfield 37, 3) := by decide +kernel
theorem dX0_noteSeen_8 : decode cX0_noteSeen 8 = .ok (.arraylength, 1) := by decide +kernel
theorem dX0_noteSeen_9 : decode cX0_noteSeen 9 = .ok (.if_icmp .ge 33, 3) := by decide +kernel
theorem dX0_noteSeen_12 : decode cX0_noteSeen 12 = .ok (.aload_n 0, 1) := by decide +kernel
theorem dX0_noteSeen_13 : decode cX0_noteSeen 13 = .ok (.getfield 37, 3) := by decide +kernel
theorem dX0_noteSeen_16 : decode cX0_noteSeen 16 = .ok (.aload_n 0, 1) := by decide +kernel
theorem dX0_noteSeen_17 : decode cX0_noteSeen 17 = .ok (.getfield 68, 3) := by decide +kernel
theorem dX0_noteSeen_20 : decode cX0_noteSeen 20 = .ok (.iload_n 1, 1) := by decide +kernel
theorem dX0_noteSeen_21 : decode cX0_noteSeen 21 = .ok (.iastore, 1) := by decide +kernel
theorem dX0_noteSeen_22 : decode cX0_noteSeen 22 = .ok (.aload_n 0, 1) := by decide +kernel
theorem dX0_noteSeen_23 : decode cX0_noteSeen 23 = .ok (.getfield 40, 3) := by decide +kernel
theorem dX0_noteSeen_26 : decode cX0_noteSeen 26 = .ok (.aload_n 0, 1) := by decide +kernel
theorem dX0_noteSeen_27 : decode cX0_noteSeen 27 = .ok (.getfield 68, 3) := by decide +kernel
theorem dX0_noteSeen_30 : decode cX0_noteSeen 30 = .ok (.iload_n 2, 1) := by decide +kernel
theorem dX0_noteSeen_31 : decode cX0_noteSeen 31 = .ok (.iastore, 1) := by decide +kernel
theorem dX0_noteSeen_32 : decode cX0_noteSeen 32 = .ok (.aload_n 0, 1) := by decide +kernel
theorem dX0_noteSeen_33 : decode cX0_noteSeen 33 = .ok (.dup, 1) := by decide +kernel
theorem dX0_noteSeen_34 : decode cX0_noteSeen 34 = .ok (.getfield 68, 3) := by decide +kernel
theorem dX0_noteSeen_37 : decode cX0_noteSeen 37 = .ok (.iconst 1, 1) := by decide +kernel
theorem dX0_noteSeen_38 : decode cX0_noteSeen 38 = .ok (.iadd, 1) := by decide +kernel
theorem dX0_noteSeen_39 : decode cX0_noteSeen 39 = .ok (.putfield 68, 3) := by decide +kernel
theorem dX0_noteSeen_42 : decode cX0_noteSeen 42 = .ok (.return_, 1) := by decide +kernel
theorem dX0_linkNames_0 : decode cX0_linkNames 0 = .ok (.iconst 0, 1) := by decide +kernel
theorem dX0_linkNames_1 : decode cX0_linkNames 1 = .ok (.istore_n 2, 1) := by decide +kernel
theorem dX0_linkNames_2 : decode cX0_linkNames 2 = .ok (.iload_n 2, 1) := by decide +kernel
theorem dX0_linkNames_3 : decode cX0_linkNames 3 = .ok (.aload_n 0, 1) := by decide +kernel
theorem dX0_linkNames_4 : decode cX0_linkNames 4 = .ok (.getfield 17, 3) := by decide +kernel
theorem dX0_linkNames_7 : decode cX0_linkNames 7 = .ok (.if_icmp .ge 74, 3) := by decide +kernel
theorem dX0_linkNames_10 : decode cX0_linkNames 10 = .ok (.aload_n 0, 1) := by decide +kernel
theorem dX0_linkNames_11 : decode cX0_linkNames 11 = .ok (.getfield 11, 3) := by decide +kernel
theorem dX0_linkNames_14 : decode cX0_linkNames 14 = .ok (.iload_n 2, 1) := by decide +kernel
theorem dX0_linkNames_15 : decode cX0_linkNames 15 = .ok (.aaload, 1) := by decide +kernel
theorem dX0_linkNames_16 : decode cX0_linkNames 16 = .ok (.getfield 71, 3) := by decide +kernel
theorem dX0_linkNames_19 : decode cX0_linkNames 19 = .ok (.aload_n 0, 1) := by decide +kernel
theorem dX0_linkNames_20 : decode cX0_linkNames 20 = .ok (.getfield 21, 3) := by decide +kernel
theorem dX0_linkNames_23 : decode cX0_linkNames 23 = .ok (.getfield 32, 3) := by decide +kernel
theorem dX0_linkNames_26 : decode cX0_linkNames 26 = .ok (.invokestatic 74, 3) := by decide +kernel
theorem dX0_linkNames_29 : decode cX0_linkNames 29 = .ok (.istore_n 3, 1) := by decide +kernel
theorem dX0_linkNames_30 : decode cX0_linkNames 30 = .ok (.aload_n 0, 1) := by decide +kernel
theorem dX0_linkNames_31 : decode cX0_linkNames 31 = .ok (.getfield 11, 3) := by decide +kernel
theorem dX0_linkNames_34 : decode cX0_linkNames 34 = .ok (.iload_n 2, 1) := by decide +kernel
theorem dX0_linkNames_35 : decode cX0_linkNames 35 = .ok (.aaload, 1) := by decide +kernel
theorem dX0_linkNames_36 : decode cX0_linkNames 36 = .ok (.getfield 80, 3) := by decide +kernel
theorem dX0_linkNames_39 : decode cX0_linkNames 39 = .ok (.iconst 0, 1) := by decide +kernel
theorem dX0_linkNames_40 : decode cX0_linkNames 40 = .ok (.invokestatic 83, 3) := by decide +kernel
theorem dX0_linkNames_43 : decode cX0_linkNames 43 = .ok (.istore 4, 2) := by decide +kernel
theorem dX0_linkNames_45 : decode cX0_linkNames 45 = .ok (.iload 4, 2) := by decide +kernel
theorem dX0_linkNames_47 : decode cX0_linkNames 47 = .ok (.iload_n 3, 1) := by decide +kernel
theorem dX0_linkNames_48 : decode cX0_linkNames 48 = .ok (.if_icmp .ge 27, 3) := by decide +kernel
theorem dX0_linkNames_51 : decode cX0_linkNames 51 = .ok (.aload_n 0, 1) := by decide +kernel
theorem dX0_linkNames_52 : decode cX0_linkNames 52 = .ok (.iload 4, 2) := by decide +kernel
theorem dX0_linkNames_54 : decode cX0_linkNames 54 = .ok (.iload_n 2, 1) := by decide +kernel
theorem dX0_linkNames_55 : decode cX0_linkNames 55 = .ok (.aload_n 1, 1) := by decide +kernel
theorem dX0_linkNames_56 : decode cX0_linkNames 56 = .ok (.invokevirtual 86, 3) := by decide +kernel
theorem dX0_linkNames_59 : decode cX0_linkNames 59 = .ok (.istore 5, 2) := by decide +kernel
theorem dX0_linkNames_61 : decode cX0_linkNames 61 = .ok (.iload 5, 2) := by decide +kernel
theorem dX0_linkNames_63 : decode cX0_linkNames 63 = .ok (.ifCond .lt 6, 3) := by decide +kernel
theorem dX0_linkNames_66 : decode cX0_linkNames 66 = .ok (.iload 5, 2) := by decide +kernel
theorem dX0_linkNames_68 : decode cX0_linkNames 68 = .ok (.ireturn, 1) := by decide +kernel
theorem dX0_linkNames_69 : decode cX0_linkNames 69 = .ok (.iinc 4 1, 3) := by decide +kernel
theorem dX0_linkNames_72 : decode cX0_linkNames 72 = .ok (.goto (-27), 3) := by decide +kernel
theorem dX0_linkNames_75 : decode cX0_linkNames 75 = .ok (.iinc 2 1, 3) := by decide +kernel
theorem dX0_linkNames_78 : decode cX0_linkNames 78 = .ok (.goto (-76), 3) := by decide +kernel
theorem dX0_linkNames_81 : decode cX0_linkNames 81 = .ok (.iconst (-1), 1) := by decide +kernel
theorem dX0_linkNames_82 : decode cX0_linkNames 82 = .ok (.ireturn, 1) := by decide +kernel
theorem dX0_linkStep_0 : decode cX0_linkStep 0 = .ok (.aload_n 0, 1) := by decide +kernel
theorem dX0_linkStep_1 : decode cX0_linkStep 1 = .ok (.getfield 21, 3) := by decide +kernel
theorem dX0_linkStep_4 : decode cX0_linkStep 4 = .ok (.getfield 90, 3) := by decide +kernel
theorem dX0_linkStep_7 : decode cX0_linkStep 7 = .ok (.iload_n 1, 1) := by decide +kernel
theorem dX0_linkStep_8 : decode cX0_linkStep 8 = .ok (.iaload, 1) := by decide +kernel
theorem dX0_linkStep_9 : decode cX0_linkStep 9 = .ok (.istore 4, 2) := by decide +kernel
theorem dX0_linkStep_11 : decode cX0_linkStep 11 = .ok (.iload 4, 2) := by decide +kernel
theorem dX0_linkStep_13 : decode cX0_linkStep 13 = .ok (.iconst 5, 1) := by decide +kernel
theorem dX0_linkStep_14 : decode cX0_linkStep 14 = .ok (.if_icmp .ne 19, 3) := by decide +kernel
theorem dX0_linkStep_17 : decode cX0_linkStep 17 = .ok (.aload_n 0, 1) := by decide +kernel
theorem dX0_linkStep_18 : decode cX0_linkStep 18 = .ok (.iload_n 1, 1) := by decide +kernel
theorem dX0_linkStep_19 : decode cX0_linkStep 19 = .ok (.iconst 1, 1) := by decide +kernel
theorem dX0_linkStep_20 : decode cX0_linkStep 20 = .ok (.aload_n 0, 1) := by decide +kernel
theorem dX0_linkStep_21 : decode cX0_linkStep 21 = .ok (.getfield 11, 3) := by decide +kernel
theorem dX0_linkStep_24 : decode cX0_linkStep 24 = .ok (.iload_n 2, 1) := by decide +kernel
theorem dX0_linkStep_25 : decode cX0_linkStep 25 = .ok (.aaload, 1) := by decide +kernel
theorem dX0_linkStep_26 : decode cX0_linkStep 26 = .ok (.getfield 93, 3) := by decide +kernel
theorem dX0_linkStep_29 : decode cX0_linkStep 29 = .ok (.invokevirtual 96, 3) := by decide +kernel
theorem dX0_linkStep_32 : decode cX0_linkStep 32 = .ok (.ireturn, 1) := by decide +kernel
theorem dX0_linkStep_33 : decode cX0_linkStep 33 = .ok (.iload 4, 2) := by decide +kernel
theorem dX0_linkStep_35 : decode cX0_linkStep 35 = .ok (.bipush 11, 2) := by decide +kernel
theorem dX0_linkStep_37 : decode cX0_linkStep 37 = .ok (.if_icmp .lt 10, 3) := by decide +kernel
theorem dX0_linkStep_40 : decode cX0_linkStep 40 = .ok (.iload 4, 2) := by decide +kernel
theorem dX0_linkStep_42 : decode cX0_linkStep 42 = .ok (.bipush 14, 2) := by decide +kernel
theorem dX0_linkStep_44 : decode cX0_linkStep 44 = .ok (.if_icmp .le 5, 3) := by decide +kernel
theorem dX0_linkStep_47 : decode cX0_linkStep 47 = .ok (.iconst (-1), 1) := by decide +kernel
theorem dX0_linkStep_48 : decode cX0_linkStep 48 = .ok (.ireturn, 1) := by decide +kernel
theorem dX0_linkStep_49 : decode cX0_linkStep 49 = .ok (.aload_n 0, 1) := by decide +kernel
theorem dX0_linkStep_50 : decode cX0_linkStep 50 = .ok (.getfield 21, 3) := by decide +kernel
theorem dX0_linkStep_53 : decode cX0_linkStep 53 = .ok (.getfield 100, 3) := by decide +kernel
theorem dX0_linkStep_56 : decode cX0_linkStep 56 = .ok (.iload_n 1, 1) := by decide +kernel
theorem dX0_linkStep_57 : decode cX0_linkStep 57 = .ok (.iaload, 1) := by decide +kernel
theorem dX0_linkStep_58 : decode cX0_linkStep 58 = .ok (.istore 5, 2) := by decide +kernel
theorem dX0_linkStep_60 : decode cX0_linkStep 60 = .ok (.iload_n 2, 1) := by decide +kernel
theorem dX0_linkStep_61 : decode cX0_linkStep 61 = .ok (.istore 6, 2) := by decide +kernel
theorem dX0_linkStep_63 : decode cX0_linkStep 63 = .ok (.iload 4, 2) := by decide +kernel
theorem dX0_linkStep_65 : decode cX0_linkStep 65 = .ok (.bipush 14, 2) := by decide +kernel
theorem dX0_linkStep_67 : decode cX0_linkStep 67 = .ok (.if_icmp .eq 41, 3) := by decide +kernel
theorem dX0_linkStep_70 : decode cX0_linkStep 70 = .ok (.aload_n 3, 1) := by decide +kernel
theorem dX0_linkStep_71 : decode cX0_linkStep 71 = .ok (.getfield 103, 3) := by decide +kernel
theorem dX0_linkStep_74 : decode cX0_linkStep 74 = .ok (.iload 5, 2) := by decide +kernel
theorem dX0_linkStep_76 : decode cX0_linkStep 76 = .ok (.iconst 1, 1) := by decide +kernel
theorem dX0_linkStep_77 : decode cX0_linkStep 77 = .ok (.iadd, 1) := by decide +kernel
theorem dX0_linkStep_78 : decode cX0_linkStep 78 = .ok (.iaload, 1) := by decide +kernel
theorem dX0_linkStep_79 : decode cX0_linkStep 79 = .ok (.bipush 46, 2) := by decide +kernel
theorem dX0_linkStep_81 : decode cX0_linkStep 81 = .ok (.if_icmp .ne 27, 3) := by decide +kernel
theorem dX0_linkStep_84 : decode cX0_linkStep 84 = .ok (.aload_n 0, 1) := by decide +kernel
theorem dX0_linkStep_85 : decode cX0_linkStep 85 = .ok (.aload_n 3, 1) := by decide +kernel
theorem dX0_linkStep_86 : decode cX0_linkStep 86 = .ok (.getfield 108, 3) := by decide +kernel
theorem dX0_linkStep_89 : decode cX0_linkStep 89 = .ok (.iload 5, 2) := by decide +kernel
theorem dX0_linkStep_91 : decode cX0_linkStep 91 = .ok (.laload, 1) := by decide +kernel
theorem dX0_linkStep_92 : decode cX0_linkStep 92 = .ok (.invokevirtual 112, 3) := by decide +kernel
theorem dX0_linkStep_95 : decode cX0_linkStep 95 = .ok (.istore 6, 2) := by decide +kernel
theorem dX0_linkStep_97 : decode cX0_linkStep 97 = .ok (.iload 6, 2) := by decide +kernel
theorem dX0_linkStep_99 : decode cX0_linkStep 99 = .ok (.ifCond .ge 6, 3) := by decide +kernel
theorem dX0_linkStep_102 : decode cX0_linkStep 102 = .ok (.iload 5, 2) := by decide +kernel
theorem dX0_linkStep_104 : decode cX0_linkStep 104 = .ok (.ireturn, 1) := by decide +kernel
theorem dX0_linkStep_105 : decode cX0_linkStep 105 = .ok (.iinc 5 2, 3) := by decide +kernel
theorem dX0_linkStep_108 : decode cX0_linkStep 108 = .ok (.aload_n 0, 1) := by decide +kernel
theorem dX0_linkStep_109 : decode cX0_linkStep 109 = .ok (.iload_n 1, 1) := by decide +kernel
theorem dX0_linkStep_110 : decode cX0_linkStep 110 = .ok (.iload 6, 2) := by decide +kernel
theorem dX0_linkStep_112 : decode cX0_linkStep 112 = .ok (.aload_n 3, 1) := by decide +kernel
theorem dX0_linkStep_113 : decode cX0_linkStep 113 = .ok (.getfield 108, 3) := by decide +kernel
theorem dX0_linkStep_116 : decode cX0_linkStep 116 = .ok (.iload 5, 2) := by decide +kernel
theorem dX0_linkStep_118 : decode cX0_linkStep 118 = .ok (.laload, 1) := by decide +kernel
theorem dX0_linkStep_119 : decode cX0_linkStep 119 = .ok (.invokevirtual 116, 3) := by decide +kernel
theorem dX0_linkStep_122 : decode cX0_linkStep 122 = .ok (.istore 7, 2) := by decide +kernel
theorem dX0_linkStep_124 : decode cX0_linkStep 124 = .ok (.iload 7, 2) := by decide +kernel
theorem dX0_linkStep_126 : decode cX0_linkStep 126 = .ok (.ifCond .eq 7, 3) := by decide +kernel
theorem dX0_linkStep_129 : decode cX0_linkStep 129 = .ok (.iconst (-1), 1) := by decide +kernel
theorem dX0_linkStep_130 : decode cX0_linkStep 130 = .ok (.goto 5, 3) := by decide +kernel
theorem dX0_linkStep_133 : decode cX0_linkStep 133 = .ok (.iload 5, 2) := by decide +kernel
theorem dX0_linkStep_135 : decode cX0_linkStep 135 = .ok (.ireturn, 1) := by decide +kernel
theorem dX0_linkTo_0 : decode cX0_linkTo 0 = .ok (.aload_n 0, 1) := by decide +kernel
theorem dX0_linkTo_1 : decode cX0_linkTo 1 = .ok (.getfield 11, 3) := by decide +kernel
theorem dX0_linkTo_4 : decode cX0_linkTo 4 = .ok (.iload_n 2, 1) := by decide +kernel
theorem dX0_linkTo_5 : decode cX0_linkTo 5 = .ok (.aaload, 1) := by decide +kernel
theorem dX0_linkTo_6 : decode cX0_linkTo 6 = .ok (.astore 5, 2) := by decide +kernel
theorem dX0_linkTo_8 : decode cX0_linkTo 8 = .ok (.aload_n 0, 1) := by decide +kernel
theorem dX0_linkTo_9 : decode cX0_linkTo 9 = .ok (.getfield 21, 3) := by decide +kernel
theorem dX0_linkTo_12 : decode cX0_linkTo 12 = .ok (.getfield 90, 3) := by decide +kernel
theorem dX0_linkTo_15 : decode cX0_linkTo 15 = .ok (.iload_n 1, 1) := by decide +kernel
theorem dX0_linkTo_16 : decode cX0_linkTo 16 = .ok (.iaload, 1) := by decide +kernel
theorem dX0_linkTo_17 : decode cX0_linkTo 17 = .ok (.istore 6, 2) := by decide +kernel
theorem dX0_linkTo_19 : decode cX0_linkTo 19 = .ok (.iload 6, 2) := by decide +kernel
theorem dX0_linkTo_21 : decode cX0_linkTo 21 = .ok (.bipush 12, 2) := by decide +kernel
theorem dX0_linkTo_23 : decode cX0_linkTo 23 = .ok (.if_icmp .eq 10, 3) := by decide +kernel
theorem dX0_linkTo_26 : decode cX0_linkTo 26 = .ok (.iload 6, 2) := by decide +kernel
theorem dX0_linkTo_28 : decode cX0_linkTo 28 = .ok (.bipush 13, 2) := by decide +kernel
theorem dX0_linkTo_30 : decode cX0_linkTo 30 = .ok (.if_icmp .ne 69, 3) := by decide +kernel
theorem dX0_linkTo_33 : decode cX0_linkTo 33 = .ok (.aload 5, 2) := by decide +kernel
theorem dX0_linkTo_35 : decode cX0_linkTo 35 = .ok (.lload_n 3, 1) := by decide +kernel
theorem dX0_linkTo_36 : decode cX0_linkTo 36 = .ok (.invokevirtual 120, 3) := by decide +kernel
theorem dX0_linkTo_39 : decode cX0_linkTo 39 = .ok (.istore 7, 2) := by decide +kernel
theorem dX0_linkTo_41 : decode cX0_linkTo 41 = .ok (.iload 6, 2) := by decide +kernel
theorem dX0_linkTo_43 : decode cX0_linkTo 43 = .ok (.bipush 12, 2) := by decide +kernel
theorem dX0_linkTo_45 : decode cX0_linkTo 45 = .ok (.if_icmp .ne 7, 3) := by decide +kernel
theorem dX0_linkTo_48 : decode cX0_linkTo 48 = .ok (.iconst 1, 1) := by decide +kernel
theorem dX0_linkTo_49 : decode cX0_linkTo 49 = .ok (.goto 4, 3) := by decide +kernel
theorem dX0_linkTo_52 : decode cX0_linkTo 52 = .ok (.iconst 0, 1) := by decide +kernel
theorem dX0_linkTo_53 : decode cX0_linkTo 53 = .ok (.istore 8, 2) := by decide +kernel
theorem dX0_linkTo_55 : decode cX0_linkTo 55 = .ok (.aload_n 0, 1) := by decide +kernel
theorem dX0_linkTo_56 : decode cX0_linkTo 56 = .ok (.iload_n 1, 1) := by decide +kernel
theorem dX0_linkTo_57 : decode cX0_linkTo 57 = .ok (.iload 8, 2) := by decide +kernel
theorem dX0_linkTo_59 : decode cX0_linkTo 59 = .ok (.ifCond .eq 8, 3) := by decide +kernel
theorem dX0_linkTo_62 : decode cX0_linkTo 62 = .ok (.bipush 17, 2) := by decide +kernel
theorem dX0_linkTo_64 : decode cX0_linkTo 64 = .ok (.goto 5, 3) := by decide +kernel
theorem dX0_linkTo_67 : decode cX0_linkTo 67 = .ok (.bipush 18, 2) := by decide +kernel
theorem dX0_linkTo_69 : decode cX0_linkTo 69 = .ok (.iload 8, 2) := by decide +kernel
theorem dX0_linkTo_71 : decode cX0_linkTo 71 = .ok (.ifCond .eq 7, 3) := by decide +kernel
theorem dX0_linkTo_74 : decode cX0_linkTo 74 = .ok (.iload_n 2, 1) := by decide +kernel
theorem dX0_linkTo_75 : decode cX0_linkTo 75 = .ok (.goto 9, 3) := by decide +kernel
theorem dX0_linkTo_78 : decode cX0_linkTo 78 = .ok (.iload_n 2, 1) := by decide +kernel
theorem dX0_linkTo_79 : decode cX0_linkTo 79 = .ok (.iconst 4, 1) := by decide +kernel
theorem dX0_linkTo_80 : decode cX0_linkTo 80 = .ok (.imul, 1) := by decide +kernel
theorem dX0_linkTo_81 : decode cX0_linkTo 81 = .ok (.iload 7, 2) := by decide +kernel
theorem dX0_linkTo_83 : decode cX0_linkTo 83 = .ok (.iadd, 1) := by decide +kernel
theorem dX0_linkTo_84 : decode cX0_linkTo 84 = .ok (.invokevirtual 96, 3) := by decide +kernel
theorem dX0_linkTo_87 : decode cX0_linkTo 87 = .ok (.pop, 1) := by decide +kernel
theorem dX0_linkTo_88 : decode cX0_linkTo 88 = .ok (.iload 7, 2) := by decide +kernel
theorem dX0_linkTo_90 : decode cX0_linkTo 90 = .ok (.ifCond .lt 7, 3) := by decide +kernel
theorem dX0_linkTo_93 : decode cX0_linkTo 93 = .ok (.iconst 1, 1) := by decide +kernel
theorem dX0_linkTo_94 : decode cX0_linkTo 94 = .ok (.goto 4, 3) := by decide +kernel
theorem dX0_linkTo_97 : decode cX0_linkTo 97 = .ok (.iconst 0, 1) := by decide +kernel
theorem dX0_linkTo_98 : decode cX0_linkTo 98 = .ok (.ireturn, 1) := by decide +kernel
theorem dX0_linkTo_99 : decode cX0_linkTo 99 = .ok (.aload 5, 2) := by decide +kernel
theorem dX0_linkTo_101 : decode cX0_linkTo 101 = .ok (.lload_n 3, 1) := by decide +kernel
theorem dX0_linkTo_102 : decode cX0_linkTo 102 = .ok (.invokevirtual 123, 3) := by decide +kernel
theorem dX0_linkTo_105 : decode cX0_linkTo 105 = .ok (.istore 7, 2) := by decide +kernel
theorem dX0_linkTo_107 : decode cX0_linkTo 107 = .ok (.iload 6, 2) := by decide +kernel
theorem dX0_linkTo_109 : decode cX0_linkTo 109 = .ok (.bipush 14, 2) := by decide +kernel
theorem dX0_linkTo_111 : decode cX0_linkTo 111 = .ok (.if_icmp .ne 24, 3) := by decide +kernel
theorem dX0_linkTo_114 : decode cX0_linkTo 114 = .ok (.aload_n 0, 1) := by decide +kernel
theorem dX0_linkTo_115 : decode cX0_linkTo 115 = .ok (.iload_n 1, 1) := by decide +kernel
theorem dX0_linkTo_116 : decode cX0_linkTo 116 = .ok (.iload 6, 2) := by decide +kernel
theorem dX0_linkTo_118 : decode cX0_linkTo 118 = .ok (.iload 7, 2) := by decide +kernel
theorem dX0_linkTo_120 : decode cX0_linkTo 120 = .ok (.invokevirtual 96, 3) := by decide +kernel
theorem dX0_linkTo_123 : decode cX0_linkTo 123 = .ok (.pop, 1) := by decide +kernel
theorem dX0_linkTo_124 : decode cX0_linkTo 124 = .ok (.iload 7, 2) := by decide +kernel
theorem dX0_linkTo_126 : decode cX0_linkTo 126 = .ok (.ifCond .lt 7, 3) := by decide +kernel
theorem dX0_linkTo_129 : decode cX0_linkTo 129 = .ok (.iconst 1, 1) := by decide +kernel
theorem dX0_linkTo_130 : decode cX0_linkTo 130 = .ok (.goto 4, 3) := by decide +kernel
theorem dX0_linkTo_133 : decode cX0_linkTo 133 = .ok (.iconst 0, 1) := by decide +kernel
theorem dX0_linkTo_134 : decode cX0_linkTo 134 = .ok (.ireturn, 1) := by decide +kernel
theorem dX0_linkTo_135 : decode cX0_linkTo 135 = .ok (.iload 7, 2) := by decide +kernel
theorem dX0_linkTo_137 : decode cX0_linkTo 137 = .ok (.ifCond .lt 20, 3) := by decide +kernel
theorem dX0_linkTo_140 : decode cX0_linkTo 140 = .ok (.aload_n 0, 1) := by decide +kernel
theorem dX0_linkTo_141 : decode cX0_linkTo 141 = .ok (.iload_n 1, 1) := by decide +kernel
theorem dX0_linkTo_142 : decode cX0_linkTo 142 = .ok (.bipush 15, 2) := by decide +kernel
theorem dX0_linkTo_144 : decode cX0_linkTo 144 = .ok (.iload_n 2, 1) := by decide +kernel
theorem dX0_linkTo_145 : decode cX0_linkTo 145 = .ok (.bipush 24, 2) := by decide +kernel
theorem dX0_linkTo_147 : decode cX0_linkTo 147 = .ok (.imul, 1) := by decide +kernel
theorem dX0_linkTo_148 : decode cX0_linkTo 148 = .ok (.iload 7, 2) := by decide +kernel
theorem dX0_linkTo_150 : decode cX0_linkTo 150 = .ok (.iadd, 1) := by decide +kernel
theorem dX0_linkTo_151 : decode cX0_linkTo 151 = .ok (.invokevirtual 96, 3) := by decide +kernel
theorem dX0_linkTo_154 : decode cX0_linkTo 154 = .ok (.pop, 1) := by decide +kernel
theorem dX0_linkTo_155 : decode cX0_linkTo 155 = .ok (.iconst 1, 1) := by decide +kernel
theorem dX0_linkTo_156 : decode cX0_linkTo 156 = .ok (.ireturn, 1) := by decide +kernel
theorem dX0_linkTo_157 : decode cX0_linkTo 157 = .ok (.aload 5, 2) := by decide +kernel
theorem dX0_linkTo_159 : decode cX0_linkTo 159 = .ok (.lload_n 3, 1) := by decide +kernel
theorem dX0_linkTo_160 : decode cX0_linkTo 160 = .ok (.invokevirtual 126, 3) := by decide +kernel
theorem dX0_linkTo_163 : decode cX0_linkTo 163 = .ok (.istore 8, 2) := by decide +kernel
theorem dX0_linkTo_165 : decode cX0_linkTo 165 = .ok (.aload_n 0, 1) := by decide +kernel
theorem dX0_linkTo_166 : decode cX0_linkTo 166 = .ok (.iload_n 1, 1) := by decide +kernel
theorem dX0_linkTo_167 : decode cX0_linkTo 167 = .ok (.bipush 16, 2) := by decide +kernel
theorem dX0_linkTo_169 : decode cX0_linkTo 169 = .ok (.bipush 100, 2) := by decide +kernel
theorem dX0_linkTo_171 : decode cX0_linkTo 171 = .ok (.iload_n 2, 1) := by decide +kernel
theorem dX0_linkTo_172 : decode cX0_linkTo 172 = .ok (.iconst 4, 1) := by decide +kernel
theorem dX0_linkTo_173 : decode cX0_linkTo 173 = .ok (.imul, 1) := by decide +kernel
theorem dX0_linkTo_174 : decode cX0_linkTo 174 = .ok (.iadd, 1) := by decide +kernel
theorem dX0_linkTo_175 : decode cX0_linkTo 175 = .ok (.iload 8, 2) := by decide +kernel
theorem dX0_linkTo_177 : decode cX0_linkTo 177 = .ok (.iadd, 1) := by decide +kernel
theorem dX0_linkTo_178 : decode cX0_linkTo 178 = .ok (.invokevirtual 96, 3) := by decide +kernel
theorem dX0_linkTo_181 : decode cX0_linkTo 181 = .ok (.pop, 1) := by decide +kernel
theorem dX0_linkTo_182 : decode cX0_linkTo 182 = .ok (.iload 8, 2) := by decide +kernel
theorem dX0_linkTo_184 : decode cX0_linkTo 184 = .ok (.ifCond .lt 7, 3) := by decide +kernel
theorem dX0_linkTo_187 : decode cX0_linkTo 187 = .ok (.iconst 1, 1) := by decide +kernel
theorem dX0_linkTo_188 : decode cX0_linkTo 188 = .ok (.goto 4, 3) := by decide +kernel
theorem dX0_linkTo_191 : decode cX0_linkTo 191 = .ok (.iconst 0, 1) := by decide +kernel
theorem dX0_linkTo_192 : decode cX0_linkTo 192 = .ok (.ireturn, 1) := by decide +kernel
theorem dX0_relink_0 : decode cX0_relink 0 = .ok (.aload_n 0, 1) := by decide +kernel
theorem dX0_relink_1 : decode cX0_relink 1 = .ok (.getfield 21, 3) := by decide +kernel
theorem dX0_relink_4 : decode cX0_relink 4 = .ok (.getfield 90, 3) := by decide +kernel
theorem dX0_relink_7 : decode cX0_relink 7 = .ok (.iload_n 1, 1) := by decide +kernel
theorem dX0_relink_8 : decode cX0_relink 8 = .ok (.iload_n 2, 1) := by decide +kernel
theorem dX0_relink_9 : decode cX0_relink 9 = .ok (.iastore, 1) := by decide +kernel
theorem dX0_relink_10 : decode cX0_relink 10 = .ok (.aload_n 0, 1) := by decide +kernel
theorem dX0_relink_11 : decode cX0_relink 11 = .ok (.getfield 21, 3) := by decide +kernel
theorem dX0_relink_14 : decode cX0_relink 14 = .ok (.getfield 100, 3) := by decide +kernel
theorem dX0_relink_17 : decode cX0_relink 17 = .ok (.iload_n 1, 1) := by decide +kernel
theorem dX0_relink_18 : decode cX0_relink 18 = .ok (.iload_n 3, 1) := by decide +kernel
theorem dX0_relink_19 : decode cX0_relink 19 = .ok (.iastore, 1) := by decide +kernel
theorem dX0_relink_20 : decode cX0_relink 20 = .ok (.iconst (-1), 1) := by decide +kernel
theorem dX0_relink_21 : decode cX0_relink 21 = .ok (.ireturn, 1) := by decide +kernel
theorem dX1_init_0 : decode cX1_init 0 = .ok (.aload_n 0, 1) := by decide +kernel
theorem dX1_init_1 : decode cX1_init 1 = .ok (.invokespecial 1, 3) := by decide +kernel
theorem dX1_init_4 : decode cX1_init 4 = .ok (.aload_n 0, 1) := by decide +kernel
theorem dX1_init_5 : decode cX1_init 5 = .ok (.iload_n 1, 1) := by decide +kernel
theorem dX1_init_6 : decode cX1_init 6 = .ok (.iconst 0, 1) := by decide +kernel
theorem dX1_init_7 : decode cX1_init 7 = .ok (.invokestatic 7, 3) := by decide +kernel
theorem dX1_init_10 : decode cX1_init 10 = .ok (.newarray .int, 2) := by decide +kernel
theorem dX1_init_12 : decode cX1_init 12 = .ok (.putfield 13, 3) := by decide +kernel
theorem dX1_init_15 : decode cX1_init 15 = .ok (.aload_n 0, 1) := by decide +kernel
theorem dX1_init_16 : decode cX1_init 16 = .ok (.iload_n 1, 1) := by decide +kernel
theorem dX1_init_17 : decode cX1_init 17 = .ok (.iconst 0, 1) := by decide +kernel
theorem dX1_init_18 : decode cX1_init 18 = .ok (.invokestatic 7, 3) := by decide +kernel
theorem dX1_init_21 : decode cX1_init 21 = .ok (.newarray .int, 2) := by decide +kernel
theorem dX1_init_23 : decode cX1_init 23 = .ok (.putfield 19, 3) := by decide +kernel
theorem dX1_init_26 : decode cX1_init 26 = .ok (.return_, 1) := by decide +kernel
theorem dX1_ofSum_0 : decode cX1_ofSum 0 = .ok (.iload_n 0, 1) := by decide +kernel
theorem dX1_ofSum_1 : decode cX1_ofSum 1 = .ok (.bipush 43, 2) := by decide +kernel
theorem dX1_ofSum_3 : decode cX1_ofSum 3 = .ok (.if_icmp .ne 8, 3) := by decide +kernel
theorem dX1_ofSum_6 : decode cX1_ofSum 6 = .ok (.bipush 7, 2) := by decide +kernel
theorem dX1_ofSum_8 : decode cX1_ofSum 8 = .ok (.goto 15, 3) := by decide +kernel
theorem dX1_ofSum_11 : decode cX1_ofSum 11 = .ok (.iload_n 0, 1) := by decide +kernel
theorem dX1_ofSum_12 : decode cX1_ofSum 12 = .ok (.bipush 45, 2) := by decide +kernel
theorem dX1_ofSum_14 : decode cX1_ofSum 14 = .ok (.if_icmp .ne 8, 3) := by decide +kernel
theorem dX1_ofSum_17 : decode cX1_ofSum 17 = .ok (.bipush 8, 2) := by decide +kernel
theorem dX1_ofSum_19 : decode cX1_ofSum 19 = .ok (.goto 4, 3) := by decide +kernel
theorem dX1_ofSum_22 : decode cX1_ofSum 22 = .ok (.iconst 0, 1) := by decide +kernel
theorem dX1_ofSum_23 : decode cX1_ofSum 23 = .ok (.ireturn, 1) := by decide +kernel
theorem dX1_ofProduct_0 : decode cX1_ofProduct 0 = .ok (.iload_n 0, 1) := by decide +kernel
theorem dX1_ofProduct_1 : decode cX1_ofProduct 1 = .ok (.bipush 42, 2) := by decide +kernel
theorem dX1_ofProduct_3 : decode cX1_ofProduct 3 = .ok (.if_icmp .ne 8, 3) := by decide +kernel
theorem dX1_ofProduct_6 : decode cX1_ofProduct 6 = .ok (.bipush 9, 2) := by decide +kernel
theorem dX1_ofProduct_8 : decode cX1_ofProduct 8 = .ok (.goto 15, 3) := by decide +kernel
theorem dX1_ofProduct_11 : decode cX1_ofProduct 11 = .ok (.iload_n 0, 1) := by decide +kernel
theorem dX1_ofProduct_12 : decode cX1_ofProduct 12 = .ok (.bipush 47, 2) := by decide +kernel
theorem dX1_ofProduct_14 : decode cX1_ofProduct 14 = .ok (.if_icmp .ne 8, 3) := by decide +kernel
theorem dX1_ofProduct_17 : decode cX1_ofProduct 17 = .ok (.bipush 10, 2) := by decide +kernel
theorem dX1_ofProduct_19 : decode cX1_ofProduct 19 = .ok (.goto 4, 3) := by decide +kernel
theorem dX1_ofProduct_22 : decode cX1_ofProduct 22 = .ok (.iconst 0, 1) := by decide +kernel
theorem dX1_ofProduct_23 : decode cX1_ofProduct 23 = .ok (.ireturn, 1) := by decide +kernel
theorem dX1_emit_0 : decode cX1_emit 0 = .ok (.aload_n 0, 1) := by decide +kernel
theorem dX1_emit_1 : decode cX1_emit 1 = .ok (.getfield 22, 3) := by decide +kernel
theorem dX1_emit_4 : decode cX1_emit 4 = .ok (.aload_n 0, 1) := by decide +kernel
theorem dX1_emit_5 : decode cX1_emit 5 = .ok (.getfield 13, 3) := by decide +kernel
theorem dX1_emit_8 : decode cX1_emit 8 = .ok (.arraylength, 1) := by decide +kernel
theorem dX1_emit_9 : decode cX1_emit 9 = .ok (.if_icmp .ge 33, 3) := by decide +kernel
theorem dX1_emit_12 : decode cX1_emit 12 = .ok (.aload_n 0, 1) := by decide +kernel
theorem dX1_emit_13 : decode cX1_emit 13 = .ok (.getfield 13, 3) := by decide +kernel
theorem dX1_emit_16 : decode cX1_emit 16 = .ok (.aload_n 0, 1) := by decide +kernel
theorem dX1_emit_17 : decode cX1_emit 17 = .ok (.getfield 22, 3) := by decide +kernel
theorem dX1_emit_20 : decode cX1_emit 20 = .ok (.iload_n 1, 1) := by decide +kernel
theorem dX1_emit_21 : decode cX1_emit 21 = .ok (.iastore, 1) := by decide +kernel
theorem dX1_emit_22 : decode cX1_emit 22 = .ok (.aload_n 0, 1) := by decide +kernel
theorem dX1_emit_23 : decode cX1_emit 23 = .ok (.getfield 19, 3) := by decide +kernel
theorem dX1_emit_26 : decode cX1_emit 26 = .ok (.aload_n 0, 1) := by decide +kernel
theorem dX1_emit_27 : decode cX1_emit 27 = .ok (.getfield 22, 3) := by decide +kernel
theorem dX1_emit_30 : decode cX1_emit 30 = .ok (.iload_n 2, 1) := by decide +kernel
theorem dX1_emit_31 : decode cX1_emit 31 = .ok (.iastore, 1) := by decide +kernel
theorem dX1_emit_32 : decode cX1_emit 32 = .ok (.aload_n 0, 1) := by decide +kernel
theorem dX1_emit_33 : decode cX1_emit 33 = .ok (.dup, 1) := by decide +kernel
theorem dX1_emit_34 : decode cX1_emit 34 = .ok (.getfield 22, 3) := by decide +kernel
theorem dX1_emit_37 : decode cX1_emit 37 = .ok (.iconst 1, 1) := by decide +kernel
theorem dX1_emit_38 : decode cX1_emit 38 = .ok (.iadd, 1) := by decide +kernel
theorem dX1_emit_39 : decode cX1_emit 39 = .ok (.putfield 22, 3) := by decide +kernel
theorem dX1_emit_42 : decode cX1_emit 42 = .ok (.return_, 1) := by decide +kernel
theorem dX1_copy_0 : decode cX1_copy 0 = .ok (.new 14, 3) := by decide +kernel
theorem dX1_copy_3 : decode cX1_copy 3 = .ok (.dup, 1) := by decide +kernel
theorem dX1_copy_4 : decode cX1_copy 4 = .ok (.aload_n 0, 1) := by decide +kernel
theorem dX1_copy_5 : decode cX1_copy 5 = .ok (.getfield 22, 3) := by decide +kernel
theorem dX1_copy_8 : decode cX1_copy 8 = .ok (.invokespecial 26, 3) := by decide +kernel
theorem dX1_copy_11 : decode cX1_copy 11 = .ok (.astore_n 1, 1) := by decide +kernel
theorem dX1_copy_12 : decode cX1_copy 12 = .ok (.aload_n 0, 1) := by decide +kernel
theorem dX1_copy_13 : decode cX1_copy 13 = .ok (.getfield 13, 3) := by decide +kernel
theorem dX1_copy_16 : decode cX1_copy 16 = .ok (.iconst 0, 1) := by decide +kernel
theorem dX1_copy_17 : decode cX1_copy 17 = .ok (.aload_n 1, 1) := by decide +kernel
theorem dX1_copy_18 : decode cX1_copy 18 = .ok (.getfield 13, 3) := by decide +kernel
theorem dX1_copy_21 : decode cX1_copy 21 = .ok (.iconst 0, 1) := by decide +kernel
theorem dX1_copy_22 : decode cX1_copy 22 = .ok (.aload_n 0, 1) := by decide +kernel
theorem dX1_copy_23 : decode cX1_copy 23 = .ok (.getfield 22, 3) := by decide +kernel
theorem dX1_copy_26 : decode cX1_copy 26 = .ok (.invokestatic 29, 3) := by decide +kernel
theorem dX1_copy_29 : decode cX1_copy 29 = .ok (.aload_n 0, 1) := by decide +kernel
theorem dX1_copy_30 : decode cX1_copy 30 = .ok (.getfield 19, 3) := by decide +kernel
theorem dX1_copy_33 : decode cX1_copy 33 = .ok (.iconst 0, 1) := by decide +kernel
theorem dX1_copy_34 : decode cX1_copy 34 = .ok (.aload_n 1, 1) := by decide +kernel
theorem dX1_copy_35 : decode cX1_copy 35 = .ok (.getfield 19, 3) := by decide +kernel
theorem dX1_copy_38 : decode cX1_copy 38 = .ok (.iconst 0, 1) := by decide +kernel
theorem dX1_copy_39 : decode cX1_copy 39 = .ok (.aload_n 0, 1) := by decide +kernel
theorem dX1_copy_40 : decode cX1_copy 40 = .ok (.getfield 22, 3) := by decide +kernel
theorem dX1_copy_43 : decode cX1_copy 43 = .ok (.invokestatic 29, 3) := by decide +kernel
theorem dX1_copy_46 : decode cX1_copy 46 = .ok (.aload_n 1, 1) := by decide +kernel
theorem dX1_copy_47 : decode cX1_copy 47 = .ok (.aload_n 0, 1) := by decide +kernel
theorem dX1_copy_48 : decode cX1_copy 48 = .ok (.getfield 22, 3) := by decide +kernel
theorem dX1_copy_51 : decode cX1_copy 51 = .ok (.putfield 22, 3) := by decide +kernel
theorem dX1_copy_54 : decode cX1_copy 54 = .ok (.aload_n 1, 1) := by decide +kernel
theorem dX1_copy_55 : decode cX1_copy 55 = .ok (.areturn, 1) := by decide +kernel
theorem dX2_init_0 : decode cX2_init 0 = .ok (.aload_n 0, 1) := by decide +kernel
theorem dX2_init_1 : decode cX2_init 1 = .ok (.invokespecial 3, 3) := by decide +kernel
theorem dX2_init_4 : decode cX2_init 4 = .ok (.aload_n 0, 1) := by decide +kernel
theorem dX2_init_5 : decode cX2_init 5 = .ok (.iconst (-1), 1) := by decide +kernel
theorem dX2_init_6 : decode cX2_init 6 = .ok (.putfield 9, 3) := by decide +kernel
theorem dX2_init_9 : decode cX2_init 9 = .ok (.aload_n 0, 1) := by decide +kernel
theorem dX2_init_10 : decode cX2_init 10 = .ok (.iconst 4, 1) := by decide +kernel
theorem dX2_init_11 : decode cX2_init 11 = .ok (.newarray .int, 2) := by decide +kernel
theorem dX2_init_13 : decode cX2_init 13 = .ok (.putfield 15, 3) := by decide +kernel
theorem dX2_init_16 : decode cX2_init 16 = .ok (.aload_n 0, 1) := by decide +kernel
theorem dX2_init_17 : decode cX2_init 17 = .ok (.lload_n 1, 1) := by decide +kernel
theorem dX2_init_18 : decode cX2_init 18 = .ok (.putfield 19, 3) := by decide +kernel
theorem dX2_init_21 : decode cX2_init 21 = .ok (.aload_n 0, 1) := by decide +kernel
theorem dX2_init_22 : decode cX2_init 22 = .ok (.getfield 15, 3) := by decide +kernel
theorem dX2_init_25 : decode cX2_init 25 = .ok (.iconst (-1), 1) := by decide +kernel
theorem dX2_init_26 : decode cX2_init 26 = .ok (.invokestatic 23, 3) := by decide +kernel
theorem dX2_init_29 : decode cX2_init 29 = .ok (.return_, 1) := by decide +kernel
theorem dX3_init_0 : decode cX3_init 0 = .ok (.aload_n 0, 1) := by decide +kernel
theorem dX3_init_1 : decode cX3_init 1 = .ok (.invokespecial 3, 3) := by decide +kernel
theorem dX3_init_4 : decode cX3_init 4 = .ok (.aload_n 0, 1) := by decide +kernel
theorem dX3_init_5 : decode cX3_init 5 = .ok (.bipush 24, 2) := by decide +kernel
theorem dX3_init_7 : decode cX3_init 7 = .ok (.anewarray 9, 3) := by decide +kernel
theorem dX3_init_10 : decode cX3_init 10 = .ok (.putfield 11, 3) := by decide +kernel
theorem dX3_init_13 : decode cX3_init 13 = .ok (.aload_n 0, 1) := by decide +kernel
theorem dX3_init_14 : decode cX3_init 14 = .ok (.iconst 4, 1) := by decide +kernel
theorem dX3_init_15 : decode cX3_init 15 = .ok (.newarray .int, 2) := by decide +kernel
theorem dX3_init_17 : decode cX3_init 17 = .ok (.putfield 17, 3) := by decide +kernel
theorem dX3_init_20 : decode cX3_init 20 = .ok (.aload_n 0, 1) := by decide +kernel
theorem dX3_init_21 : decode cX3_init 21 = .ok (.iconst 4, 1) := by decide +kernel
theorem dX3_init_22 : decode cX3_init 22 = .ok (.anewarray 21, 3) := by decide +kernel
theorem dX3_init_25 : decode cX3_init 25 = .ok (.putfield 23, 3) := by decide +kernel
theorem dX3_init_28 : decode cX3_init 28 = .ok (.aload_n 0, 1) := by decide +kernel
theorem dX3_init_29 : decode cX3_init 29 = .ok (.iconst 3, 1) := by decide +kernel
theorem dX3_init_30 : decode cX3_init 30 = .ok (.newarray .int, 2) := by decide +kernel
theorem dX3_init_32 : decode cX3_init 32 = .ok (.putfield 27, 3) := by decide +kernel
theorem dX3_init_35 : decode cX3_init 35 = .ok (.aload_n 0, 1) := by decide +kernel
theorem dX3_init_36 : decode cX3_init 36 = .ok (.iconst 4, 1) := by decide +kernel
theorem dX3_init_37 : decode cX3_init 37 = .ok (.newarray .long, 2) := by decide +kernel
theorem dX3_init_39 : decode cX3_init 39 = .ok (.putfield 30, 3) := by decide +kernel
theorem dX3_init_42 : decode cX3_init 42 = .ok (.aload_n 0, 1) := by decide +kernel
theorem dX3_init_43 : decode cX3_init 43 = .ok (.iconst 4, 1) := by decide +kernel
theorem dX3_init_44 : decode cX3_init 44 = .ok (.newarray .int, 2) := by decide +kernel
theorem dX3_init_46 : decode cX3_init 46 = .ok (.putfield 34, 3) := by decide +kernel
theorem dX3_init_49 : decode cX3_init 49 = .ok (.aload_n 0, 1) := by decide +kernel
theorem dX3_init_50 : decode cX3_init 50 = .ok (.iconst 4, 1) := by decide +kernel
theorem dX3_init_51 : decode cX3_init 51 = .ok (.newarray .int, 2) := by decide +kernel
theorem dX3_init_53 : decode cX3_init 53 = .ok (.putfield 37, 3) := by decide +kernel
theorem dX3_init_56 : decode cX3_init 56 = .ok (.aload_n 0, 1) := by decide +kernel
theorem dX3_init_57 : decode cX3_init 57 = .ok (.iconst 3, 1) := by decide +kernel
theorem dX3_init_58 : decode cX3_init 58 = .ok (.anewarray 40, 3) := by decide +kernel
theorem dX3_init_61 : decode cX3_init 61 = .ok (.putfield 42, 3) := by decide +kernel
theorem dX3_init_64 : decode cX3_init 64 = .ok (.aload_n 0, 1) := by decide +kernel
theorem dX3_init_65 : decode cX3_init 65 = .ok (.lload_n 1, 1) := by decide +kernel
theorem dX3_init_66 : decode cX3_init 66 = .ok (.putfield 46, 3) := by decide +kernel
theorem dX3_init_69 : decode cX3_init 69 = .ok (.aload_n 0, 1) := by decide +kernel
theorem dX3_init_70 : decode cX3_init 70 = .ok (.getfield 17, 3) := by decide +kernel
theorem dX3_init_73 : decode cX3_init 73 = .ok (.iconst (-1), 1) := by decide +kernel
theorem dX3_init_74 : decode cX3_init 74 = .ok (.invokestatic 50, 3) := by decide +kernel
theorem dX3_init_77 : decode cX3_init 77 = .ok (.return_, 1) := by decide +kernel
theorem dX3_constantAt_0 : decode cX3_constantAt 0 = .ok (.iload_n 1, 1) := by decide +kernel
theorem dX3_constantAt_1 : decode cX3_constantAt 1 = .ok (.ifCond .lt 11, 3) := by decide +kernel
theorem dX3_constantAt_4 : decode cX3_constantAt 4 = .ok (.iload_n 1, 1) := by decide +kernel
theorem dX3_constantAt_5 : decode cX3_constantAt 5 = .ok (.aload_n 0, 1) := by decide +kernel
theorem dX3_constantAt_6 : decode cX3_constantAt 6 = .ok (.getfield 56, 3) := by decide +kernel
theorem dX3_constantAt_9 : decode cX3_constantAt 9 = .ok (.if_icmp .lt 7, 3) := by decide +kernel
theorem dX3_constantAt_12 : decode cX3_constantAt 12 = .ok (.aconst_null, 1) := by decide +kernel
theorem dX3_constantAt_13 : decode cX3_constantAt 13 = .ok (.goto 9, 3) := by decide +kernel
theorem dX3_constantAt_16 : decode cX3_constantAt 16 = .ok (.aload_n 0, 1) := by decide +kernel
theorem dX3_constantAt_17 : decode cX3_constantAt 17 = .ok (.getfield 11, 3) := by decide +kernel
theorem dX3_constantAt_20 : decode cX3_constantAt 20 = .ok (.iload_n 1, 1) := by decide +kernel
theorem dX3_constantAt_21 : decode cX3_constantAt 21 = .ok (.aaload, 1) := by decide +kernel
theorem dX3_constantAt_22 : decode cX3_constantAt 22 = .ok (.areturn, 1) := by decide +kernel
theorem dX3_tableAt_0 : decode cX3_tableAt 0 = .ok (.iload_n 1, 1) := by decide +kernel
theorem dX3_tableAt_1 : decode cX3_tableAt 1 = .ok (.ifCond .lt 11, 3) := by decide +kernel
theorem dX3_tableAt_4 : decode cX3_tableAt 4 = .ok (.iload_n 1, 1) := by decide +kernel
theorem dX3_tableAt_5 : decode cX3_tableAt 5 = .ok (.aload_n 0, 1) := by decide +kernel
theorem dX3_tableAt_6 : decode cX3_tableAt 6 = .ok (.getfield 60, 3) := by decide +kernel
theorem dX3_tableAt_9 : decode cX3_tableAt 9 = .ok (.if_icmp .lt 7, 3) := by decide +kernel
theorem dX3_tableAt_12 : decode cX3_tableAt 12 = .ok (.aconst_null, 1) := by decide +kernel
theorem dX3_tableAt_13 : decode cX3_tableAt 13 = .ok (.goto 9, 3) := by decide +kernel
theorem dX3_tableAt_16 : decode cX3_tableAt 16 = .ok (.aload_n 0, 1) := by decide +kernel
theorem dX3_tableAt_17 : decode cX3_tableAt 17 = .ok (.getfield 23, 3) := by decide +kernel
theorem dX3_tableAt_20 : decode cX3_tableAt 20 = .ok (.iload_n 1, 1) := by decide +kernel
theorem dX3_tableAt_21 : decode cX3_tableAt 21 = .ok (.aaload, 1) := by decide +kernel
theorem dX3_tableAt_22 : decode cX3_tableAt 22 = .ok (.areturn, 1) := by decide +kernel
theorem dX3_switchAt_0 : decode cX3_switchAt 0 = .ok (.iload_n 1, 1) := by decide +kernel
theorem dX3_switchAt_1 : decode cX3_switchAt 1 = .ok (.ifCond .lt 11, 3) := by decide +kernel
theorem dX3_switchAt_4 : decode cX3_switchAt 4 = .ok (.iload_n 1, 1) := by decide +kernel
theorem dX3_switchAt_5 : decode cX3_switchAt 5 = .ok (.aload_n 0, 1) := by decide +kernel
theorem dX3_switchAt_6 : decode cX3_switchAt 6 = .ok (.getfield 63, 3) := by decide +kernel
theorem dX3_switchAt_9 : decode cX3_switchAt 9 = .ok (.if_icmp .lt 7, 3) := by decide +kernel
theorem dX3_switchAt_12 : decode cX3_switchAt 12 = .ok (.aconst_null, 1) := by decide +kernel
theorem dX3_switchAt_13 : decode cX3_switchAt 13 = .ok (.goto 9, 3) := by decide +kernel
theorem dX3_switchAt_16 : decode cX3_switchAt 16 = .ok (.aload_n 0, 1) := by decide +kernel
theorem dX3_switchAt_17 : decode cX3_switchAt 17 = .ok (.getfield 42, 3) := by decide +kernel
theorem dX3_switchAt_20 : decode cX3_switchAt 20 = .ok (.iload_n 1, 1) := by decide +kernel
theorem dX3_switchAt_21 : decode cX3_switchAt 21 = .ok (.aaload, 1) := by decide +kernel
theorem dX3_switchAt_22 : decode cX3_switchAt 22 = .ok (.areturn, 1) := by decide +kernel
theorem dX3_findConstant_0 : decode cX3_findConstant 0 = .ok (.iconst 0, 1) := by decide +kernel
theorem dX3_findConstant_1 : decode cX3_findConstant 1 = .ok (.istore_n 3, 1) := by decide +kernel
theorem dX3_findConstant_2 : decode cX3_findConstant 2 = .ok (.iload_n 3, 1) := by decide +kernel
theorem dX3_findConstant_3 : decode cX3_findConstant 3 = .ok (.aload_n 0, 1) := by decide +kernel
theorem dX3_findConstant_4 : decode cX3_findConstant 4 = .ok (.getfield 56, 3) := by decide +kernel
theorem dX3_findConstant_7 : decode cX3_findConstant 7 = .ok (.if_icmp .ge 25, 3) := by decide +kernel
theorem dX3_findConstant_10 : decode cX3_findConstant 10 = .ok (.aload_n 0, 1) := by decide +kernel
theorem dX3_findConstant_11 : decode cX3_findConstant 11 = .ok (.getfield 11, 3) := by decide +kernel
theorem dX3_findConstant_14 : decode cX3_findConstant 14 = .ok (.iload_n 3, 1) := by decide +kernel
theorem dX3_findConstant_15 : decode cX3_findConstant 15 = .ok (.aaload, 1) := by decide +kernel
theorem dX3_findConstant_16 : decode cX3_findConstant 16 = .ok (.getfield 66, 3) := by decide +kernel
theorem dX3_findConstant_19 : decode cX3_findConstant 19 = .ok (.lload_n 1, 1) := by decide +kernel
theorem dX3_findConstant_20 : decode cX3_findConstant 20 = .ok (.lcmp, 1) := by decide +kernel
theorem dX3_findConstant_21 : decode cX3_findConstant 21 = .ok (.ifCond .ne 5, 3) := by decide +kernel
theorem dX3_findConstant_24 : decode cX3_findConstant 24 = .ok (.iload_n 3, 1) := by decide +kernel
theorem dX3_findConstant_25 : decode cX3_findConstant 25 = .ok (.ireturn, 1) := by decide +kernel
theorem dX3_findConstant_26 : decode cX3_findConstant 26 = .ok (.iinc 3 1, 3) := by decide +kernel
theorem dX3_findConstant_29 : decode cX3_findConstant 29 = .ok (.goto (-27), 3) := by decide +kernel
theorem dX3_findConstant_32 : decode cX3_findConstant 32 = .ok (.iconst (-1), 1) := by decide +kernel
theorem dX3_findConstant_33 : decode cX3_findConstant 33 = .ok (.ireturn, 1) := by decide +kernel
theorem dX3_findTable_0 : decode cX3_findTable 0 = .ok (.iconst 0, 1) := by decide +kernel
theorem dX3_findTable_1 : decode cX3_findTable 1 = .ok (.istore_n 3, 1) := by decide +kernel
theorem dX3_findTable_2 : decode cX3_findTable 2 = .ok (.iload_n 3, 1) := by decide +kernel
theorem dX3_findTable_3 : decode cX3_findTable 3 = .ok (.aload_n 0, 1) := by decide +kernel
theorem dX3_findTable_4 : decode cX3_findTable 4 = .ok (.getfield 60, 3) := by decide +kernel
theorem dX3_findTable_7 : decode cX3_findTable 7 = .ok (.if_icmp .ge 25, 3) := by decide +kernel
theorem dX3_findTable_10 : decode cX3_findTable 10 = .ok (.aload_n 0, 1) := by decide +kernel
theorem dX3_findTable_11 : decode cX3_findTable 11 = .ok (.getfield 23, 3) := by decide +kernel
theorem dX3_findTable_14 : decode cX3_findTable 14 = .ok (.iload_n 3, 1) := by decide +kernel
theorem dX3_findTable_15 : decode cX3_findTable 15 = .ok (.aaload, 1) := by decide +kernel
theorem dX3_findTable_16 : decode cX3_findTable 16 = .ok (.getfield 67, 3) := by decide +kernel
theorem dX3_findTable_19 : decode cX3_findTable 19 = .ok (.lload_n 1, 1) := by decide +kernel
theorem dX3_findTable_20 : decode cX3_findTable 20 = .ok (.lcmp, 1) := by decide +kernel
theorem dX3_findTable_21 : decode cX3_findTable 21 = .ok (.ifCond .ne 5, 3) := by decide +kernel
theorem dX3_findTable_24 : decode cX3_findTable 24 = .ok (.iload_n 3, 1) := by decide +kernel
theorem dX3_findTable_25 : decode cX3_findTable 25 = .ok (.ireturn, 1) := by decide +kernel
theorem dX3_findTable_26 : decode cX3_findTable 26 = .ok (.iinc 3 1, 3) := by decide +kernel
theorem dX3_findTable_29 : decode cX3_findTable 29 = .ok (.goto (-27), 3) := by decide +kernel
theorem dX3_findTable_32 : decode cX3_findTable 32 = .ok (.iconst (-1), 1) := by decide +kernel
theorem dX3_findTable_33 : decode cX3_findTable 33 = .ok (.ireturn, 1) := by decide +kernel
theorem dX3_findHolder_0 : decode cX3_findHolder 0 = .ok (.iconst 0, 1) := by decide +kernel
theorem dX3_findHolder_1 : decode cX3_findHolder 1 = .ok (.istore_n 3, 1) := by decide +kernel
theorem dX3_findHolder_2 : decode cX3_findHolder 2 = .ok (.iload_n 3, 1) := by decide +kernel
theorem dX3_findHolder_3 : decode cX3_findHolder 3 = .ok (.aload_n 0, 1) := by decide +kernel
theorem dX3_findHolder_4 : decode cX3_findHolder 4 = .ok (.getfield 68, 3) := by decide +kernel
theorem dX3_findHolder_7 : decode cX3_findHolder 7 = .ok (.if_icmp .ge 22, 3) := by decide +kernel
theorem dX3_findHolder_10 : decode cX3_findHolder 10 = .ok (.aload_n 0, 1) := by decide +kernel
theorem dX3_findHolder_11 : decode cX3_findHolder 11 = .ok (.getfield 30, 3) := by decide +kernel
theorem dX3_findHolder_14 : decode cX3_findHolder 14 = .ok (.iload_n 3, 1) := by decide +kernel
theorem dX3_findHolder_15 : decode cX3_findHolder 15 = .ok (.laload, 1) := by decide +kernel
theorem dX3_findHolder_16 : decode cX3_findHolder 16 = .ok (.lload_n 1, 1) := by decide +kernel
theorem dX3_findHolder_17 : decode cX3_findHolder 17 = .ok (.lcmp, 1) := by decide +kernel
theorem dX3_findHolder_18 : decode cX3_findHolder 18 = .ok (.ifCond .ne 5, 3) := by decide +kernel
theorem dX3_findHolder_21 : decode cX3_findHolder 21 = .ok (.iload_n 3, 1) := by decide +kernel
theorem dX3_findHolder_22 : decode cX3_findHolder 22 = .ok (.ireturn, 1) := by decide +kernel
theorem dX3_findHolder_23 : decode cX3_findHolder 23 = .ok (.iinc 3 1, 3) := by decide +kernel
theorem dX3_findHolder_26 : decode cX3_findHolder 26 = .ok (.goto (-24), 3) := by decide +kernel
theorem dX3_findHolder_29 : decode cX3_findHolder 29 = .ok (.iconst (-1), 1) := by decide +kernel
theorem dX3_findHolder_30 : decode cX3_findHolder 30 = .ok (.ireturn, 1) := by decide +kernel
theorem dX3_findSwitch_0 : decode cX3_findSwitch 0 = .ok (.iconst 0, 1) := by decide +kernel
theorem dX3_findSwitch_1 : decode cX3_findSwitch 1 = .ok (.istore_n 3, 1) := by decide +kernel
theorem dX3_findSwitch_2 : decode cX3_findSwitch 2 = .ok (.iload_n 3, 1) := by decide +kernel
theorem dX3_findSwitch_3 : decode cX3_findSwitch 3 = .ok (.aload_n 0, 1) := by decide +kernel
theorem dX3_findSwitch_4 : decode cX3_findSwitch 4 = .ok (.getfield 63, 3) := by decide +kernel
theorem dX3_findSwitch_7 : decode cX3_findSwitch 7 = .ok (.if_icmp .ge 25, 3) := by decide +kernel
theorem dX3_findSwitch_10 : decode cX3_findSwitch 10 = .ok (.aload_n 0, 1) := by decide +kernel
theorem dX3_findSwitch_11 : decode cX3_findSwitch 11 = .ok (.getfield 42, 3) := by decide +kernel
theorem dX3_findSwitch_14 : decode cX3_findSwitch 14 = .ok (.iload_n 3, 1) := by decide +kernel
theorem dX3_findSwitch_15 : decode cX3_findSwitch 15 = .ok (.aaload, 1) := by decide +kernel
theorem dX3_findSwitch_16 : decode cX3_findSwitch 16 = .ok (.getfield 71, 3) := by decide +kernel
theorem dX3_findSwitch_19 : decode cX3_findSwitch 19 = .ok (.lload_n 1, 1) := by decide +kernel
theorem dX3_findSwitch_20 : decode cX3_findSwitch 20 = .ok (.lcmp, 1) := by decide +kernel
theorem dX3_findSwitch_21 : decode cX3_findSwitch 21 = .ok (.ifCond .ne 5, 3) := by decide +kernel
theorem dX3_findSwitch_24 : decode cX3_findSwitch 24 = .ok (.iload_n 3, 1) := by decide +kernel
theorem dX3_findSwitch_25 : decode cX3_findSwitch 25 = .ok (.ireturn, 1) := by decide +kernel
theorem dX3_findSwitch_26 : decode cX3_findSwitch 26 = .ok (.iinc 3 1, 3) := by decide +kernel
theorem dX3_findSwitch_29 : decode cX3_findSwitch 29 = .ok (.goto (-27), 3) := by decide +kernel
theorem dX3_findSwitch_32 : decode cX3_findSwitch 32 = .ok (.iconst (-1), 1) := by decide +kernel
theorem dX3_findSwitch_33 : decode cX3_findSwitch 33 = .ok (.ireturn, 1) := by decide +kernel
theorem dX3_knows_0 : decode cX3_knows 0 = .ok (.aload_n 0, 1) := by decide +kernel
theorem dX3_knows_1 : decode cX3_knows 1 = .ok (.lload_n 1, 1) := by decide +kernel
theorem dX3_knows_2 : decode cX3_knows 2 = .ok (.invokevirtual 72, 3) := by decide +kernel
theorem dX3_knows_5 : decode cX3_knows 5 = .ok (.ifCond .ge 27, 3) := by decide +kernel
theorem dX3_knows_8 : decode cX3_knows 8 = .ok (.aload_n 0, 1) := by decide +kernel
theorem dX3_knows_9 : decode cX3_knows 9 = .ok (.lload_n 1, 1) := by decide +kernel
theorem dX3_knows_10 : decode cX3_knows 10 = .ok (.invokevirtual 76, 3) := by decide +kernel
theorem dX3_knows_13 : decode cX3_knows 13 = .ok (.ifCond .ge 19, 3) := by decide +kernel
theorem dX3_knows_16 : decode cX3_knows 16 = .ok (.aload_n 0, 1) := by decide +kernel
theorem dX3_knows_17 : decode cX3_knows 17 = .ok (.lload_n 1, 1) := by decide +kernel
theorem dX3_knows_18 : decode cX3_knows 18 = .ok (.invokevirtual 79, 3) := by decide +kernel
theorem dX3_knows_21 : decode cX3_knows 21 = .ok (.ifCond .ge 11, 3) := by decide +kernel
theorem dX3_knows_24 : decode cX3_knows 24 = .ok (.aload_n 0, 1) := by decide +kernel
theorem dX3_knows_25 : decode cX3_knows 25 = .ok (.lload_n 1, 1) := by decide +kernel
theorem dX3_knows_26 : decode cX3_knows 26 = .ok (.invokevirtual 82, 3) := by decide +kernel
theorem dX3_knows_29 : decode cX3_knows 29 = .ok (.ifCond .lt 7, 3) := by decide +kernel
theorem dX3_knows_32 : decode cX3_knows 32 = .ok (.iconst 1, 1) := by decide +kernel
theorem dX3_knows_33 : decode cX3_knows 33 = .ok (.goto 4, 3) := by decide +kernel
theorem dX3_knows_36 : decode cX3_knows 36 = .ok (.iconst 0, 1) := by decide +kernel
theorem dX3_knows_37 : decode cX3_knows 37 = .ok (.ireturn, 1) := by decide +kernel
theorem dX4_init_0 : decode cX4_init 0 = .ok (.aload_n 0, 1) := by decide +kernel
theorem dX4_init_1 : decode cX4_init 1 = .ok (.invokespecial 3, 3) := by decide +kernel
theorem dX4_init_4 : decode cX4_init 4 = .ok (.aload_n 0, 1) := by decide +kernel
theorem dX4_init_5 : decode cX4_init 5 = .ok (.bipush 60, 2) := by decide +kernel
theorem dX4_init_7 : decode cX4_init 7 = .ok (.newarray .int, 2) := by decide +kernel
theorem dX4_init_9 : decode cX4_init 9 = .ok (.putfield 9, 3) := by decide +kernel
theorem dX4_init_12 : decode cX4_init 12 = .ok (.aload_n 0, 1) := by decide +kernel
theorem dX4_init_13 : decode cX4_init 13 = .ok (.bipush 60, 2) := by decide +kernel
theorem dX4_init_15 : decode cX4_init 15 = .ok (.newarray .int, 2) := by decide +kernel
theorem dX4_init_17 : decode cX4_init 17 = .ok (.putfield 15, 3) := by decide +kernel
theorem dX4_init_20 : decode cX4_init 20 = .ok (.aload_n 0, 1) := by decide +kernel
theorem dX4_init_21 : decode cX4_init 21 = .ok (.bipush 60, 2) := by decide +kernel
theorem dX4_init_23 : decode cX4_init 23 = .ok (.newarray .int, 2) := by decide +kernel
theorem dX4_init_25 : decode cX4_init 25 = .ok (.putfield 18, 3) := by decide +kernel
theorem dX4_init_28 : decode cX4_init 28 = .ok (.return_, 1) := by decide +kernel
theorem dX4_readFrom_0 : decode cX4_readFrom 0 = .ok (.aload_n 0, 1) := by decide +kernel
theorem dX4_readFrom_1 : decode cX4_readFrom 1 = .ok (.iconst 0, 1) := by decide +kernel
theorem dX4_readFrom_2 : decode cX4_readFrom 2 = .ok (.putfield 21, 3) := by decide +kernel
theorem dX4_readFrom_5 : decode cX4_readFrom 5 = .ok (.iconst 0, 1) := by decide +kernel
theorem dX4_readFrom_6 : decode cX4_readFrom 6 = .ok (.istore_n 3, 1) := by decide +kernel
theorem dX4_readFrom_7 : decode cX4_readFrom 7 = .ok (.iconst 0, 1) := by decide +kernel
theorem dX4_readFrom_8 : decode cX4_readFrom 8 = .ok (.istore 4, 2) := by decide +kernel
theorem dX4_readFrom_10 : decode cX4_readFrom 10 = .ok (.iload 4, 2) := by decide +kernel
theorem dX4_readFrom_12 : decode cX4_readFrom 12 = .ok (.aload_n 1, 1) := by decide +kernel
theorem dX4_readFrom_13 : decode cX4_readFrom 13 = .ok (.getfield 25, 3) := by decide +kernel
theorem dX4_readFrom_16 : decode cX4_readFrom 16 = .ok (.if_icmp .ge 101, 3) := by decide +kernel
theorem dX4_readFrom_19 : decode cX4_readFrom 19 = .ok (.aload_n 1, 1) := by decide +kernel
theorem dX4_readFrom_20 : decode cX4_readFrom 20 = .ok (.getfield 28, 3) := by decide +kernel
theorem dX4_readFrom_23 : decode cX4_readFrom 23 = .ok (.iload 4, 2) := by decide +kernel
theorem dX4_readFrom_25 : decode cX4_readFrom 25 = .ok (.iaload, 1) := by decide +kernel
theorem dX4_readFrom_26 : decode cX4_readFrom 26 = .ok (.istore 5, 2) := by decide +kernel
theorem dX4_readFrom_28 : decode cX4_readFrom 28 = .ok (.iload 5, 2) := by decide +kernel
theorem dX4_readFrom_30 : decode cX4_readFrom 30 = .ok (.iconst 1, 1) := by decide +kernel
theorem dX4_readFrom_31 : decode cX4_readFrom 31 = .ok (.if_icmp .ne 17, 3) := by decide +kernel
theorem dX4_readFrom_34 : decode cX4_readFrom 34 = .ok (.aload_n 0, 1) := by decide +kernel
theorem dX4_readFrom_35 : decode cX4_readFrom 35 = .ok (.getfield 21, 3) := by decide +kernel
theorem dX4_readFrom_38 : decode cX4_readFrom 38 = .ok (.ifCond .le 7, 3) := by decide +kernel
theorem dX4_readFrom_41 : decode cX4_readFrom 41 = .ok (.iconst (-1), 1) := by decide +kernel
theorem dX4_readFrom_42 : decode cX4_readFrom 42 = .ok (.goto 5, 3) := by decide +kernel
theorem dX4_readFrom_45 : decode cX4_readFrom 45 = .ok (.iload 4, 2) := by decide +kernel
theorem dX4_readFrom_47 : decode cX4_readFrom 47 = .ok (.ireturn, 1) := by decide +kernel
theorem dX4_readFrom_48 : decode cX4_readFrom 48 = .ok (.iload 5, 2) := by decide +kernel
theorem dX4_readFrom_50 : decode cX4_readFrom 50 = .ok (.iconst 2, 1) := by decide +kernel
theorem dX4_readFrom_51 : decode cX4_readFrom 51 = .ok (.if_icmp .ne 31, 3) := by decide +kernel
theorem dX4_readFrom_54 : decode cX4_readFrom 54 = .ok (.iload_n 3, 1) := by decide +kernel
theorem dX4_readFrom_55 : decode cX4_readFrom 55 = .ok (.ifCond .eq 27, 3) := by decide +kernel
theorem dX4_readFrom_58 : decode cX4_readFrom 58 = .ok (.aload_n 0, 1) := by decide +kernel
theorem dX4_readFrom_59 : decode cX4_readFrom 59 = .ok (.getfield 18, 3) := by decide +kernel
theorem dX4_readFrom_62 : decode cX4_readFrom 62 = .ok (.aload_n 0, 1) := by decide +kernel
theorem dX4_readFrom_63 : decode cX4_readFrom 63 = .ok (.getfield 21, 3) := by decide +kernel
theorem dX4_readFrom_66 : decode cX4_readFrom 66 = .ok (.iconst 1, 1) := by decide +kernel
theorem dX4_readFrom_67 : decode cX4_readFrom 67 = .ok (.isub, 1) := by decide +kernel
theorem dX4_readFrom_68 : decode cX4_readFrom 68 = .ok (.aload_n 1, 1) := by decide +kernel
theorem dX4_readFrom_69 : decode cX4_readFrom 69 = .ok (.getfield 31, 3) := by decide +kernel
theorem dX4_readFrom_72 : decode cX4_readFrom 72 = .ok (.iload 4, 2) := by decide +kernel
theorem dX4_readFrom_74 : decode cX4_readFrom 74 = .ok (.laload, 1) := by decide +kernel
theorem dX4_readFrom_75 : decode cX4_readFrom 75 = .ok (.l2i, 1) := by decide +kernel
theorem dX4_readFrom_76 : decode cX4_readFrom 76 = .ok (.iastore, 1) := by decide +kernel
theorem dX4_readFrom_77 : decode cX4_readFrom 77 = .ok (.iconst 0, 1) := by decide +kernel
theorem dX4_readFrom_78 : decode cX4_readFrom 78 = .ok (.istore_n 3, 1) := by decide +kernel
theorem dX4_readFrom_79 : decode cX4_readFrom 79 = .ok (.goto 32, 3) := by decide +kernel
theorem dX4_readFrom_82 : decode cX4_readFrom 82 = .ok (.iload 5, 2) := by decide +kernel
theorem dX4_readFrom_84 : decode cX4_readFrom 84 = .ok (.iconst 3, 1) := by decide +kernel
theorem dX4_readFrom_85 : decode cX4_readFrom 85 = .ok (.if_icmp .ne 23, 3) := by decide +kernel
theorem dX4_readFrom_88 : decode cX4_readFrom 88 = .ok (.aload_n 0, 1) := by decide +kernel
theorem dX4_readFrom_89 : decode cX4_readFrom 89 = .ok (.aload_n 2, 1) := by decide +kernel
theorem dX4_readFrom_90 : decode cX4_readFrom 90 = .ok (.aload_n 1, 1) := by decide +kernel
theorem dX4_readFrom_91 : decode cX4_readFrom 91 = .ok (.getfield 31, 3) := by decide +kernel
theorem dX4_readFrom_94 : decode cX4_readFrom 94 = .ok (.iload 4, 2) := by decide +kernel
theorem dX4_readFrom_96 : decode cX4_readFrom 96 = .ok (.laload, 1) := by decide +kernel
theorem dX4_readFrom_97 : decode cX4_readFrom 97 = .ok (.invokevirtual 35, 3) := by decide +kernel
theorem dX4_readFrom_100 : decode cX4_readFrom 100 = .ok (.ifCond .eq 8, 3) := by decide +kernel
theorem dX4_readFrom_103 : decode cX4_readFrom 103 = .ok (.iconst 1, 1) := by decide +kernel
theorem dX4_readFrom_104 : decode cX4_readFrom 104 = .ok (.istore_n 3, 1) := by decide +kernel
theorem dX4_readFrom_105 : decode cX4_readFrom 105 = .ok (.goto 6, 3) := by decide +kernel
theorem dX4_readFrom_108 : decode cX4_readFrom 108 = .ok (.iload 4, 2) := by decide +kernel
theorem dX4_readFrom_110 : decode cX4_readFrom 110 = .ok (.ireturn, 1) := by decide +kernel
theorem dX4_readFrom_111 : decode cX4_readFrom 111 = .ok (.iinc 4 1, 3) := by decide +kernel
theorem dX4_readFrom_114 : decode cX4_readFrom 114 = .ok (.goto (-104), 3) := by decide +kernel
theorem dX4_readFrom_117 : decode cX4_readFrom 117 = .ok (.iconst (-1), 1) := by decide +kernel
theorem dX4_readFrom_118 : decode cX4_readFrom 118 = .ok (.ireturn, 1) := by decide +kernel
theorem dX4_keepSignal_0 : decode cX4_keepSignal 0 = .ok (.aload_n 0, 1) := by decide +kernel
theorem dX4_keepSignal_1 : decode cX4_keepSignal 1 = .ok (.getfield 21, 3) := by decide +kernel
theorem dX4_keepSignal_4 : decode cX4_keepSignal 4 = .ok (.bipush 60, 2) := by decide +kernel
theorem dX4_keepSignal_6 : decode cX4_keepSignal 6 = .ok (.if_icmp .lt 5, 3) := by decide +kernel
theorem dX4_keepSignal_9 : decode cX4_keepSignal 9 = .ok (.iconst 0, 1) := by decide +kernel
theorem dX4_keepSignal_10 : decode cX4_keepSignal 10 = .ok (.ireturn, 1) := by decide +kernel
theorem dX4_keepSignal_11 : decode cX4_keepSignal 11 = .ok (.iconst 0, 1) := by decide +kernel
theorem dX4_keepSignal_12 : decode cX4_keepSignal 12 = .ok (.istore 4, 2) := by decide +kernel
theorem dX4_keepSignal_14 : decode cX4_keepSignal 14 = .ok (.iload 4, 2) := by decide +kernel
theorem dX4_keepSignal_16 : decode cX4_keepSignal 16 = .ok (.aload_n 1, 1) := by decide +kernel
theorem dX4_keepSignal_17 : decode cX4_keepSignal 17 = .ok (.getfield 39, 3) := by decide +kernel
theorem dX4_keepSignal_20 : decode cX4_keepSignal 20 = .ok (.if_icmp .ge 83, 3) := by decide +kernel
theorem dX4_keepSignal_23 : decode cX4_keepSignal 23 = .ok (.aload_n 1, 1) := by decide +kernel
theorem dX4_keepSignal_24 : decode cX4_keepSignal 24 = .ok (.iload 4, 2) := by decide +kernel
theorem dX4_keepSignal_26 : decode cX4_keepSignal 26 = .ok (.invokevirtual 44, 3) := by decide +kernel
theorem dX4_keepSignal_29 : decode cX4_keepSignal 29 = .ok (.astore 5, 2) := by decide +kernel
theorem dX4_keepSignal_31 : decode cX4_keepSignal 31 = .ok (.aload 5, 2) := by decide +kernel
theorem dX4_keepSignal_33 : decode cX4_keepSignal 33 = .ok (.ifnonnull 7, 3) := by decide +kernel
theorem dX4_keepSignal_36 : decode cX4_keepSignal 36 = .ok (.iconst (-1), 1) := by decide +kernel
theorem dX4_keepSignal_37 : decode cX4_keepSignal 37 = .ok (.goto 9, 3) := by decide +kernel
theorem dX4_keepSignal_40 : decode cX4_keepSignal 40 = .ok (.aload 5, 2) := by decide +kernel
theorem dX4_keepSignal_42 : decode cX4_keepSignal 42 = .ok (.lload_n 2, 1) := by decide +kernel
theorem dX4_keepSignal_43 : decode cX4_keepSignal 43 = .ok (.invokevirtual 48, 3) := by decide +kernel
theorem dX4_keepSignal_46 : decode cX4_keepSignal 46 = .ok (.istore 6, 2) := by decide +kernel
theorem dX4_keepSignal_48 : decode cX4_keepSignal 48 = .ok (.iload 6, 2) := by decide +kernel
theorem dX4_keepSignal_50 : decode cX4_keepSignal 50 = .ok (.ifCond .lt 47, 3) := by decide +kernel
theorem dX4_keepSignal_53 : decode cX4_keepSignal 53 = .ok (.aload_n 0, 1) := by decide +kernel
theorem dX4_keepSignal_54 : decode cX4_keepSignal 54 = .ok (.getfield 9, 3) := by decide +kernel
theorem dX4_keepSignal_57 : decode cX4_keepSignal 57 = .ok (.aload_n 0, 1) := by decide +kernel
theorem dX4_keepSignal_58 : decode cX4_keepSignal 58 = .ok (.getfield 21, 3) := by decide +kernel
theorem dX4_keepSignal_61 : decode cX4_keepSignal 61 = .ok (.iload 4, 2) := by decide +kernel
theorem dX4_keepSignal_63 : decode cX4_keepSignal 63 = .ok (.iastore, 1) := by decide +kernel
theorem dX4_keepSignal_64 : decode cX4_keepSignal 64 = .ok (.aload_n 0, 1) := by decide +kernel
theorem dX4_keepSignal_65 : decode cX4_keepSignal 65 = .ok (.getfield 15, 3) := by decide +kernel
theorem dX4_keepSignal_68 : decode cX4_keepSignal 68 = .ok (.aload_n 0, 1) := by decide +kernel
theorem dX4_keepSignal_69 : decode cX4_keepSignal 69 = .ok (.getfield 21, 3) := by decide +kernel
theorem dX4_keepSignal_72 : decode cX4_keepSignal 72 = .ok (.iload 6, 2) := by decide +kernel
theorem dX4_keepSignal_74 : decode cX4_keepSignal 74 = .ok (.iastore, 1) := by decide +kernel
theorem dX4_keepSignal_75 : decode cX4_keepSignal 75 = .ok (.aload_n 0, 1) := by decide +kernel
theorem dX4_keepSignal_76 : decode cX4_keepSignal 76 = .ok (.getfield 18, 3) := by decide +kernel
theorem dX4_keepSignal_79 : decode cX4_keepSignal 79 = .ok (.aload_n 0, 1) := by decide +kernel
theorem dX4_keepSignal_80 : decode cX4_keepSignal 80 = .ok (.getfield 21, 3) := by decide +kernel
theorem dX4_keepSignal_83 : decode cX4_keepSignal 83 = .ok (.iconst 0, 1) := by decide +kernel
theorem dX4_keepSignal_84 : decode cX4_keepSignal 84 = .ok (.iastore, 1) := by decide +kernel
theorem dX4_keepSignal_85 : decode cX4_keepSignal 85 = .ok (.aload_n 0, 1) := by decide +kernel
theorem dX4_keepSignal_86 : decode cX4_keepSignal 86 = .ok (.dup, 1) := by decide +kernel
theorem dX4_keepSignal_87 : decode cX4_keepSignal 87 = .ok (.getfield 21, 3) := by decide +kernel
theorem dX4_keepSignal_90 : decode cX4_keepSignal 90 = .ok (.iconst 1, 1) := by decide +kernel
theorem dX4_keepSignal_91 : decode cX4_keepSignal 91 = .ok (.iadd, 1) := by decide +kernel
theorem dX4_keepSignal_92 : decode cX4_keepSignal 92 = .ok (.putfield 21, 3) := by decide +kernel
theorem dX4_keepSignal_95 : decode cX4_keepSignal 95 = .ok (.iconst 1, 1) := by decide +kernel
theorem dX4_keepSignal_96 : decode cX4_keepSignal 96 = .ok (.ireturn, 1) := by decide +kernel
theorem dX4_keepSignal_97 : decode cX4_keepSignal 97 = .ok (.iinc 4 1, 3) := by decide +kernel
theorem dX4_keepSignal_100 : decode cX4_keepSignal 100 = .ok (.goto (-86), 3) := by decide +kernel
theorem dX4_keepSignal_103 : decode cX4_keepSignal 103 = .ok (.iconst 0, 1) := by decide +kernel
theorem dX4_keepSignal_104 : decode cX4_keepSignal 104 = .ok (.ireturn, 1) := by decide +kernel
theorem dX5_init_0 : decode cX5_init 0 = .ok (.aload_n 0, 1) := by decide +kernel
theorem dX5_init_1 : decode cX5_init 1 = .ok (.invokespecial 3, 3) := by decide +kernel
theorem dX5_init_4 : decode cX5_init 4 = .ok (.aload_n 0, 1) := by decide +kernel
theorem dX5_init_5 : decode cX5_init 5 = .ok (.new 9, 3) := by decide +kernel
theorem dX5_init_8 : decode cX5_init 8 = .ok (.dup, 1) := by decide +kernel
theorem dX5_init_9 : decode cX5_init 9 = .ok (.sipush 3000, 3) := by decide +kernel
theorem dX5_init_12 : decode cX5_init 12 = .ok (.invokespecial 11, 3) := by decide +kernel
theorem dX5_init_15 : decode cX5_init 15 = .ok (.putfield 14, 3) := by decide +kernel
theorem dX5_init_18 : decode cX5_init 18 = .ok (.aload_n 0, 1) := by decide +kernel
theorem dX5_init_19 : decode cX5_init 19 = .ok (.iconst 4, 1) := by decide +kernel
theorem dX5_init_20 : decode cX5_init 20 = .ok (.newarray .long, 2) := by decide +kernel
theorem dX5_init_22 : decode cX5_init 22 = .ok (.putfield 20, 3) := by decide +kernel
theorem dX5_init_25 : decode cX5_init 25 = .ok (.aload_n 0, 1) := by decide +kernel
theorem dX5_init_26 : decode cX5_init 26 = .ok (.aload_n 1, 1) := by decide +kernel
theorem dX5_init_27 : decode cX5_init 27 = .ok (.putfield 24, 3) := by decide +kernel
theorem dX5_init_30 : decode cX5_init 30 = .ok (.return_, 1) := by decide +kernel
theorem dX5_readBook_0 : decode cX5_readBook 0 = .ok (.aload_n 0, 1) := by decide +kernel
theorem dX5_readBook_1 : decode cX5_readBook 1 = .ok (.iconst 0, 1) := by decide +kernel
theorem dX5_readBook_2 : decode cX5_readBook 2 = .ok (.putfield 28, 3) := by decide +kernel
theorem dX5_readBook_5 : decode cX5_readBook 5 = .ok (.aload_n 0, 1) := by decide +kernel
theorem dX5_readBook_6 : decode cX5_readBook 6 = .ok (.iconst 0, 1) := by decide +kernel
theorem dX5_readBook_7 : decode cX5_readBook 7 = .ok (.putfield 32, 3) := by decide +kernel
theorem dX5_readBook_10 : decode cX5_readBook 10 = .ok (.aload_n 0, 1) := by decide +kernel
theorem dX5_readBook_11 : decode cX5_readBook 11 = .ok (.getfield 14, 3) := by decide +kernel
theorem dX5_readBook_14 : decode cX5_readBook 14 = .ok (.iconst 0, 1) := by decide +kernel
theorem dX5_readBook_15 : decode cX5_readBook 15 = .ok (.putfield 35, 3) := by decide +kernel
theorem dX5_readBook_18 : decode cX5_readBook 18 = .ok (.aload_n 0, 1) := by decide +kernel
theorem dX5_readBook_19 : decode cX5_readBook 19 = .ok (.new 38, 3) := by decide +kernel
theorem dX5_readBook_22 : decode cX5_readBook 22 = .ok (.dup, 1) := by decide +kernel
theorem dX5_readBook_23 : decode cX5_readBook 23 = .ok (.invokespecial 40, 3) := by decide +kernel
theorem dX5_readBook_26 : decode cX5_readBook 26 = .ok (.putfield 41, 3) := by decide +kernel
theorem dX5_readBook_29 : decode cX5_readBook 29 = .ok (.aload_n 0, 1) := by decide +kernel
theorem dX5_readBook_30 : decode cX5_readBook 30 = .ok (.iconst (-1), 1) := by decide +kernel
theorem dX5_readBook_31 : decode cX5_readBook 31 = .ok (.putfield 45, 3) := by decide +kernel
theorem dX5_readBook_34 : decode cX5_readBook 34 = .ok (.aload_n 0, 1) := by decide +kernel
theorem dX5_readBook_35 : decode cX5_readBook 35 = .ok (.iconst 1, 1) := by decide +kernel
theorem dX5_readBook_36 : decode cX5_readBook 36 = .ok (.iconst 2, 1) := by decide +kernel
theorem dX5_readBook_37 : decode cX5_readBook 37 = .ok (.invokevirtual 48, 3) := by decide +kernel
theorem dX5_readBook_40 : decode cX5_readBook 40 = .ok (.istore_n 1, 1) := by decide +kernel
theorem dX5_readBook_41 : decode cX5_readBook 41 = .ok (.iconst 0, 1) := by decide +kernel
theorem dX5_readBook_42 : decode cX5_readBook 42 = .ok (.istore_n 2, 1) := by decide +kernel
theorem dX5_readBook_43 : decode cX5_readBook 43 = .ok (.iload_n 2, 1) := by decide +kernel
theorem dX5_readBook_44 : decode cX5_readBook 44 = .ok (.bipush 12, 2) := by decide +kernel
theorem dX5_readBook_46 : decode cX5_readBook 46 = .ok (.if_icmp .gt 52, 3) := by decide +kernel
theorem dX5_readBook_49 : decode cX5_readBook 49 = .ok (.iload_n 1, 1) := by decide +kernel
theorem dX5_readBook_50 : decode cX5_readBook 50 = .ok (.ifCond .eq 48, 3) := by decide +kernel
theorem dX5_readBook_53 : decode cX5_readBook 53 = .ok (.iload_n 2, 1) := by decide +kernel
theorem dX5_readBook_54 : decode cX5_readBook 54 = .ok (.ifCond .eq 11, 3) := by decide +kernel
theorem dX5_readBook_57 : decode cX5_readBook 57 = .ok (.aload_n 0, 1) := by decide +kernel
theorem dX5_readBook_58 : decode cX5_readBook 58 = .ok (.getfield 52, 3) := by decide +kernel
theorem dX5_readBook_61 : decode cX5_readBook 61 = .ok (.iconst 1, 1) := by decide +kernel
theorem dX5_readBook_62 : decode cX5_readBook 62 = .ok (.if_icmp .eq 36, 3) := by decide +kernel
theorem dX5_readBook_65 : decode cX5_readBook 65 = .ok (.aload_n 0, 1) := by decide +kernel
theorem dX5_readBook_66 : decode cX5_readBook 66 = .ok (.invokevirtual 57, 3) := by decide +kernel
theorem dX5_readBook_69 : decode cX5_readBook 69 = .ok (.ifCond .eq 21, 3) := by decide +kernel
theorem dX5_readBook_72 : decode cX5_readBook 72 = .ok (.aload_n 0, 1) := by decide +kernel
theorem dX5_readBook_73 : decode cX5_readBook 73 = .ok (.invokevirtual 61, 3) := by decide +kernel
theorem dX5_readBook_76 : decode cX5_readBook 76 = .ok (.ifCond .eq 14, 3) := by decide +kernel
theorem dX5_readBook_79 : decode cX5_readBook 79 = .ok (.aload_n 0, 1) := by decide +kernel
theorem dX5_readBook_80 : decode cX5_readBook 80 = .ok (.invokevirtual 64, 3) := by decide +kernel
theorem dX5_readBook_83 : decode cX5_readBook 83 = .ok (.ifCond .eq 7, 3) := by decide +kernel
theorem dX5_readBook_86 : decode cX5_readBook 86 = .ok (.iconst 1, 1) := by decide +kernel
theorem dX5_readBook_87 : decode cX5_readBook 87 = .ok (.goto 4, 3) := by decide +kernel
theorem dX5_readBook_90 : decode cX5_readBook 90 = .ok (.iconst 0, 1) := by decide +kernel
theorem dX5_readBook_91 : decode cX5_readBook 91 = .ok (.istore_n 1, 1) := by decide +kernel
theorem dX5_readBook_92 : decode cX5_readBook 92 = .ok (.iinc 2 1, 3) := by decide +kernel
theorem dX5_readBook_95 : decode cX5_readBook 95 = .ok (.goto (-52), 3) := by decide +kernel
theorem dX5_readBook_98 : decode cX5_readBook 98 = .ok (.iload_n 1, 1) := by decide +kernel
theorem dX5_readBook_99 : decode cX5_readBook 99 = .ok (.ifCond .ne 5, 3) := by decide +kernel
theorem dX5_readBook_102 : decode cX5_readBook 102 = .ok (.aconst_null, 1) := by decide +kernel
theorem dX5_readBook_103 : decode cX5_readBook 103 = .ok (.areturn, 1) := by decide +kernel
theorem dX5_readBook_104 : decode cX5_readBook 104 = .ok (.aload_n 0, 1) := by decide +kernel
theorem dX5_readBook_105 : decode cX5_readBook 105 = .ok (.getfield 41, 3) := by decide +kernel
theorem dX5_readBook_108 : decode cX5_readBook 108 = .ok (.aload_n 0, 1) := by decide +kernel
theorem dX5_readBook_109 : decode cX5_readBook 109 = .ok (.getfield 14, 3) := by decide +kernel
theorem dX5_readBook_112 : decode cX5_readBook 112 = .ok (.invokevirtual 67, 3) := by decide +kernel
theorem dX5_readBook_115 : decode cX5_readBook 115 = .ok (.invokevirtual 71, 3) := by decide +kernel
theorem dX5_readBook_118 : decode cX5_readBook 118 = .ok (.aload_n 0, 1) := by decide +kernel
theorem dX5_readBook_119 : decode cX5_readBook 119 = .ok (.getfield 41, 3) := by decide +kernel
theorem dX5_readBook_122 : decode cX5_readBook 122 = .ok (.aload_n 0, 1) := by decide +kernel
theorem dX5_readBook_123 : decode cX5_readBook 123 = .ok (.getfield 24, 3) := by decide +kernel
theorem dX5_readBook_126 : decode cX5_readBook 126 = .ok (.invokevirtual 75, 3) := by decide +kernel
theorem dX5_readBook_129 : decode cX5_readBook 129 = .ok (.istore_n 2, 1) := by decide +kernel
theorem dX5_readBook_130 : decode cX5_readBook 130 = .ok (.iload_n 2, 1) := by decide +kernel
theorem dX5_readBook_131 : decode cX5_readBook 131 = .ok (.ifCond .ge 8, 3) := by decide +kernel
theorem dX5_readBook_134 : decode cX5_readBook 134 = .ok (.aload_n 0, 1) := by decide +kernel
theorem dX5_readBook_135 : decode cX5_readBook 135 = .ok (.getfield 41, 3) := by decide +kernel
theorem dX5_readBook_138 : decode cX5_readBook 138 = .ok (.areturn, 1) := by decide +kernel
theorem dX5_readBook_139 : decode cX5_readBook 139 = .ok (.aload_n 0, 1) := by decide +kernel
theorem dX5_readBook_140 : decode cX5_readBook 140 = .ok (.iconst 4, 1) := by decide +kernel
theorem dX5_readBook_141 : decode cX5_readBook 141 = .ok (.putfield 28, 3) := by decide +kernel
theorem dX5_readBook_144 : decode cX5_readBook 144 = .ok (.aload_n 0, 1) := by decide +kernel
theorem dX5_readBook_145 : decode cX5_readBook 145 = .ok (.aload_n 0, 1) := by decide +kernel
theorem dX5_readBook_146 : decode cX5_readBook 146 = .ok (.getfield 24, 3) := by decide +kernel
theorem dX5_readBook_149 : decode cX5_readBook 149 = .ok (.getfield 79, 3) := by decide +kernel
theorem dX5_readBook_152 : decode cX5_readBook 152 = .ok (.iload_n 2, 1) := by decide +kernel
theorem dX5_readBook_153 : decode cX5_readBook 153 = .ok (.iaload, 1) := by decide +kernel
theorem dX5_readBook_154 : decode cX5_readBook 154 = .ok (.putfield 32, 3) := by decide +kernel
theorem dX5_readBook_157 : decode cX5_readBook 157 = .ok (.aconst_null, 1) := by decide +kernel
theorem dX5_readBook_158 : decode cX5_readBook 158 = .ok (.areturn, 1) := by decide +kernel
theorem dX5_readHead_0 : decode cX5_readHead 0 = .ok (.aload_n 0, 1) := by decide +kernel
theorem dX5_readHead_1 : decode cX5_readHead 1 = .ok (.getfield 52, 3) := by decide +kernel
theorem dX5_readHead_4 : decode cX5_readHead 4 = .ok (.iconst 4, 1) := by decide +kernel
theorem dX5_readHead_5 : decode cX5_readHead 5 = .ok (.if_icmp .ne 7, 3) := by decide +kernel
theorem dX5_readHead_8 : decode cX5_readHead 8 = .ok (.iconst 1, 1) := by decide +kernel
theorem dX5_readHead_9 : decode cX5_readHead 9 = .ok (.goto 4, 3) := by decide +kernel
theorem dX5_readHead_12 : decode cX5_readHead 12 = .ok (.iconst 0, 1) := by decide +kernel
theorem dX5_readHead_13 : decode cX5_readHead 13 = .ok (.istore_n 1, 1) := by decide +kernel
theorem dX5_readHead_14 : decode cX5_readHead 14 = .ok (.aload_n 0, 1) := by decide +kernel
theorem dX5_readHead_15 : decode cX5_readHead 15 = .ok (.iload_n 1, 1) := by decide +kernel
theorem dX5_readHead_16 : decode cX5_readHead 16 = .ok (.ifCond .eq 19, 3) := by decide +kernel
theorem dX5_readHead_19 : decode cX5_readHead 19 = .ok (.aload_n 0, 1) := by decide +kernel
theorem dX5_readHead_20 : decode cX5_readHead 20 = .ok (.getfield 41, 3) := by decide +kernel
theorem dX5_readHead_23 : decode cX5_readHead 23 = .ok (.getfield 83, 3) := by decide +kernel
theorem dX5_readHead_26 : decode cX5_readHead 26 = .ok (.bipush 12, 2) := by decide +kernel
theorem dX5_readHead_28 : decode cX5_readHead 28 = .ok (.if_icmp .ge 7, 3) := by decide +kernel
theorem dX5_readHead_31 : decode cX5_readHead 31 = .ok (.iconst 1, 1) := by decide +kernel
theorem dX5_readHead_32 : decode cX5_readHead 32 = .ok (.goto 4, 3) := by decide +kernel
theorem dX5_readHead_35 : decode cX5_readHead 35 = .ok (.iconst 0, 1) := by decide +kernel
theorem dX5_readHead_36 : decode cX5_readHead 36 = .ok (.iload_n 1, 1) := by decide +kernel
theorem dX5_readHead_37 : decode cX5_readHead 37 = .ok (.ifCond .eq 7, 3) := by decide +kernel
theorem dX5_readHead_40 : decode cX5_readHead 40 = .ok (.iconst 5, 1) := by decide +kernel
theorem dX5_readHead_41 : decode cX5_readHead 41 = .ok (.goto 4, 3) := by decide +kernel
theorem dX5_readHead_44 : decode cX5_readHead 44 = .ok (.iconst 2, 1) := by decide +kernel
theorem dX5_readHead_45 : decode cX5_readHead 45 = .ok (.invokevirtual 48, 3) := by decide +kernel
theorem dX5_readHead_48 : decode cX5_readHead 48 = .ok (.ifCond .ne 5, 3) := by decide +kernel
theorem dX5_readHead_51 : decode cX5_readHead 51 = .ok (.iconst 0, 1) := by decide +kernel
theorem dX5_readHead_52 : decode cX5_readHead 52 = .ok (.ireturn, 1) := by decide +kernel
theorem dX5_readHead_53 : decode cX5_readHead 53 = .ok (.aload_n 0, 1) := by decide +kernel
theorem dX5_readHead_54 : decode cX5_readHead 54 = .ok (.aload_n 0, 1) := by decide +kernel
theorem dX5_readHead_55 : decode cX5_readHead 55 = .ok (.getfield 41, 3) := by decide +kernel
theorem dX5_readHead_58 : decode cX5_readHead 58 = .ok (.aload_n 0, 1) := by decide +kernel
theorem dX5_readHead_59 : decode cX5_readHead 59 = .ok (.getfield 86, 3) := by decide +kernel
theorem dX5_readHead_62 : decode cX5_readHead 62 = .ok (.invokevirtual 90, 3) := by decide +kernel
theorem dX5_readHead_65 : decode cX5_readHead 65 = .ok (.ifCond .lt 7, 3) := by decide +kernel
theorem dX5_readHead_68 : decode cX5_readHead 68 = .ok (.iconst 1, 1) := by decide +kernel
theorem dX5_readHead_69 : decode cX5_readHead 69 = .ok (.goto 4, 3) := by decide +kernel
theorem dX5_readHead_72 : decode cX5_readHead 72 = .ok (.iconst 0, 1) := by decide +kernel
theorem dX5_readHead_73 : decode cX5_readHead 73 = .ok (.iconst 1, 1) := by decide +kernel
theorem dX5_readHead_74 : decode cX5_readHead 74 = .ok (.invokevirtual 94, 3) := by decide +kernel
theorem dX5_readHead_77 : decode cX5_readHead 77 = .ok (.ifCond .ne 5, 3) := by decide +kernel
theorem dX5_readHead_80 : decode cX5_readHead 80 = .ok (.iconst 0, 1) := by decide +kernel
theorem dX5_readHead_81 : decode cX5_readHead 81 = .ok (.ireturn, 1) := by decide +kernel
theorem dX5_readHead_82 : decode cX5_readHead 82 = .ok (.aload_n 0, 1) := by decide +kernel
theorem dX5_readHead_83 : decode cX5_readHead 83 = .ok (.new 98, 3) := by decide +kernel
theorem dX5_readHead_86 : decode cX5_readHead 86 = .ok (.dup, 1) := by decide +kernel
theorem dX5_readHead_87 : decode cX5_readHead 87 = .ok (.aload_n 0, 1) := by decide +kernel
theorem dX5_readHead_88 : decode cX5_readHead 88 = .ok (.getfield 100, 3) := by decide +kernel
theorem dX5_readHead_91 : decode cX5_readHead 91 = .ok (.invokespecial 103, 3) := by decide +kernel
theorem dX5_readHead_94 : decode cX5_readHead 94 = .ok (.putfield 106, 3) := by decide +kernel
theorem dX5_readHead_97 : decode cX5_readHead 97 = .ok (.aload_n 0, 1) := by decide +kernel
theorem dX5_readHead_98 : decode cX5_readHead 98 = .ok (.getfield 106, 3) := by decide +kernel
theorem dX5_readHead_101 : decode cX5_readHead 101 = .ok (.aload_n 0, 1) := by decide +kernel
theorem dX5_readHead_102 : decode cX5_readHead 102 = .ok (.getfield 14, 3) := by decide +kernel
theorem dX5_readHead_105 : decode cX5_readHead 105 = .ok (.getfield 35, 3) := by decide +kernel
theorem dX5_readHead_108 : decode cX5_readHead 108 = .ok (.putfield 110, 3) := by decide +kernel
theorem dX5_readHead_111 : decode cX5_readHead 111 = .ok (.aload_n 0, 1) := by decide +kernel
theorem dX5_readHead_112 : decode cX5_readHead 112 = .ok (.getfield 41, 3) := by decide +kernel
theorem dX5_readHead_115 : decode cX5_readHead 115 = .ok (.aload_n 0, 1) := by decide +kernel
theorem dX5_readHead_116 : decode cX5_readHead 116 = .ok (.getfield 106, 3) := by decide +kernel
theorem dX5_readHead_119 : decode cX5_readHead 119 = .ok (.invokevirtual 113, 3) := by decide +kernel
theorem dX5_readHead_122 : decode cX5_readHead 122 = .ok (.aload_n 0, 1) := by decide +kernel
theorem dX5_readHead_123 : decode cX5_readHead 123 = .ok (.bipush 123, 2) := by decide +kernel
theorem dX5_readHead_125 : decode cX5_readHead 125 = .ok (.invokevirtual 117, 3) := by decide +kernel
theorem dX5_readHead_128 : decode cX5_readHead 128 = .ok (.ireturn, 1) := by decide +kernel
theorem dX5_readConstants_0 : decode cX5_readConstants 0 = .ok (.iconst 1, 1) := by decide +kernel
theorem dX5_readConstants_1 : decode cX5_readConstants 1 = .ok (.istore_n 1, 1) := by decide +kernel
theorem dX5_readConstants_2 : decode cX5_readConstants 2 = .ok (.iconst 0, 1) := by decide +kernel
theorem dX5_readConstants_3 : decode cX5_readConstants 3 = .ok (.istore_n 2, 1) := by decide +kernel
theorem dX5_readConstants_4 : decode cX5_readConstants 4 = .ok (.iload_n 2, 1) := by decide +kernel
theorem dX5_readConstants_5 : decode cX5_readConstants 5 = .ok (.bipush 24, 2) := by decide +kernel
theorem dX5_readConstants_7 : decode cX5_readConstants 7 = .ok (.if_icmp .gt 46, 3) := by decide +kernel
theorem dX5_readConstants_10 : decode cX5_readConstants 10 = .ok (.iload_n 1, 1) := by decide +kernel
theorem dX5_readConstants_11 : decode cX5_readConstants 11 = .ok (.ifCond .eq 42, 3) := by decide +kernel
theorem dX5_readConstants_14 : decode cX5_readConstants 14 = .ok (.aload_n 0, 1) := by decide +kernel
theorem dX5_readConstants_15 : decode cX5_readConstants 15 = .ok (.invokevirtual 121, 3) := by decide +kernel
theorem dX5_readConstants_18 : decode cX5_readConstants 18 = .ok (.ifCond .ne 5, 3) := by decide +kernel
theorem dX5_readConstants_21 : decode cX5_readConstants 21 = .ok (.iconst 0, 1) := by decide +kernel
theorem dX5_readConstants_22 : decode cX5_readConstants 22 = .ok (.ireturn, 1) := by decide +kernel
theorem dX5_readConstants_23 : decode cX5_readConstants 23 = .ok (.aload_n 0, 1) := by decide +kernel
theorem dX5_readConstants_24 : decode cX5_readConstants 24 = .ok (.getfield 52, 3) := by decide +kernel
theorem dX5_readConstants_27 : decode cX5_readConstants 27 = .ok (.bipush 44, 2) := by decide +kernel
theorem dX5_readConstants_29 : decode cX5_readConstants 29 = .ok (.if_icmp .ne 16, 3) := by decide +kernel
theorem dX5_readConstants_32 : decode cX5_readConstants 32 = .ok (.aload_n 0, 1) := by decide +kernel
theorem dX5_readConstants_33 : decode cX5_readConstants 33 = .ok (.bipush 44, 2) := by decide +kernel
theorem dX5_readConstants_35 : decode cX5_readConstants 35 = .ok (.invokevirtual 117, 3) := by decide +kernel
theorem dX5_readConstants_38 : decode cX5_readConstants 38 = .ok (.ifCond .eq 7, 3) := by decide +kernel
theorem dX5_readConstants_41 : decode cX5_readConstants 41 = .ok (.iconst 1, 1) := by decide +kernel
theorem dX5_readConstants_42 : decode cX5_readConstants 42 = .ok (.goto 4, 3) := by decide +kernel
theorem dX5_readConstants_45 : decode cX5_readConstants 45 = .ok (.iconst 0, 1) := by decide +kernel
theorem dX5_readConstants_46 : decode cX5_readConstants 46 = .ok (.istore_n 1, 1) := by decide +kernel
theorem dX5_readConstants_47 : decode cX5_readConstants 47 = .ok (.iinc 2 1, 3) := by decide +kernel
theorem dX5_readConstants_50 : decode cX5_readConstants 50 = .ok (.goto (-46), 3) := by decide +kernel
theorem dX5_readConstants_53 : decode cX5_readConstants 53 = .ok (.aload_n 0, 1) := by decide +kernel
theorem dX5_readConstants_54 : decode cX5_readConstants 54 = .ok (.bipush 59, 2) := by decide +kernel
theorem dX5_readConstants_56 : decode cX5_readConstants 56 = .ok (.invokevirtual 117, 3) := by decide +kernel
theorem dX5_readConstants_59 : decode cX5_readConstants 59 = .ok (.ireturn, 1) := by decide +kernel
theorem dX5_readConstant_0 : decode cX5_readConstant 0 = .ok (.aload_n 0, 1) := by decide +kernel
theorem dX5_readConstant_1 : decode cX5_readConstant 1 = .ok (.aload_n 0, 1) := by decide +kernel
theorem dX5_readConstant_2 : decode cX5_readConstant 2 = .ok (.getfield 106, 3) := by decide +kernel
theorem dX5_readConstant_5 : decode cX5_readConstant 5 = .ok (.aload_n 0, 1) := by decide +kernel
theorem dX5_readConstant_6 : decode cX5_readConstant 6 = .ok (.getfield 86, 3) := by decide +kernel
theorem dX5_readConstant_9 : decode cX5_readConstant 9 = .ok (.invokevirtual 124, 3) := by decide +kernel
theorem dX5_readConstant_12 : decode cX5_readConstant 12 = .ok (.aload_n 0, 1) := by decide +kernel
theorem dX5_readConstant_13 : decode cX5_readConstant 13 = .ok (.getfield 106, 3) := by decide +kernel
theorem dX5_readConstant_16 : decode cX5_readConstant 16 = .ok (.getfield 128, 3) := by decide +kernel
theorem dX5_readConstant_19 : decode cX5_readConstant 19 = .ok (.bipush 24, 2) := by decide +kernel
theorem dX5_readConstant_21 : decode cX5_readConstant 21 = .ok (.if_icmp .ge 7, 3) := by decide +kernel
theorem dX5_readConstant_24 : decode cX5_readConstant 24 = .ok (.iconst 1, 1) := by decide +kernel
theorem dX5_readConstant_25 : decode cX5_readConstant 25 = .ok (.goto 4, 3) := by decide +kernel
theorem dX5_readConstant_28 : decode cX5_readConstant 28 = .ok (.iconst 0, 1) := by decide +kernel
theorem dX5_readConstant_29 : decode cX5_readConstant 29 = .ok (.invokevirtual 94, 3) := by decide +kernel
theorem dX5_readConstant_32 : decode cX5_readConstant 32 = .ok (.ifCond .ne 5, 3) := by decide +kernel
theorem dX5_readConstant_35 : decode cX5_readConstant 35 = .ok (.iconst 0, 1) := by decide +kernel
theorem dX5_readConstant_36 : decode cX5_readConstant 36 = .ok (.ireturn, 1) := by decide +kernel
theorem dX5_readConstant_37 : decode cX5_readConstant 37 = .ok (.new 131, 3) := by decide +kernel
theorem dX5_readConstant_40 : decode cX5_readConstant 40 = .ok (.dup, 1) := by decide +kernel
theorem dX5_readConstant_41 : decode cX5_readConstant 41 = .ok (.aload_n 0, 1) := by decide +kernel
theorem dX5_readConstant_42 : decode cX5_readConstant 42 = .ok (.getfield 100, 3) := by decide +kernel
theorem dX5_readConstant_45 : decode cX5_readConstant 45 = .ok (.invokespecial 133, 3) := by decide +kernel
theorem dX5_readConstant_48 : decode cX5_readConstant 48 = .ok (.astore_n 1, 1) := by decide +kernel
theorem dX5_readConstant_49 : decode cX5_readConstant 49 = .ok (.aload_n 0, 1) := by decide +kernel
theorem dX5_readConstant_50 : decode cX5_readConstant 50 = .ok (.getfield 106, 3) := by decide +kernel
theorem dX5_readConstant_53 : decode cX5_readConstant 53 = .ok (.getfield 134, 3) := by decide +kernel
theorem dX5_readConstant_56 : decode cX5_readConstant 56 = .ok (.aload_n 0, 1) := by decide +kernel
theorem dX5_readConstant_57 : decode cX5_readConstant 57 = .ok (.getfield 106, 3) := by decide +kernel
theorem dX5_readConstant_60 : decode cX5_readConstant 60 = .ok (.getfield 128, 3) := by decide +kernel
theorem dX5_readConstant_63 : decode cX5_readConstant 63 = .ok (.aload_n 1, 1) := by decide +kernel
theorem dX5_readConstant_64 : decode cX5_readConstant 64 = .ok (.aastore, 1) := by decide +kernel
theorem dX5_readConstant_65 : decode cX5_readConstant 65 = .ok (.aload_n 0, 1) := by decide +kernel
theorem dX5_readConstant_66 : decode cX5_readConstant 66 = .ok (.getfield 106, 3) := by decide +kernel
theorem dX5_readConstant_69 : decode cX5_readConstant 69 = .ok (.dup, 1) := by decide +kernel
theorem dX5_readConstant_70 : decode cX5_readConstant 70 = .ok (.getfield 128, 3) := by decide +kernel
theorem dX5_readConstant_73 : decode cX5_readConstant 73 = .ok (.iconst 1, 1) := by decide +kernel
theorem dX5_readConstant_74 : decode cX5_readConstant 74 = .ok (.iadd, 1) := by decide +kernel
theorem dX5_readConstant_75 : decode cX5_readConstant 75 = .ok (.putfield 128, 3) := by decide +kernel
theorem dX5_readConstant_78 : decode cX5_readConstant 78 = .ok (.aload_n 0, 1) := by decide +kernel
theorem dX5_readConstant_79 : decode cX5_readConstant 79 = .ok (.getfield 52, 3) := by decide +kernel
theorem dX5_readConstant_82 : decode cX5_readConstant 82 = .ok (.bipush 40, 2) := by decide +kernel
theorem dX5_readConstant_84 : decode cX5_readConstant 84 = .ok (.if_icmp .ne 45, 3) := by decide +kernel
theorem dX5_readConstant_87 : decode cX5_readConstant 87 = .ok (.aload_n 0, 1) := by decide +kernel
theorem dX5_readConstant_88 : decode cX5_readConstant 88 = .ok (.bipush 40, 2) := by decide +kernel
theorem dX5_readConstant_90 : decode cX5_readConstant 90 = .ok (.invokevirtual 117, 3) := by decide +kernel
theorem dX5_readConstant_93 : decode cX5_readConstant 93 = .ok (.pop, 1) := by decide +kernel
theorem dX5_readConstant_94 : decode cX5_readConstant 94 = .ok (.aload_n 1, 1) := by decide +kernel
theorem dX5_readConstant_95 : decode cX5_readConstant 95 = .ok (.aload_n 0, 1) := by decide +kernel
theorem dX5_readConstant_96 : decode cX5_readConstant 96 = .ok (.getfield 14, 3) := by decide +kernel
theorem dX5_readConstant_99 : decode cX5_readConstant 99 = .ok (.getfield 35, 3) := by decide +kernel
theorem dX5_readConstant_102 : decode cX5_readConstant 102 = .ok (.putfield 138, 3) := by decide +kernel
theorem dX5_readConstant_105 : decode cX5_readConstant 105 = .ok (.aload_n 0, 1) := by decide +kernel
theorem dX5_readConstant_106 : decode cX5_readConstant 106 = .ok (.iconst 1, 1) := by decide +kernel
theorem dX5_readConstant_107 : decode cX5_readConstant 107 = .ok (.putfield 141, 3) := by decide +kernel
theorem dX5_readConstant_110 : decode cX5_readConstant 110 = .ok (.aload_n 0, 1) := by decide +kernel
theorem dX5_readConstant_111 : decode cX5_readConstant 111 = .ok (.iconst 0, 1) := by decide +kernel
theorem dX5_readConstant_112 : decode cX5_readConstant 112 = .ok (.invokevirtual 144, 3) := by decide +kernel
theorem dX5_readConstant_115 : decode cX5_readConstant 115 = .ok (.ifCond .eq 12, 3) := by decide +kernel
theorem dX5_readConstant_118 : decode cX5_readConstant 118 = .ok (.aload_n 0, 1) := by decide +kernel
theorem dX5_readConstant_119 : decode cX5_readConstant 119 = .ok (.bipush 41, 2) := by decide +kernel
theorem dX5_readConstant_121 : decode cX5_readConstant 121 = .ok (.invokevirtual 117, 3) := by decide +kernel
theorem dX5_readConstant_124 : decode cX5_readConstant 124 = .ok (.ifCond .ne 5, 3) := by decide +kernel
theorem dX5_readConstant_127 : decode cX5_readConstant 127 = .ok (.iconst 0, 1) := by decide +kernel
theorem dX5_readConstant_128 : decode cX5_readConstant 128 = .ok (.ireturn, 1) := by decide +kernel
theorem dX5_readConstant_129 : decode cX5_readConstant 129 = .ok (.aload_n 0, 1) := by decide +kernel
theorem dX5_readConstant_130 : decode cX5_readConstant 130 = .ok (.getfield 52, 3) := by decide +kernel
theorem dX5_readConstant_133 : decode cX5_readConstant 133 = .ok (.bipush 123, 2) := by decide +kernel
theorem dX5_readConstant_135 : decode cX5_readConstant 135 = .ok (.if_icmp .eq 5, 3) := by decide +kernel
theorem dX5_readConstant_138 : decode cX5_readConstant 138 = .ok (.iconst 1, 1) := by decide +kernel
theorem dX5_readConstant_139 : decode cX5_readConstant 139 = .ok (.ireturn, 1) := by decide +kernel
theorem dX5_readConstant_140 : decode cX5_readConstant 140 = .ok (.aload_n 0, 1) := by decide +kernel
theorem dX5_readConstant_141 : decode cX5_readConstant 141 = .ok (.bipush 123, 2) := by decide +kernel
theorem dX5_readConstant_143 : decode cX5_readConstant 143 = .ok (.invokevirtual 117, 3) := by decide +kernel
theorem dX5_readConstant_146 : decode cX5_readConstant 146 = .ok (.pop, 1) := by decide +kernel
theorem dX5_readConstant_147 : decode cX5_readConstant 147 = .ok (.iconst 1, 1) := by decide +kernel
theorem dX5_readConstant_148 : decode cX5_readConstant 148 = .ok (.istore_n 2, 1) := by decide +kernel
theorem dX5_readConstant_149 : decode cX5_readConstant 149 = .ok (.iconst 0, 1) := by decide +kernel
theorem dX5_readConstant_150 : decode cX5_readConstant 150 = .ok (.istore_n 3, 1) := by decide +kernel
theorem dX5_readConstant_151 : decode cX5_readConstant 151 = .ok (.iload_n 3, 1) := by decide +kernel
theorem dX5_readConstant_152 : decode cX5_readConstant 152 = .ok (.iconst 4, 1) := by decide +kernel
theorem dX5_readConstant_153 : decode cX5_readConstant 153 = .ok (.if_icmp .gt 41, 3) := by decide +kernel
theorem dX5_readConstant_156 : decode cX5_readConstant 156 = .ok (.iload_n 2, 1) := by decide +kernel
theorem dX5_readConstant_157 : decode cX5_readConstant 157 = .ok (.ifCond .eq 37, 3) := by decide +kernel
theorem dX5_readConstant_160 : decode cX5_readConstant 160 = .ok (.aload_n 0, 1) := by decide +kernel
theorem dX5_readConstant_161 : decode cX5_readConstant 161 = .ok (.aload_n 1, 1) := by decide +kernel
theorem dX5_readConstant_162 : decode cX5_readConstant 162 = .ok (.getfield 147, 3) := by decide +kernel
theorem dX5_readConstant_165 : decode cX5_readConstant 165 = .ok (.iconst 3, 1) := by decide +kernel
theorem dX5_readConstant_166 : decode cX5_readConstant 166 = .ok (.invokevirtual 150, 3) := by decide +kernel
theorem dX5_readConstant_169 : decode cX5_readConstant 169 = .ok (.ifCond .ne 5, 3) := by decide +kernel
theorem dX5_readConstant_172 : decode cX5_readConstant 172 = .ok (.iconst 0, 1) := by decide +kernel
theorem dX5_readConstant_173 : decode cX5_readConstant 173 = .ok (.ireturn, 1) := by decide +kernel
theorem dX5_readConstant_174 : decode cX5_readConstant 174 = .ok (.aload_n 0, 1) := by decide +kernel
theorem dX5_readConstant_175 : decode cX5_readConstant 175 = .ok (.getfield 52, 3) := by decide +kernel
theorem dX5_readConstant_178 : decode cX5_readConstant 178 = .ok (.iconst 5, 1) := by decide +kernel
theorem dX5_readConstant_179 : decode cX5_readConstant 179 = .ok (.if_icmp .ne 7, 3) := by decide +kernel
theorem dX5_readConstant_182 : decode cX5_readConstant 182 = .ok (.iconst 1, 1) := by decide +kernel
theorem dX5_readConstant_183 : decode cX5_readConstant 183 = .ok (.goto 4, 3) := by decide +kernel
theorem dX5_readConstant_186 : decode cX5_readConstant 186 = .ok (.iconst 0, 1) := by decide +kernel
theorem dX5_readConstant_187 : decode cX5_readConstant 187 = .ok (.istore_n 2, 1) := by decide +kernel
theorem dX5_readConstant_188 : decode cX5_readConstant 188 = .ok (.iinc 3 1, 3) := by decide +kernel
theorem dX5_readConstant_191 : decode cX5_readConstant 191 = .ok (.goto (-40), 3) := by decide +kernel
theorem dX5_readConstant_194 : decode cX5_readConstant 194 = .ok (.aload_n 0, 1) := by decide +kernel
theorem dX5_readConstant_195 : decode cX5_readConstant 195 = .ok (.bipush 125, 2) := by decide +kernel
theorem dX5_readConstant_197 : decode cX5_readConstant 197 = .ok (.invokevirtual 117, 3) := by decide +kernel
theorem dX5_readConstant_200 : decode cX5_readConstant 200 = .ok (.ireturn, 1) := by decide +kernel
theorem dX5_readAct_0 : decode cX5_readAct 0 = .ok (.aload_n 0, 1) := by decide +kernel
theorem dX5_readAct_1 : decode cX5_readAct 1 = .ok (.iconst 5, 1) := by decide +kernel
theorem dX5_readAct_2 : decode cX5_readAct 2 = .ok (.invokevirtual 117, 3) := by decide +kernel
theorem dX5_readAct_5 : decode cX5_readAct 5 = .ok (.ifCond .ne 5, 3) := by decide +kernel
theorem dX5_readAct_8 : decode cX5_readAct 8 = .ok (.iconst 0, 1) := by decide +kernel
theorem dX5_readAct_9 : decode cX5_readAct 9 = .ok (.ireturn, 1) := by decide +kernel
theorem dX5_readAct_10 : decode cX5_readAct 10 = .ok (.aload_n 0, 1) := by decide +kernel
theorem dX5_readAct_11 : decode cX5_readAct 11 = .ok (.aload_n 0, 1) := by decide +kernel
theorem dX5_readAct_12 : decode cX5_readAct 12 = .ok (.getfield 86, 3) := by decide +kernel
theorem dX5_readAct_15 : decode cX5_readAct 15 = .ok (.invokevirtual 154, 3) := by decide +kernel
theorem dX5_readAct_18 : decode cX5_readAct 18 = .ok (.istore_n 3, 1) := by decide +kernel
theorem dX5_readAct_19 : decode cX5_readAct 19 = .ok (.iload_n 3, 1) := by decide +kernel
theorem dX5_readAct_20 : decode cX5_readAct 20 = .ok (.ifCond .ge 7, 3) := by decide +kernel
theorem dX5_readAct_23 : decode cX5_readAct 23 = .ok (.iconst 1, 1) := by decide +kernel
theorem dX5_readAct_24 : decode cX5_readAct 24 = .ok (.goto 4, 3) := by decide +kernel
theorem dX5_readAct_27 : decode cX5_readAct 27 = .ok (.iconst 0, 1) := by decide +kernel
theorem dX5_readAct_28 : decode cX5_readAct 28 = .ok (.istore 4, 2) := by decide +kernel
theorem dX5_readAct_30 : decode cX5_readAct 30 = .ok (.aload_n 0, 1) := by decide +kernel
theorem dX5_readAct_31 : decode cX5_readAct 31 = .ok (.iload 4, 2) := by decide +kernel
theorem dX5_readAct_33 : decode cX5_readAct 33 = .ok (.ifCond .ne 14, 3) := by decide +kernel
theorem dX5_readAct_36 : decode cX5_readAct 36 = .ok (.aload_n 1, 1) := by decide +kernel
theorem dX5_readAct_37 : decode cX5_readAct 37 = .ok (.iload_n 3, 1) := by decide +kernel
theorem dX5_readAct_38 : decode cX5_readAct 38 = .ok (.iaload, 1) := by decide +kernel
theorem dX5_readAct_39 : decode cX5_readAct 39 = .ok (.iconst (-1), 1) := by decide +kernel
theorem dX5_readAct_40 : decode cX5_readAct 40 = .ok (.if_icmp .eq 7, 3) := by decide +kernel
theorem dX5_readAct_43 : decode cX5_readAct 43 = .ok (.iconst 1, 1) := by decide +kernel
theorem dX5_readAct_44 : decode cX5_readAct 44 = .ok (.goto 4, 3) := by decide +kernel
theorem dX5_readAct_47 : decode cX5_readAct 47 = .ok (.iconst 0, 1) := by decide +kernel
theorem dX5_readAct_48 : decode cX5_readAct 48 = .ok (.iload 4, 2) := by decide +kernel
theorem dX5_readAct_50 : decode cX5_readAct 50 = .ok (.ifCond .eq 14, 3) := by decide +kernel
theorem dX5_readAct_53 : decode cX5_readAct 53 = .ok (.aload_n 0, 1) := by decide +kernel
theorem dX5_readAct_54 : decode cX5_readAct 54 = .ok (.getfield 41, 3) := by decide +kernel
theorem dX5_readAct_57 : decode cX5_readAct 57 = .ok (.getfield 157, 3) := by decide +kernel
theorem dX5_readAct_60 : decode cX5_readAct 60 = .ok (.iconst 4, 1) := by decide +kernel
theorem dX5_readAct_61 : decode cX5_readAct 61 = .ok (.if_icmp .ge 7, 3) := by decide +kernel
theorem dX5_readAct_64 : decode cX5_readAct 64 = .ok (.iconst 1, 1) := by decide +kernel
theorem dX5_readAct_65 : decode cX5_readAct 65 = .ok (.goto 4, 3) := by decide +kernel
theorem dX5_readAct_68 : decode cX5_readAct 68 = .ok (.iconst 0, 1) := by decide +kernel
theorem dX5_readAct_69 : decode cX5_readAct 69 = .ok (.invokevirtual 94, 3) := by decide +kernel
theorem dX5_readAct_72 : decode cX5_readAct 72 = .ok (.ifCond .ne 5, 3) := by decide +kernel
theorem dX5_readAct_75 : decode cX5_readAct 75 = .ok (.iconst 0, 1) := by decide +kernel
theorem dX5_readAct_76 : decode cX5_readAct 76 = .ok (.ireturn, 1) := by decide +kernel
theorem dX5_readAct_77 : decode cX5_readAct 77 = .ok (.iload 4, 2) := by decide +kernel
theorem dX5_readAct_79 : decode cX5_readAct 79 = .ok (.ifCond .eq 34, 3) := by decide +kernel
theorem dX5_readAct_82 : decode cX5_readAct 82 = .ok (.aload_n 0, 1) := by decide +kernel
theorem dX5_readAct_83 : decode cX5_readAct 83 = .ok (.getfield 41, 3) := by decide +kernel
theorem dX5_readAct_86 : decode cX5_readAct 86 = .ok (.getfield 157, 3) := by decide +kernel
theorem dX5_readAct_89 : decode cX5_readAct 89 = .ok (.istore_n 3, 1) := by decide +kernel
theorem dX5_readAct_90 : decode cX5_readAct 90 = .ok (.aload_n 0, 1) := by decide +kernel
theorem dX5_readAct_91 : decode cX5_readAct 91 = .ok (.getfield 20, 3) := by decide +kernel
theorem dX5_readAct_94 : decode cX5_readAct 94 = .ok (.iload_n 3, 1) := by decide +kernel
theorem dX5_readAct_95 : decode cX5_readAct 95 = .ok (.aload_n 0, 1) := by decide +kernel
theorem dX5_readAct_96 : decode cX5_readAct 96 = .ok (.getfield 100, 3) := by decide +kernel
theorem dX5_readAct_99 : decode cX5_readAct 99 = .ok (.lastore, 1) := by decide +kernel
theorem dX5_readAct_100 : decode cX5_readAct 100 = .ok (.aload_n 0, 1) := by decide +kernel
theorem dX5_readAct_101 : decode cX5_readAct 101 = .ok (.getfield 41, 3) := by decide +kernel
theorem dX5_readAct_104 : decode cX5_readAct 104 = .ok (.dup, 1) := by decide +kernel
theorem dX5_readAct_105 : decode cX5_readAct 105 = .ok (.getfield 157, 3) := by decide +kernel
theorem dX5_readAct_108 : decode cX5_readAct 108 = .ok (.iconst 1, 1) := by decide +kernel
theorem dX5_readAct_109 : decode cX5_readAct 109 = .ok (.iadd, 1) := by decide +kernel
theorem dX5_readAct_110 : decode cX5_readAct 110 = .ok (.putfield 157, 3) := by decide +kernel
theorem dX5_readAct_113 : decode cX5_readAct 113 = .ok (.aload_n 1, 1) := by decide +kernel
theorem dX5_readAct_114 : decode cX5_readAct 114 = .ok (.iload_n 3, 1) := by decide +kernel
theorem dX5_readAct_115 : decode cX5_readAct 115 = .ok (.aload_n 0, 1) := by decide +kernel
theorem dX5_readAct_116 : decode cX5_readAct 116 = .ok (.getfield 14, 3) := by decide +kernel
theorem dX5_readAct_119 : decode cX5_readAct 119 = .ok (.getfield 35, 3) := by decide +kernel
theorem dX5_readAct_122 : decode cX5_readAct 122 = .ok (.iastore, 1) := by decide +kernel
theorem dX5_readAct_123 : decode cX5_readAct 123 = .ok (.aload_n 0, 1) := by decide +kernel
theorem dX5_readAct_124 : decode cX5_readAct 124 = .ok (.iload_n 2, 1) := by decide +kernel
theorem dX5_readAct_125 : decode cX5_readAct 125 = .ok (.putfield 141, 3) := by decide +kernel
theorem dX5_readAct_128 : decode cX5_readAct 128 = .ok (.aload_n 0, 1) := by decide +kernel
theorem dX5_readAct_129 : decode cX5_readAct 129 = .ok (.bipush 61, 2) := by decide +kernel
theorem dX5_readAct_131 : decode cX5_readAct 131 = .ok (.invokevirtual 117, 3) := by decide +kernel
theorem dX5_readAct_134 : decode cX5_readAct 134 = .ok (.ifCond .eq 24, 3) := by decide +kernel
theorem dX5_readAct_137 : decode cX5_readAct 137 = .ok (.aload_n 0, 1) := by decide +kernel
theorem dX5_readAct_138 : decode cX5_readAct 138 = .ok (.iconst 0, 1) := by decide +kernel
theorem dX5_readAct_139 : decode cX5_readAct 139 = .ok (.invokevirtual 144, 3) := by decide +kernel
theorem dX5_readAct_142 : decode cX5_readAct 142 = .ok (.ifCond .eq 16, 3) := by decide +kernel
theorem dX5_readAct_145 : decode cX5_readAct 145 = .ok (.aload_n 0, 1) := by decide +kernel
theorem dX5_readAct_146 : decode cX5_readAct 146 = .ok (.bipush 59, 2) := by decide +kernel
theorem dX5_readAct_148 : decode cX5_readAct 148 = .ok (.invokevirtual 117, 3) := by decide +kernel
theorem dX5_readAct_151 : decode cX5_readAct 151 = .ok (.ifCond .eq 7, 3) := by decide +kernel
theorem dX5_readAct_154 : decode cX5_readAct 154 = .ok (.iconst 1, 1) := by decide +kernel
theorem dX5_readAct_155 : decode cX5_readAct 155 = .ok (.goto 4, 3) := by decide +kernel
theorem dX5_readAct_158 : decode cX5_readAct 158 = .ok (.iconst 0, 1) := by decide +kernel
theorem dX5_readAct_159 : decode cX5_readAct 159 = .ok (.ireturn, 1) := by decide +kernel
theorem dX5_findAct_0 : decode cX5_findAct 0 = .ok (.iconst 0, 1) := by decide +kernel
theorem dX5_findAct_1 : decode cX5_findAct 1 = .ok (.istore_n 3, 1) := by decide +kernel
theorem dX5_findAct_2 : decode cX5_findAct 2 = .ok (.iload_n 3, 1) := by decide +kernel
theorem dX5_findAct_3 : decode cX5_findAct 3 = .ok (.aload_n 0, 1) := by decide +kernel
theorem dX5_findAct_4 : decode cX5_findAct 4 = .ok (.getfield 41, 3) := by decide +kernel
theorem dX5_findAct_7 : decode cX5_findAct 7 = .ok (.getfield 157, 3) := by decide +kernel
theorem dX5_findAct_10 : decode cX5_findAct 10 = .ok (.if_icmp .ge 22, 3) := by decide +kernel
theorem dX5_findAct_13 : decode cX5_findAct 13 = .ok (.aload_n 0, 1) := by decide +kernel
theorem dX5_findAct_14 : decode cX5_findAct 14 = .ok (.getfield 20, 3) := by decide +kernel
theorem dX5_findAct_17 : decode cX5_findAct 17 = .ok (.iload_n 3, 1) := by decide +kernel
theorem dX5_findAct_18 : decode cX5_findAct 18 = .ok (.laload, 1) := by decide +kernel
theorem dX5_findAct_19 : decode cX5_findAct 19 = .ok (.lload_n 1, 1) := by decide +kernel
theorem dX5_findAct_20 : decode cX5_findAct 20 = .ok (.lcmp, 1) := by decide +kernel
theorem dX5_findAct_21 : decode cX5_findAct 21 = .ok (.ifCond .ne 5, 3) := by decide +kernel
theorem dX5_findAct_24 : decode cX5_findAct 24 = .ok (.iload_n 3, 1) := by decide +kernel
theorem dX5_findAct_25 : decode cX5_findAct 25 = .ok (.ireturn, 1) := by decide +kernel
theorem dX5_findAct_26 : decode cX5_findAct 26 = .ok (.iinc 3 1, 3) := by decide +kernel
theorem dX5_findAct_29 : decode cX5_findAct 29 = .ok (.goto (-27), 3) := by decide +kernel
theorem dX5_findAct_32 : decode cX5_findAct 32 = .ok (.iconst (-1), 1) := by decide +kernel
theorem dX5_findAct_33 : decode cX5_findAct 33 = .ok (.ireturn, 1) := by decide +kernel
theorem dX5_readMembers_0 : decode cX5_readMembers 0 = .ok (.iconst 1, 1) := by decide +kernel
theorem dX5_readMembers_1 : decode cX5_readMembers 1 = .ok (.istore_n 1, 1) := by decide +kernel
theorem dX5_readMembers_2 : decode cX5_readMembers 2 = .ok (.iconst 0, 1) := by decide +kernel
theorem dX5_readMembers_3 : decode cX5_readMembers 3 = .ok (.istore_n 2, 1) := by decide +kernel
theorem dX5_readMembers_4 : decode cX5_readMembers 4 = .ok (.iload_n 2, 1) := by decide +kernel
theorem dX5_readMembers_5 : decode cX5_readMembers 5 = .ok (.sipush 3000, 3) := by decide +kernel
theorem dX5_readMembers_8 : decode cX5_readMembers 8 = .ok (.if_icmp .ge 121, 3) := by decide +kernel
theorem dX5_readMembers_11 : decode cX5_readMembers 11 = .ok (.iload_n 1, 1) := by decide +kernel
theorem dX5_readMembers_12 : decode cX5_readMembers 12 = .ok (.ifCond .eq 117, 3) := by decide +kernel
theorem dX5_readMembers_15 : decode cX5_readMembers 15 = .ok (.aload_n 0, 1) := by decide +kernel
theorem dX5_readMembers_16 : decode cX5_readMembers 16 = .ok (.getfield 52, 3) := by decide +kernel
theorem dX5_readMembers_19 : decode cX5_readMembers 19 = .ok (.bipush 125, 2) := by decide +kernel
theorem dX5_readMembers_21 : decode cX5_readMembers 21 = .ok (.if_icmp .eq 108, 3) := by decide +kernel
theorem dX5_readMembers_24 : decode cX5_readMembers 24 = .ok (.aload_n 0, 1) := by decide +kernel
theorem dX5_readMembers_25 : decode cX5_readMembers 25 = .ok (.iconst 0, 1) := by decide +kernel
theorem dX5_readMembers_26 : decode cX5_readMembers 26 = .ok (.putfield 141, 3) := by decide +kernel
theorem dX5_readMembers_29 : decode cX5_readMembers 29 = .ok (.aload_n 0, 1) := by decide +kernel
theorem dX5_readMembers_30 : decode cX5_readMembers 30 = .ok (.getfield 52, 3) := by decide +kernel
theorem dX5_readMembers_33 : decode cX5_readMembers 33 = .ok (.tableswitch 83 5 9 #[35, 51, 59, 67, 75], 35) := by decide +kernel
theorem dX5_readMembers_68 : decode cX5_readMembers 68 = .ok (.aload_n 0, 1) := by decide +kernel
theorem dX5_readMembers_69 : decode cX5_readMembers 69 = .ok (.aload_n 0, 1) := by decide +kernel
theorem dX5_readMembers_70 : decode cX5_readMembers 70 = .ok (.getfield 106, 3) := by decide +kernel
theorem dX5_readMembers_73 : decode cX5_readMembers 73 = .ok (.getfield 160, 3) := by decide +kernel
theorem dX5_readMembers_76 : decode cX5_readMembers 76 = .ok (.iconst 2, 1) := by decide +kernel
theorem dX5_readMembers_77 : decode cX5_readMembers 77 = .ok (.invokevirtual 150, 3) := by decide +kernel
theorem dX5_readMembers_80 : decode cX5_readMembers 80 = .ok (.istore_n 1, 1) := by decide +kernel
theorem dX5_readMembers_81 : decode cX5_readMembers 81 = .ok (.goto 42, 3) := by decide +kernel
theorem dX5_readMembers_84 : decode cX5_readMembers 84 = .ok (.aload_n 0, 1) := by decide +kernel
theorem dX5_readMembers_85 : decode cX5_readMembers 85 = .ok (.invokevirtual 161, 3) := by decide +kernel
theorem dX5_readMembers_88 : decode cX5_readMembers 88 = .ok (.istore_n 1, 1) := by decide +kernel
theorem dX5_readMembers_89 : decode cX5_readMembers 89 = .ok (.goto 34, 3) := by decide +kernel
theorem dX5_readMembers_92 : decode cX5_readMembers 92 = .ok (.aload_n 0, 1) := by decide +kernel
theorem dX5_readMembers_93 : decode cX5_readMembers 93 = .ok (.invokevirtual 164, 3) := by decide +kernel
theorem dX5_readMembers_96 : decode cX5_readMembers 96 = .ok (.istore_n 1, 1) := by decide +kernel
theorem dX5_readMembers_97 : decode cX5_readMembers 97 = .ok (.goto 26, 3) := by decide +kernel
theorem dX5_readMembers_100 : decode cX5_readMembers 100 = .ok (.aload_n 0, 1) := by decide +kernel
theorem dX5_readMembers_101 : decode cX5_readMembers 101 = .ok (.invokevirtual 167, 3) := by decide +kernel
theorem dX5_readMembers_104 : decode cX5_readMembers 104 = .ok (.istore_n 1, 1) := by decide +kernel
theorem dX5_readMembers_105 : decode cX5_readMembers 105 = .ok (.goto 18, 3) := by decide +kernel
theorem dX5_readMembers_108 : decode cX5_readMembers 108 = .ok (.aload_n 0, 1) := by decide +kernel
theorem dX5_readMembers_109 : decode cX5_readMembers 109 = .ok (.invokevirtual 170, 3) := by decide +kernel
theorem dX5_readMembers_112 : decode cX5_readMembers 112 = .ok (.istore_n 1, 1) := by decide +kernel
theorem dX5_readMembers_113 : decode cX5_readMembers 113 = .ok (.goto 10, 3) := by decide +kernel
theorem dX5_readMembers_116 : decode cX5_readMembers 116 = .ok (.aload_n 0, 1) := by decide +kernel
theorem dX5_readMembers_117 : decode cX5_readMembers 117 = .ok (.iconst 0, 1) := by decide +kernel
theorem dX5_readMembers_118 : decode cX5_readMembers 118 = .ok (.iconst 2, 1) := by decide +kernel
theorem dX5_readMembers_119 : decode cX5_readMembers 119 = .ok (.invokevirtual 48, 3) := by decide +kernel
theorem dX5_readMembers_122 : decode cX5_readMembers 122 = .ok (.istore_n 1, 1) := by decide +kernel
theorem dX5_readMembers_123 : decode cX5_readMembers 123 = .ok (.iinc 2 1, 3) := by decide +kernel
theorem dX5_readMembers_126 : decode cX5_readMembers 126 = .ok (.goto (-122), 3) := by decide +kernel
theorem dX5_readMembers_129 : decode cX5_readMembers 129 = .ok (.aload_n 0, 1) := by decide +kernel
theorem dX5_readMembers_130 : decode cX5_readMembers 130 = .ok (.getfield 106, 3) := by decide +kernel
theorem dX5_readMembers_133 : decode cX5_readMembers 133 = .ok (.aload_n 0, 1) := by decide +kernel
theorem dX5_readMembers_134 : decode cX5_readMembers 134 = .ok (.getfield 14, 3) := by decide +kernel
theorem dX5_readMembers_137 : decode cX5_readMembers 137 = .ok (.getfield 35, 3) := by decide +kernel
theorem dX5_readMembers_140 : decode cX5_readMembers 140 = .ok (.putfield 173, 3) := by decide +kernel
theorem dX5_readMembers_143 : decode cX5_readMembers 143 = .ok (.iload_n 1, 1) := by decide +kernel
theorem dX5_readMembers_144 : decode cX5_readMembers 144 = .ok (.ifCond .eq 16, 3) := by decide +kernel
theorem dX5_readMembers_147 : decode cX5_readMembers 147 = .ok (.aload_n 0, 1) := by decide +kernel
theorem dX5_readMembers_148 : decode cX5_readMembers 148 = .ok (.bipush 125, 2) := by decide +kernel
theorem dX5_readMembers_150 : decode cX5_readMembers 150 = .ok (.invokevirtual 117, 3) := by decide +kernel
theorem dX5_readMembers_153 : decode cX5_readMembers 153 = .ok (.ifCond .eq 7, 3) := by decide +kernel
theorem dX5_readMembers_156 : decode cX5_readMembers 156 = .ok (.iconst 1, 1) := by decide +kernel
theorem dX5_readMembers_157 : decode cX5_readMembers 157 = .ok (.goto 4, 3) := by decide +kernel
theorem dX5_readMembers_160 : decode cX5_readMembers 160 = .ok (.iconst 0, 1) := by decide +kernel
theorem dX5_readMembers_161 : decode cX5_readMembers 161 = .ok (.ireturn, 1) := by decide +kernel
theorem dX5_readTable_0 : decode cX5_readTable 0 = .ok (.aload_n 0, 1) := by decide +kernel
theorem dX5_readTable_1 : decode cX5_readTable 1 = .ok (.aload_n 0, 1) := by decide +kernel
theorem dX5_readTable_2 : decode cX5_readTable 2 = .ok (.getfield 106, 3) := by decide +kernel
theorem dX5_readTable_5 : decode cX5_readTable 5 = .ok (.getfield 176, 3) := by decide +kernel
theorem dX5_readTable_8 : decode cX5_readTable 8 = .ok (.iconst 4, 1) := by decide +kernel
theorem dX5_readTable_9 : decode cX5_readTable 9 = .ok (.if_icmp .ge 7, 3) := by decide +kernel
theorem dX5_readTable_12 : decode cX5_readTable 12 = .ok (.iconst 1, 1) := by decide +kernel
theorem dX5_readTable_13 : decode cX5_readTable 13 = .ok (.goto 4, 3) := by decide +kernel
theorem dX5_readTable_16 : decode cX5_readTable 16 = .ok (.iconst 0, 1) := by decide +kernel
theorem dX5_readTable_17 : decode cX5_readTable 17 = .ok (.invokevirtual 179, 3) := by decide +kernel
theorem dX5_readTable_20 : decode cX5_readTable 20 = .ok (.ifCond .ne 5, 3) := by decide +kernel
theorem dX5_readTable_23 : decode cX5_readTable 23 = .ok (.iconst 0, 1) := by decide +kernel
theorem dX5_readTable_24 : decode cX5_readTable 24 = .ok (.ireturn, 1) := by decide +kernel
theorem dX5_readTable_25 : decode cX5_readTable 25 = .ok (.new 183, 3) := by decide +kernel
theorem dX5_readTable_28 : decode cX5_readTable 28 = .ok (.dup, 1) := by decide +kernel
theorem dX5_readTable_29 : decode cX5_readTable 29 = .ok (.aload_n 0, 1) := by decide +kernel
theorem dX5_readTable_30 : decode cX5_readTable 30 = .ok (.getfield 100, 3) := by decide +kernel
theorem dX5_readTable_33 : decode cX5_readTable 33 = .ok (.invokespecial 185, 3) := by decide +kernel
theorem dX5_readTable_36 : decode cX5_readTable 36 = .ok (.astore_n 1, 1) := by decide +kernel
theorem dX5_readTable_37 : decode cX5_readTable 37 = .ok (.aload_n 0, 1) := by decide +kernel
theorem dX5_readTable_38 : decode cX5_readTable 38 = .ok (.getfield 106, 3) := by decide +kernel
theorem dX5_readTable_41 : decode cX5_readTable 41 = .ok (.getfield 186, 3) := by decide +kernel
theorem dX5_readTable_44 : decode cX5_readTable 44 = .ok (.aload_n 0, 1) := by decide +kernel
theorem dX5_readTable_45 : decode cX5_readTable 45 = .ok (.getfield 106, 3) := by decide +kernel
theorem dX5_readTable_48 : decode cX5_readTable 48 = .ok (.getfield 176, 3) := by decide +kernel
theorem dX5_readTable_51 : decode cX5_readTable 51 = .ok (.aload_n 1, 1) := by decide +kernel
theorem dX5_readTable_52 : decode cX5_readTable 52 = .ok (.aastore, 1) := by decide +kernel
theorem dX5_readTable_53 : decode cX5_readTable 53 = .ok (.aload_n 0, 1) := by decide +kernel
theorem dX5_readTable_54 : decode cX5_readTable 54 = .ok (.getfield 106, 3) := by decide +kernel
theorem dX5_readTable_57 : decode cX5_readTable 57 = .ok (.dup, 1) := by decide +kernel
theorem dX5_readTable_58 : decode cX5_readTable 58 = .ok (.getfield 176, 3) := by decide +kernel
theorem dX5_readTable_61 : decode cX5_readTable 61 = .ok (.iconst 1, 1) := by decide +kernel
theorem dX5_readTable_62 : decode cX5_readTable 62 = .ok (.iadd, 1) := by decide +kernel
theorem dX5_readTable_63 : decode cX5_readTable 63 = .ok (.putfield 176, 3) := by decide +kernel
theorem dX5_readTable_66 : decode cX5_readTable 66 = .ok (.aload_n 0, 1) := by decide +kernel
theorem dX5_readTable_67 : decode cX5_readTable 67 = .ok (.bipush 61, 2) := by decide +kernel
theorem dX5_readTable_69 : decode cX5_readTable 69 = .ok (.invokevirtual 117, 3) := by decide +kernel
theorem dX5_readTable_72 : decode cX5_readTable 72 = .ok (.ifCond .eq 42, 3) := by decide +kernel
theorem dX5_readTable_75 : decode cX5_readTable 75 = .ok (.aload_n 0, 1) := by decide +kernel
theorem dX5_readTable_76 : decode cX5_readTable 76 = .ok (.bipush 91, 2) := by decide +kernel
theorem dX5_readTable_78 : decode cX5_readTable 78 = .ok (.invokevirtual 117, 3) := by decide +kernel
theorem dX5_readTable_81 : decode cX5_readTable 81 = .ok (.ifCond .eq 33, 3) := by decide +kernel
theorem dX5_readTable_84 : decode cX5_readTable 84 = .ok (.aload_n 0, 1) := by decide +kernel
theorem dX5_readTable_85 : decode cX5_readTable 85 = .ok (.aload_n 1, 1) := by decide +kernel
theorem dX5_readTable_86 : decode cX5_readTable 86 = .ok (.invokevirtual 190, 3) := by decide +kernel
theorem dX5_readTable_89 : decode cX5_readTable 89 = .ok (.ifCond .eq 25, 3) := by decide +kernel
theorem dX5_readTable_92 : decode cX5_readTable 92 = .ok (.aload_n 0, 1) := by decide +kernel
theorem dX5_readTable_93 : decode cX5_readTable 93 = .ok (.bipush 93, 2) := by decide +kernel
theorem dX5_readTable_95 : decode cX5_readTable 95 = .ok (.invokevirtual 117, 3) := by decide +kernel
theorem dX5_readTable_98 : decode cX5_readTable 98 = .ok (.ifCond .eq 16, 3) := by decide +kernel
theorem dX5_readTable_101 : decode cX5_readTable 101 = .ok (.aload_n 0, 1) := by decide +kernel
theorem dX5_readTable_102 : decode cX5_readTable 102 = .ok (.bipush 59, 2) := by decide +kernel
theorem dX5_readTable_104 : decode cX5_readTable 104 = .ok (.invokevirtual 117, 3) := by decide +kernel
theorem dX5_readTable_107 : decode cX5_readTable 107 = .ok (.ifCond .eq 7, 3) := by decide +kernel
theorem dX5_readTable_110 : decode cX5_readTable 110 = .ok (.iconst 1, 1) := by decide +kernel
theorem dX5_readTable_111 : decode cX5_readTable 111 = .ok (.goto 4, 3) := by decide +kernel
theorem dX5_readTable_114 : decode cX5_readTable 114 = .ok (.iconst 0, 1) := by decide +kernel
theorem dX5_readTable_115 : decode cX5_readTable 115 = .ok (.ireturn, 1) := by decide +kernel
theorem dX5_readEntries_0 : decode cX5_readEntries 0 = .ok (.iconst 0, 1) := by decide +kernel
theorem dX5_readEntries_1 : decode cX5_readEntries 1 = .ok (.istore_n 2, 1) := by decide +kernel
theorem dX5_readEntries_2 : decode cX5_readEntries 2 = .ok (.iload_n 2, 1) := by decide +kernel
theorem dX5_readEntries_3 : decode cX5_readEntries 3 = .ok (.bipush 12, 2) := by decide +kernel
theorem dX5_readEntries_5 : decode cX5_readEntries 5 = .ok (.if_icmp .ge 60, 3) := by decide +kernel
theorem dX5_readEntries_8 : decode cX5_readEntries 8 = .ok (.aload_n 1, 1) := by decide +kernel
theorem dX5_readEntries_9 : decode cX5_readEntries 9 = .ok (.getfield 194, 3) := by decide +kernel
theorem dX5_readEntries_12 : decode cX5_readEntries 12 = .ok (.iload_n 2, 1) := by decide +kernel
theorem dX5_readEntries_13 : decode cX5_readEntries 13 = .ok (.aload_n 0, 1) := by decide +kernel
theorem dX5_readEntries_14 : decode cX5_readEntries 14 = .ok (.getfield 14, 3) := by decide +kernel
theorem dX5_readEntries_17 : decode cX5_readEntries 17 = .ok (.getfield 35, 3) := by decide +kernel
theorem dX5_readEntries_20 : decode cX5_readEntries 20 = .ok (.iastore, 1) := by decide +kernel
theorem dX5_readEntries_21 : decode cX5_readEntries 21 = .ok (.aload_n 1, 1) := by decide +kernel
theorem dX5_readEntries_22 : decode cX5_readEntries 22 = .ok (.dup, 1) := by decide +kernel
theorem dX5_readEntries_23 : decode cX5_readEntries 23 = .ok (.getfield 197, 3) := by decide +kernel
theorem dX5_readEntries_26 : decode cX5_readEntries 26 = .ok (.iconst 1, 1) := by decide +kernel
theorem dX5_readEntries_27 : decode cX5_readEntries 27 = .ok (.iadd, 1) := by decide +kernel
theorem dX5_readEntries_28 : decode cX5_readEntries 28 = .ok (.putfield 197, 3) := by decide +kernel
theorem dX5_readEntries_31 : decode cX5_readEntries 31 = .ok (.aload_n 0, 1) := by decide +kernel
theorem dX5_readEntries_32 : decode cX5_readEntries 32 = .ok (.iconst 0, 1) := by decide +kernel
theorem dX5_readEntries_33 : decode cX5_readEntries 33 = .ok (.invokevirtual 144, 3) := by decide +kernel
theorem dX5_readEntries_36 : decode cX5_readEntries 36 = .ok (.ifCond .ne 5, 3) := by decide +kernel
theorem dX5_readEntries_39 : decode cX5_readEntries 39 = .ok (.iconst 0, 1) := by decide +kernel
theorem dX5_readEntries_40 : decode cX5_readEntries 40 = .ok (.ireturn, 1) := by decide +kernel
theorem dX5_readEntries_41 : decode cX5_readEntries 41 = .ok (.aload_n 0, 1) := by decide +kernel
theorem dX5_readEntries_42 : decode cX5_readEntries 42 = .ok (.getfield 52, 3) := by decide +kernel
theorem dX5_readEntries_45 : decode cX5_readEntries 45 = .ok (.bipush 44, 2) := by decide +kernel
theorem dX5_readEntries_47 : decode cX5_readEntries 47 = .ok (.if_icmp .eq 5, 3) := by decide +kernel
theorem dX5_readEntries_50 : decode cX5_readEntries 50 = .ok (.iconst 1, 1) := by decide +kernel
theorem dX5_readEntries_51 : decode cX5_readEntries 51 = .ok (.ireturn, 1) := by decide +kernel
theorem dX5_readEntries_52 : decode cX5_readEntries 52 = .ok (.aload_n 0, 1) := by decide +kernel
theorem dX5_readEntries_53 : decode cX5_readEntries 53 = .ok (.bipush 44, 2) := by decide +kernel
theorem dX5_readEntries_55 : decode cX5_readEntries 55 = .ok (.invokevirtual 117, 3) := by decide +kernel
theorem dX5_readEntries_58 : decode cX5_readEntries 58 = .ok (.pop, 1) := by decide +kernel
theorem dX5_readEntries_59 : decode cX5_readEntries 59 = .ok (.iinc 2 1, 3) := by decide +kernel
theorem dX5_readEntries_62 : decode cX5_readEntries 62 = .ok (.goto (-60), 3) := by decide +kernel
theorem dX5_readEntries_65 : decode cX5_readEntries 65 = .ok (.aload_n 0, 1) := by decide +kernel
theorem dX5_readEntries_66 : decode cX5_readEntries 66 = .ok (.iconst 0, 1) := by decide +kernel
theorem dX5_readEntries_67 : decode cX5_readEntries 67 = .ok (.aload_n 0, 1) := by decide +kernel
theorem dX5_readEntries_68 : decode cX5_readEntries 68 = .ok (.invokevirtual 200, 3) := by decide +kernel
theorem dX5_readEntries_71 : decode cX5_readEntries 71 = .ok (.ifCond .eq 7, 3) := by decide +kernel
theorem dX5_readEntries_74 : decode cX5_readEntries 74 = .ok (.iconst 5, 1) := by decide +kernel
theorem dX5_readEntries_75 : decode cX5_readEntries 75 = .ok (.goto 4, 3) := by decide +kernel
theorem dX5_readEntries_78 : decode cX5_readEntries 78 = .ok (.iconst 2, 1) := by decide +kernel
theorem dX5_readEntries_79 : decode cX5_readEntries 79 = .ok (.invokevirtual 48, 3) := by decide +kernel
theorem dX5_readEntries_82 : decode cX5_readEntries 82 = .ok (.ireturn, 1) := by decide +kernel
theorem dX5_beginsPlainExpr_0 : decode cX5_beginsPlainExpr 0 = .ok (.aload_n 0, 1) := by decide +kernel
theorem dX5_beginsPlainExpr_1 : decode cX5_beginsPlainExpr 1 = .ok (.getfield 52, 3) := by decide +kernel
theorem dX5_beginsPlainExpr_4 : decode cX5_beginsPlainExpr 4 = .ok (.iconst 2, 1) := by decide +kernel
theorem dX5_beginsPlainExpr_5 : decode cX5_beginsPlainExpr 5 = .ok (.if_icmp .eq 38, 3) := by decide +kernel
theorem dX5_beginsPlainExpr_8 : decode cX5_beginsPlainExpr 8 = .ok (.aload_n 0, 1) := by decide +kernel
theorem dX5_beginsPlainExpr_9 : decode cX5_beginsPlainExpr 9 = .ok (.getfield 52, 3) := by decide +kernel
theorem dX5_beginsPlainExpr_12 : decode cX5_beginsPlainExpr 12 = .ok (.iconst 3, 1) := by decide +kernel
theorem dX5_beginsPlainExpr_13 : decode cX5_beginsPlainExpr 13 = .ok (.if_icmp .eq 30, 3) := by decide +kernel
theorem dX5_beginsPlainExpr_16 : decode cX5_beginsPlainExpr 16 = .ok (.aload_n 0, 1) := by decide +kernel
theorem dX5_beginsPlainExpr_17 : decode cX5_beginsPlainExpr 17 = .ok (.getfield 52, 3) := by decide +kernel
theorem dX5_beginsPlainExpr_20 : decode cX5_beginsPlainExpr 20 = .ok (.bipush 14, 2) := by decide +kernel
theorem dX5_beginsPlainExpr_22 : decode cX5_beginsPlainExpr 22 = .ok (.if_icmp .eq 21, 3) := by decide +kernel
theorem dX5_beginsPlainExpr_25 : decode cX5_beginsPlainExpr 25 = .ok (.aload_n 0, 1) := by decide +kernel
theorem dX5_beginsPlainExpr_26 : decode cX5_beginsPlainExpr 26 = .ok (.getfield 52, 3) := by decide +kernel
theorem dX5_beginsPlainExpr_29 : decode cX5_beginsPlainExpr 29 = .ok (.bipush 45, 2) := by decide +kernel
theorem dX5_beginsPlainExpr_31 : decode cX5_beginsPlainExpr 31 = .ok (.if_icmp .eq 12, 3) := by decide +kernel
theorem dX5_beginsPlainExpr_34 : decode cX5_beginsPlainExpr 34 = .ok (.aload_n 0, 1) := by decide +kernel
theorem dX5_beginsPlainExpr_35 : decode cX5_beginsPlainExpr 35 = .ok (.getfield 52, 3) := by decide +kernel
theorem dX5_beginsPlainExpr_38 : decode cX5_beginsPlainExpr 38 = .ok (.bipush 40, 2) := by decide +kernel
theorem dX5_beginsPlainExpr_40 : decode cX5_beginsPlainExpr 40 = .ok (.if_icmp .ne 7, 3) := by decide +kernel
theorem dX5_beginsPlainExpr_43 : decode cX5_beginsPlainExpr 43 = .ok (.iconst 1, 1) := by decide +kernel
theorem dX5_beginsPlainExpr_44 : decode cX5_beginsPlainExpr 44 = .ok (.goto 4, 3) := by decide +kernel
theorem dX5_beginsPlainExpr_47 : decode cX5_beginsPlainExpr 47 = .ok (.iconst 0, 1) := by decide +kernel
theorem dX5_beginsPlainExpr_48 : decode cX5_beginsPlainExpr 48 = .ok (.ireturn, 1) := by decide +kernel
theorem dX5_readCheck_0 : decode cX5_readCheck 0 = .ok (.aload_n 0, 1) := by decide +kernel
theorem dX5_readCheck_1 : decode cX5_readCheck 1 = .ok (.aload_n 0, 1) := by decide +kernel
theorem dX5_readCheck_2 : decode cX5_readCheck 2 = .ok (.getfield 106, 3) := by decide +kernel
theorem dX5_readCheck_5 : decode cX5_readCheck 5 = .ok (.getfield 203, 3) := by decide +kernel
theorem dX5_readCheck_8 : decode cX5_readCheck 8 = .ok (.iconst 3, 1) := by decide +kernel
theorem dX5_readCheck_9 : decode cX5_readCheck 9 = .ok (.if_icmp .ge 7, 3) := by decide +kernel
theorem dX5_readCheck_12 : decode cX5_readCheck 12 = .ok (.iconst 1, 1) := by decide +kernel
theorem dX5_readCheck_13 : decode cX5_readCheck 13 = .ok (.goto 4, 3) := by decide +kernel
theorem dX5_readCheck_16 : decode cX5_readCheck 16 = .ok (.iconst 0, 1) := by decide +kernel
theorem dX5_readCheck_17 : decode cX5_readCheck 17 = .ok (.iconst 5, 1) := by decide +kernel
theorem dX5_readCheck_18 : decode cX5_readCheck 18 = .ok (.invokevirtual 48, 3) := by decide +kernel
theorem dX5_readCheck_21 : decode cX5_readCheck 21 = .ok (.ifCond .ne 5, 3) := by decide +kernel
theorem dX5_readCheck_24 : decode cX5_readCheck 24 = .ok (.iconst 0, 1) := by decide +kernel
theorem dX5_readCheck_25 : decode cX5_readCheck 25 = .ok (.ireturn, 1) := by decide +kernel
theorem dX5_readCheck_26 : decode cX5_readCheck 26 = .ok (.aload_n 0, 1) := by decide +kernel
theorem dX5_readCheck_27 : decode cX5_readCheck 27 = .ok (.getfield 106, 3) := by decide +kernel
theorem dX5_readCheck_30 : decode cX5_readCheck 30 = .ok (.getfield 206, 3) := by decide +kernel
theorem dX5_readCheck_33 : decode cX5_readCheck 33 = .ok (.aload_n 0, 1) := by decide +kernel
theorem dX5_readCheck_34 : decode cX5_readCheck 34 = .ok (.getfield 106, 3) := by decide +kernel
theorem dX5_readCheck_37 : decode cX5_readCheck 37 = .ok (.getfield 203, 3) := by decide +kernel
theorem dX5_readCheck_40 : decode cX5_readCheck 40 = .ok (.aload_n 0, 1) := by decide +kernel
theorem dX5_readCheck_41 : decode cX5_readCheck 41 = .ok (.getfield 14, 3) := by decide +kernel
theorem dX5_readCheck_44 : decode cX5_readCheck 44 = .ok (.getfield 35, 3) := by decide +kernel
theorem dX5_readCheck_47 : decode cX5_readCheck 47 = .ok (.iastore, 1) := by decide +kernel
theorem dX5_readCheck_48 : decode cX5_readCheck 48 = .ok (.aload_n 0, 1) := by decide +kernel
theorem dX5_readCheck_49 : decode cX5_readCheck 49 = .ok (.getfield 106, 3) := by decide +kernel
theorem dX5_readCheck_52 : decode cX5_readCheck 52 = .ok (.dup, 1) := by decide +kernel
theorem dX5_readCheck_53 : decode cX5_readCheck 53 = .ok (.getfield 203, 3) := by decide +kernel
theorem dX5_readCheck_56 : decode cX5_readCheck 56 = .ok (.iconst 1, 1) := by decide +kernel
theorem dX5_readCheck_57 : decode cX5_readCheck 57 = .ok (.iadd, 1) := by decide +kernel
theorem dX5_readCheck_58 : decode cX5_readCheck 58 = .ok (.putfield 203, 3) := by decide +kernel
theorem dX5_readCheck_61 : decode cX5_readCheck 61 = .ok (.aload_n 0, 1) := by decide +kernel
theorem dX5_readCheck_62 : decode cX5_readCheck 62 = .ok (.iconst 0, 1) := by decide +kernel
theorem dX5_readCheck_63 : decode cX5_readCheck 63 = .ok (.invokevirtual 144, 3) := by decide +kernel
theorem dX5_readCheck_66 : decode cX5_readCheck 66 = .ok (.ifCond .eq 16, 3) := by decide +kernel
theorem dX5_readCheck_69 : decode cX5_readCheck 69 = .ok (.aload_n 0, 1) := by decide +kernel
theorem dX5_readCheck_70 : decode cX5_readCheck 70 = .ok (.bipush 59, 2) := by decide +kernel
theorem dX5_readCheck_72 : decode cX5_readCheck 72 = .ok (.invokevirtual 117, 3) := by decide +kernel
theorem dX5_readCheck_75 : decode cX5_readCheck 75 = .ok (.ifCond .eq 7, 3) := by decide +kernel
theorem dX5_readCheck_78 : decode cX5_readCheck 78 = .ok (.iconst 1, 1) := by decide +kernel
theorem dX5_readCheck_79 : decode cX5_readCheck 79 = .ok (.goto 4, 3) := by decide +kernel
theorem dX5_readCheck_82 : decode cX5_readCheck 82 = .ok (.iconst 0, 1) := by decide +kernel
theorem dX5_readCheck_83 : decode cX5_readCheck 83 = .ok (.ireturn, 1) := by decide +kernel
theorem dX5_readHolder_0 : decode cX5_readHolder 0 = .ok (.aload_n 0, 1) := by decide +kernel
theorem dX5_readHolder_1 : decode cX5_readHolder 1 = .ok (.aload_n 0, 1) := by decide +kernel
theorem dX5_readHolder_2 : decode cX5_readHolder 2 = .ok (.getfield 106, 3) := by decide +kernel
theorem dX5_readHolder_5 : decode cX5_readHolder 5 = .ok (.getfield 209, 3) := by decide +kernel
theorem dX5_readHolder_8 : decode cX5_readHolder 8 = .ok (.iconst 4, 1) := by decide +kernel
theorem dX5_readHolder_9 : decode cX5_readHolder 9 = .ok (.if_icmp .ge 7, 3) := by decide +kernel
theorem dX5_readHolder_12 : decode cX5_readHolder 12 = .ok (.iconst 1, 1) := by decide +kernel
theorem dX5_readHolder_13 : decode cX5_readHolder 13 = .ok (.goto 4, 3) := by decide +kernel
theorem dX5_readHolder_16 : decode cX5_readHolder 16 = .ok (.iconst 0, 1) := by decide +kernel
theorem dX5_readHolder_17 : decode cX5_readHolder 17 = .ok (.invokevirtual 179, 3) := by decide +kernel
theorem dX5_readHolder_20 : decode cX5_readHolder 20 = .ok (.ifCond .ne 5, 3) := by decide +kernel
theorem dX5_readHolder_23 : decode cX5_readHolder 23 = .ok (.iconst 0, 1) := by decide +kernel
theorem dX5_readHolder_24 : decode cX5_readHolder 24 = .ok (.ireturn, 1) := by decide +kernel
theorem dX5_readHolder_25 : decode cX5_readHolder 25 = .ok (.aload_n 0, 1) := by decide +kernel
theorem dX5_readHolder_26 : decode cX5_readHolder 26 = .ok (.getfield 106, 3) := by decide +kernel
theorem dX5_readHolder_29 : decode cX5_readHolder 29 = .ok (.getfield 212, 3) := by decide +kernel
theorem dX5_readHolder_32 : decode cX5_readHolder 32 = .ok (.aload_n 0, 1) := by decide +kernel
theorem dX5_readHolder_33 : decode cX5_readHolder 33 = .ok (.getfield 106, 3) := by decide +kernel
theorem dX5_readHolder_36 : decode cX5_readHolder 36 = .ok (.getfield 209, 3) := by decide +kernel
theorem dX5_readHolder_39 : decode cX5_readHolder 39 = .ok (.aload_n 0, 1) := by decide +kernel
theorem dX5_readHolder_40 : decode cX5_readHolder 40 = .ok (.getfield 100, 3) := by decide +kernel
theorem dX5_readHolder_43 : decode cX5_readHolder 43 = .ok (.lastore, 1) := by decide +kernel
theorem dX5_readHolder_44 : decode cX5_readHolder 44 = .ok (.aload_n 0, 1) := by decide +kernel
theorem dX5_readHolder_45 : decode cX5_readHolder 45 = .ok (.getfield 106, 3) := by decide +kernel
theorem dX5_readHolder_48 : decode cX5_readHolder 48 = .ok (.getfield 215, 3) := by decide +kernel
theorem dX5_readHolder_51 : decode cX5_readHolder 51 = .ok (.aload_n 0, 1) := by decide +kernel
theorem dX5_readHolder_52 : decode cX5_readHolder 52 = .ok (.getfield 106, 3) := by decide +kernel
theorem dX5_readHolder_55 : decode cX5_readHolder 55 = .ok (.getfield 209, 3) := by decide +kernel
theorem dX5_readHolder_58 : decode cX5_readHolder 58 = .ok (.aload_n 0, 1) := by decide +kernel
theorem dX5_readHolder_59 : decode cX5_readHolder 59 = .ok (.getfield 14, 3) := by decide +kernel
theorem dX5_readHolder_62 : decode cX5_readHolder 62 = .ok (.getfield 35, 3) := by decide +kernel
theorem dX5_readHolder_65 : decode cX5_readHolder 65 = .ok (.iastore, 1) := by decide +kernel
theorem dX5_readHolder_66 : decode cX5_readHolder 66 = .ok (.aload_n 0, 1) := by decide +kernel
theorem dX5_readHolder_67 : decode cX5_readHolder 67 = .ok (.getfield 106, 3) := by decide +kernel
theorem dX5_readHolder_70 : decode cX5_readHolder 70 = .ok (.dup, 1) := by decide +kernel
theorem dX5_readHolder_71 : decode cX5_readHolder 71 = .ok (.getfield 209, 3) := by decide +kernel
theorem dX5_readHolder_74 : decode cX5_readHolder 74 = .ok (.iconst 1, 1) := by decide +kernel
theorem dX5_readHolder_75 : decode cX5_readHolder 75 = .ok (.iadd, 1) := by decide +kernel
theorem dX5_readHolder_76 : decode cX5_readHolder 76 = .ok (.putfield 209, 3) := by decide +kernel
theorem dX5_readHolder_79 : decode cX5_readHolder 79 = .ok (.aload_n 0, 1) := by decide +kernel
theorem dX5_readHolder_80 : decode cX5_readHolder 80 = .ok (.bipush 61, 2) := by decide +kernel
theorem dX5_readHolder_82 : decode cX5_readHolder 82 = .ok (.invokevirtual 117, 3) := by decide +kernel
theorem dX5_readHolder_85 : decode cX5_readHolder 85 = .ok (.ifCond .eq 24, 3) := by decide +kernel
theorem dX5_readHolder_88 : decode cX5_readHolder 88 = .ok (.aload_n 0, 1) := by decide +kernel
theorem dX5_readHolder_89 : decode cX5_readHolder 89 = .ok (.iconst 0, 1) := by decide +kernel
theorem dX5_readHolder_90 : decode cX5_readHolder 90 = .ok (.invokevirtual 144, 3) := by decide +kernel
theorem dX5_readHolder_93 : decode cX5_readHolder 93 = .ok (.ifCond .eq 16, 3) := by decide +kernel
theorem dX5_readHolder_96 : decode cX5_readHolder 96 = .ok (.aload_n 0, 1) := by decide +kernel
theorem dX5_readHolder_97 : decode cX5_readHolder 97 = .ok (.bipush 59, 2) := by decide +kernel
theorem dX5_readHolder_99 : decode cX5_readHolder 99 = .ok (.invokevirtual 117, 3) := by decide +kernel
theorem dX5_readHolder_102 : decode cX5_readHolder 102 = .ok (.ifCond .eq 7, 3) := by decide +kernel
theorem dX5_readHolder_105 : decode cX5_readHolder 105 = .ok (.iconst 1, 1) := by decide +kernel
theorem dX5_readHolder_106 : decode cX5_readHolder 106 = .ok (.goto 4, 3) := by decide +kernel
theorem dX5_readHolder_109 : decode cX5_readHolder 109 = .ok (.iconst 0, 1) := by decide +kernel
theorem dX5_readHolder_110 : decode cX5_readHolder 110 = .ok (.ireturn, 1) := by decide +kernel
theorem dX5_readSwitch_0 : decode cX5_readSwitch 0 = .ok (.aload_n 0, 1) := by decide +kernel
theorem dX5_readSwitch_1 : decode cX5_readSwitch 1 = .ok (.aload_n 0, 1) := by decide +kernel
theorem dX5_readSwitch_2 : decode cX5_readSwitch 2 = .ok (.getfield 106, 3) := by decide +kernel
theorem dX5_readSwitch_5 : decode cX5_readSwitch 5 = .ok (.getfield 218, 3) := by decide +kernel
theorem dX5_readSwitch_8 : decode cX5_readSwitch 8 = .ok (.iconst 3, 1) := by decide +kernel
theorem dX5_readSwitch_9 : decode cX5_readSwitch 9 = .ok (.if_icmp .ge 7, 3) := by decide +kernel
theorem dX5_readSwitch_12 : decode cX5_readSwitch 12 = .ok (.iconst 1, 1) := by decide +kernel
theorem dX5_readSwitch_13 : decode cX5_readSwitch 13 = .ok (.goto 4, 3) := by decide +kernel
theorem dX5_readSwitch_16 : decode cX5_readSwitch 16 = .ok (.iconst 0, 1) := by decide +kernel
theorem dX5_readSwitch_17 : decode cX5_readSwitch 17 = .ok (.invokevirtual 179, 3) := by decide +kernel
theorem dX5_readSwitch_20 : decode cX5_readSwitch 20 = .ok (.ifCond .ne 5, 3) := by decide +kernel
theorem dX5_readSwitch_23 : decode cX5_readSwitch 23 = .ok (.iconst 0, 1) := by decide +kernel
theorem dX5_readSwitch_24 : decode cX5_readSwitch 24 = .ok (.ireturn, 1) := by decide +kernel
theorem dX5_readSwitch_25 : decode cX5_readSwitch 25 = .ok (.new 221, 3) := by decide +kernel
theorem dX5_readSwitch_28 : decode cX5_readSwitch 28 = .ok (.dup, 1) := by decide +kernel
theorem dX5_readSwitch_29 : decode cX5_readSwitch 29 = .ok (.aload_n 0, 1) := by decide +kernel
theorem dX5_readSwitch_30 : decode cX5_readSwitch 30 = .ok (.getfield 100, 3) := by decide +kernel
theorem dX5_readSwitch_33 : decode cX5_readSwitch 33 = .ok (.invokespecial 223, 3) := by decide +kernel
theorem dX5_readSwitch_36 : decode cX5_readSwitch 36 = .ok (.astore_n 1, 1) := by decide +kernel
theorem dX5_readSwitch_37 : decode cX5_readSwitch 37 = .ok (.aload_n 0, 1) := by decide +kernel
theorem dX5_readSwitch_38 : decode cX5_readSwitch 38 = .ok (.getfield 106, 3) := by decide +kernel
theorem dX5_readSwitch_41 : decode cX5_readSwitch 41 = .ok (.getfield 224, 3) := by decide +kernel
theorem dX5_readSwitch_44 : decode cX5_readSwitch 44 = .ok (.aload_n 0, 1) := by decide +kernel
theorem dX5_readSwitch_45 : decode cX5_readSwitch 45 = .ok (.getfield 106, 3) := by decide +kernel
theorem dX5_readSwitch_48 : decode cX5_readSwitch 48 = .ok (.getfield 218, 3) := by decide +kernel
theorem dX5_readSwitch_51 : decode cX5_readSwitch 51 = .ok (.aload_n 1, 1) := by decide +kernel
theorem dX5_readSwitch_52 : decode cX5_readSwitch 52 = .ok (.aastore, 1) := by decide +kernel
theorem dX5_readSwitch_53 : decode cX5_readSwitch 53 = .ok (.aload_n 0, 1) := by decide +kernel
theorem dX5_readSwitch_54 : decode cX5_readSwitch 54 = .ok (.getfield 106, 3) := by decide +kernel
theorem dX5_readSwitch_57 : decode cX5_readSwitch 57 = .ok (.dup, 1) := by decide +kernel
theorem dX5_readSwitch_58 : decode cX5_readSwitch 58 = .ok (.getfield 218, 3) := by decide +kernel
theorem dX5_readSwitch_61 : decode cX5_readSwitch 61 = .ok (.iconst 1, 1) := by decide +kernel
theorem dX5_readSwitch_62 : decode cX5_readSwitch 62 = .ok (.iadd, 1) := by decide +kernel
theorem dX5_readSwitch_63 : decode cX5_readSwitch 63 = .ok (.putfield 218, 3) := by decide +kernel
theorem dX5_readSwitch_66 : decode cX5_readSwitch 66 = .ok (.aload_n 0, 1) := by decide +kernel
theorem dX5_readSwitch_67 : decode cX5_readSwitch 67 = .ok (.bipush 123, 2) := by decide +kernel
theorem dX5_readSwitch_69 : decode cX5_readSwitch 69 = .ok (.invokevirtual 117, 3) := by decide +kernel
theorem dX5_readSwitch_72 : decode cX5_readSwitch 72 = .ok (.istore_n 2, 1) := by decide +kernel
theorem dX5_readSwitch_73 : decode cX5_readSwitch 73 = .ok (.iconst 0, 1) := by decide +kernel
theorem dX5_readSwitch_74 : decode cX5_readSwitch 74 = .ok (.istore_n 3, 1) := by decide +kernel
theorem dX5_readSwitch_75 : decode cX5_readSwitch 75 = .ok (.iload_n 3, 1) := by decide +kernel
theorem dX5_readSwitch_76 : decode cX5_readSwitch 76 = .ok (.bipush 12, 2) := by decide +kernel
theorem dX5_readSwitch_78 : decode cX5_readSwitch 78 = .ok (.if_icmp .gt 28, 3) := by decide +kernel
theorem dX5_readSwitch_81 : decode cX5_readSwitch 81 = .ok (.iload_n 2, 1) := by decide +kernel
theorem dX5_readSwitch_82 : decode cX5_readSwitch 82 = .ok (.ifCond .eq 24, 3) := by decide +kernel
theorem dX5_readSwitch_85 : decode cX5_readSwitch 85 = .ok (.aload_n 0, 1) := by decide +kernel
theorem dX5_readSwitch_86 : decode cX5_readSwitch 86 = .ok (.getfield 52, 3) := by decide +kernel
theorem dX5_readSwitch_89 : decode cX5_readSwitch 89 = .ok (.bipush 10, 2) := by decide +kernel
theorem dX5_readSwitch_91 : decode cX5_readSwitch 91 = .ok (.if_icmp .ne 15, 3) := by decide +kernel
theorem dX5_readSwitch_94 : decode cX5_readSwitch 94 = .ok (.aload_n 0, 1) := by decide +kernel
theorem dX5_readSwitch_95 : decode cX5_readSwitch 95 = .ok (.aload_n 1, 1) := by decide +kernel
theorem dX5_readSwitch_96 : decode cX5_readSwitch 96 = .ok (.invokevirtual 228, 3) := by decide +kernel
theorem dX5_readSwitch_99 : decode cX5_readSwitch 99 = .ok (.istore_n 2, 1) := by decide +kernel
theorem dX5_readSwitch_100 : decode cX5_readSwitch 100 = .ok (.iinc 3 1, 3) := by decide +kernel
theorem dX5_readSwitch_103 : decode cX5_readSwitch 103 = .ok (.goto (-28), 3) := by decide +kernel
theorem dX5_readSwitch_106 : decode cX5_readSwitch 106 = .ok (.iload_n 2, 1) := by decide +kernel
theorem dX5_readSwitch_107 : decode cX5_readSwitch 107 = .ok (.ifCond .eq 21, 3) := by decide +kernel
theorem dX5_readSwitch_110 : decode cX5_readSwitch 110 = .ok (.aload_n 0, 1) := by decide +kernel
theorem dX5_readSwitch_111 : decode cX5_readSwitch 111 = .ok (.bipush 11, 2) := by decide +kernel
theorem dX5_readSwitch_113 : decode cX5_readSwitch 113 = .ok (.invokevirtual 117, 3) := by decide +kernel
theorem dX5_readSwitch_116 : decode cX5_readSwitch 116 = .ok (.ifCond .eq 12, 3) := by decide +kernel
theorem dX5_readSwitch_119 : decode cX5_readSwitch 119 = .ok (.aload_n 0, 1) := by decide +kernel
theorem dX5_readSwitch_120 : decode cX5_readSwitch 120 = .ok (.bipush 58, 2) := by decide +kernel
theorem dX5_readSwitch_122 : decode cX5_readSwitch 122 = .ok (.invokevirtual 117, 3) := by decide +kernel
theorem dX5_readSwitch_125 : decode cX5_readSwitch 125 = .ok (.ifCond .ne 5, 3) := by decide +kernel
theorem dX5_readSwitch_128 : decode cX5_readSwitch 128 = .ok (.iconst 0, 1) := by decide +kernel
theorem dX5_readSwitch_129 : decode cX5_readSwitch 129 = .ok (.ireturn, 1) := by decide +kernel
theorem dX5_readSwitch_130 : decode cX5_readSwitch 130 = .ok (.aload_n 1, 1) := by decide +kernel
theorem dX5_readSwitch_131 : decode cX5_readSwitch 131 = .ok (.aload_n 0, 1) := by decide +kernel
theorem dX5_readSwitch_132 : decode cX5_readSwitch 132 = .ok (.getfield 14, 3) := by decide +kernel
theorem dX5_readSwitch_135 : decode cX5_readSwitch 135 = .ok (.getfield 35, 3) := by decide +kernel
theorem dX5_readSwitch_138 : decode cX5_readSwitch 138 = .ok (.putfield 232, 3) := by decide +kernel
theorem dX5_readSwitch_141 : decode cX5_readSwitch 141 = .ok (.aload_n 0, 1) := by decide +kernel
theorem dX5_readSwitch_142 : decode cX5_readSwitch 142 = .ok (.iconst 0, 1) := by decide +kernel
theorem dX5_readSwitch_143 : decode cX5_readSwitch 143 = .ok (.invokevirtual 144, 3) := by decide +kernel
theorem dX5_readSwitch_146 : decode cX5_readSwitch 146 = .ok (.ifCond .eq 25, 3) := by decide +kernel
theorem dX5_readSwitch_149 : decode cX5_readSwitch 149 = .ok (.aload_n 0, 1) := by decide +kernel
theorem dX5_readSwitch_150 : decode cX5_readSwitch 150 = .ok (.bipush 59, 2) := by decide +kernel
theorem dX5_readSwitch_152 : decode cX5_readSwitch 152 = .ok (.invokevirtual 117, 3) := by decide +kernel
theorem dX5_readSwitch_155 : decode cX5_readSwitch 155 = .ok (.ifCond .eq 16, 3) := by decide +kernel
theorem dX5_readSwitch_158 : decode cX5_readSwitch 158 = .ok (.aload_n 0, 1) := by decide +kernel
theorem dX5_readSwitch_159 : decode cX5_readSwitch 159 = .ok (.bipush 125, 2) := by decide +kernel
theorem dX5_readSwitch_161 : decode cX5_readSwitch 161 = .ok (.invokevirtual 117, 3) := by decide +kernel
theorem dX5_readSwitch_164 : decode cX5_readSwitch 164 = .ok (.ifCond .eq 7, 3) := by decide +kernel
theorem dX5_readSwitch_167 : decode cX5_readSwitch 167 = .ok (.iconst 1, 1) := by decide +kernel
theorem dX5_readSwitch_168 : decode cX5_readSwitch 168 = .ok (.goto 4, 3) := by decide +kernel
theorem dX5_readSwitch_171 : decode cX5_readSwitch 171 = .ok (.iconst 0, 1) := by decide +kernel
theorem dX5_readSwitch_172 : decode cX5_readSwitch 172 = .ok (.ireturn, 1) := by decide +kernel
theorem dX5_readCase_0 : decode cX5_readCase 0 = .ok (.aload_n 0, 1) := by decide +kernel
theorem dX5_readCase_1 : decode cX5_readCase 1 = .ok (.aload_n 1, 1) := by decide +kernel
theorem dX5_readCase_2 : decode cX5_readCase 2 = .ok (.getfield 235, 3) := by decide +kernel
theorem dX5_readCase_5 : decode cX5_readCase 5 = .ok (.bipush 12, 2) := by decide +kernel
theorem dX5_readCase_7 : decode cX5_readCase 7 = .ok (.if_icmp .ge 7, 3) := by decide +kernel
theorem dX5_readCase_10 : decode cX5_readCase 10 = .ok (.iconst 1, 1) := by decide +kernel
theorem dX5_readCase_11 : decode cX5_readCase 11 = .ok (.goto 4, 3) := by decide +kernel
theorem dX5_readCase_14 : decode cX5_readCase 14 = .ok (.iconst 0, 1) := by decide +kernel
theorem dX5_readCase_15 : decode cX5_readCase 15 = .ok (.iconst 5, 1) := by decide +kernel
theorem dX5_readCase_16 : decode cX5_readCase 16 = .ok (.invokevirtual 48, 3) := by decide +kernel
theorem dX5_readCase_19 : decode cX5_readCase 19 = .ok (.ifCond .ne 5, 3) := by decide +kernel
theorem dX5_readCase_22 : decode cX5_readCase 22 = .ok (.iconst 0, 1) := by decide +kernel
theorem dX5_readCase_23 : decode cX5_readCase 23 = .ok (.ireturn, 1) := by decide +kernel
theorem dX5_readCase_24 : decode cX5_readCase 24 = .ok (.aload_n 0, 1) := by decide +kernel
theorem dX5_readCase_25 : decode cX5_readCase 25 = .ok (.getfield 45, 3) := by decide +kernel
theorem dX5_readCase_28 : decode cX5_readCase 28 = .ok (.istore_n 2, 1) := by decide +kernel
theorem dX5_readCase_29 : decode cX5_readCase 29 = .ok (.aload_n 0, 1) := by decide +kernel
theorem dX5_readCase_30 : decode cX5_readCase 30 = .ok (.aload_n 1, 1) := by decide +kernel
theorem dX5_readCase_31 : decode cX5_readCase 31 = .ok (.aload_n 0, 1) := by decide +kernel
theorem dX5_readCase_32 : decode cX5_readCase 32 = .ok (.getfield 86, 3) := by decide +kernel
theorem dX5_readCase_35 : decode cX5_readCase 35 = .ok (.invokevirtual 238, 3) := by decide +kernel
theorem dX5_readCase_38 : decode cX5_readCase 38 = .ok (.iconst 1, 1) := by decide +kernel
theorem dX5_readCase_39 : decode cX5_readCase 39 = .ok (.invokevirtual 94, 3) := by decide +kernel
theorem dX5_readCase_42 : decode cX5_readCase 42 = .ok (.ifCond .ne 5, 3) := by decide +kernel
theorem dX5_readCase_45 : decode cX5_readCase 45 = .ok (.iconst 0, 1) := by decide +kernel
theorem dX5_readCase_46 : decode cX5_readCase 46 = .ok (.ireturn, 1) := by decide +kernel
theorem dX5_readCase_47 : decode cX5_readCase 47 = .ok (.aload_n 1, 1) := by decide +kernel
theorem dX5_readCase_48 : decode cX5_readCase 48 = .ok (.getfield 241, 3) := by decide +kernel
theorem dX5_readCase_51 : decode cX5_readCase 51 = .ok (.aload_n 1, 1) := by decide +kernel
theorem dX5_readCase_52 : decode cX5_readCase 52 = .ok (.getfield 235, 3) := by decide +kernel
theorem dX5_readCase_55 : decode cX5_readCase 55 = .ok (.aload_n 0, 1) := by decide +kernel
theorem dX5_readCase_56 : decode cX5_readCase 56 = .ok (.getfield 100, 3) := by decide +kernel
theorem dX5_readCase_59 : decode cX5_readCase 59 = .ok (.lastore, 1) := by decide +kernel
theorem dX5_readCase_60 : decode cX5_readCase 60 = .ok (.aload_n 1, 1) := by decide +kernel
theorem dX5_readCase_61 : decode cX5_readCase 61 = .ok (.getfield 244, 3) := by decide +kernel
theorem dX5_readCase_64 : decode cX5_readCase 64 = .ok (.aload_n 1, 1) := by decide +kernel
theorem dX5_readCase_65 : decode cX5_readCase 65 = .ok (.getfield 235, 3) := by decide +kernel
theorem dX5_readCase_68 : decode cX5_readCase 68 = .ok (.aload_n 0, 1) := by decide +kernel
theorem dX5_readCase_69 : decode cX5_readCase 69 = .ok (.getfield 14, 3) := by decide +kernel
theorem dX5_readCase_72 : decode cX5_readCase 72 = .ok (.getfield 35, 3) := by decide +kernel
theorem dX5_readCase_75 : decode cX5_readCase 75 = .ok (.iastore, 1) := by decide +kernel
theorem dX5_readCase_76 : decode cX5_readCase 76 = .ok (.aload_n 1, 1) := by decide +kernel
theorem dX5_readCase_77 : decode cX5_readCase 77 = .ok (.dup, 1) := by decide +kernel
theorem dX5_readCase_78 : decode cX5_readCase 78 = .ok (.getfield 235, 3) := by decide +kernel
theorem dX5_readCase_81 : decode cX5_readCase 81 = .ok (.iconst 1, 1) := by decide +kernel
theorem dX5_readCase_82 : decode cX5_readCase 82 = .ok (.iadd, 1) := by decide +kernel
theorem dX5_readCase_83 : decode cX5_readCase 83 = .ok (.putfield 235, 3) := by decide +kernel
theorem dX5_readCase_86 : decode cX5_readCase 86 = .ok (.aload_n 0, 1) := by decide +kernel
theorem dX5_readCase_87 : decode cX5_readCase 87 = .ok (.getfield 14, 3) := by decide +kernel
theorem dX5_readCase_90 : decode cX5_readCase 90 = .ok (.bipush 14, 2) := by decide +kernel
theorem dX5_readCase_92 : decode cX5_readCase 92 = .ok (.iload_n 2, 1) := by decide +kernel
theorem dX5_readCase_93 : decode cX5_readCase 93 = .ok (.invokevirtual 247, 3) := by decide +kernel
theorem dX5_readCase_96 : decode cX5_readCase 96 = .ok (.aload_n 0, 1) := by decide +kernel
theorem dX5_readCase_97 : decode cX5_readCase 97 = .ok (.bipush 58, 2) := by decide +kernel
theorem dX5_readCase_99 : decode cX5_readCase 99 = .ok (.invokevirtual 117, 3) := by decide +kernel
theorem dX5_readCase_102 : decode cX5_readCase 102 = .ok (.ifCond .eq 24, 3) := by decide +kernel
theorem dX5_readCase_105 : decode cX5_readCase 105 = .ok (.aload_n 0, 1) := by decide +kernel
theorem dX5_readCase_106 : decode cX5_readCase 106 = .ok (.iconst 0, 1) := by decide +kernel
theorem dX5_readCase_107 : decode cX5_readCase 107 = .ok (.invokevirtual 144, 3) := by decide +kernel
theorem dX5_readCase_110 : decode cX5_readCase 110 = .ok (.ifCond .eq 16, 3) := by decide +kernel
theorem dX5_readCase_113 : decode cX5_readCase 113 = .ok (.aload_n 0, 1) := by decide +kernel
theorem dX5_readCase_114 : decode cX5_readCase 114 = .ok (.bipush 59, 2) := by decide +kernel
theorem dX5_readCase_116 : decode cX5_readCase 116 = .ok (.invokevirtual 117, 3) := by decide +kernel
theorem dX5_readCase_119 : decode cX5_readCase 119 = .ok (.ifCond .eq 7, 3) := by decide +kernel
theorem dX5_readCase_122 : decode cX5_readCase 122 = .ok (.iconst 1, 1) := by decide +kernel
theorem dX5_readCase_123 : decode cX5_readCase 123 = .ok (.goto 4, 3) := by decide +kernel
theorem dX5_readCase_126 : decode cX5_readCase 126 = .ok (.iconst 0, 1) := by decide +kernel
theorem dX5_readCase_127 : decode cX5_readCase 127 = .ok (.ireturn, 1) := by decide +kernel
theorem dX5_readSum_0 : decode cX5_readSum 0 = .ok (.iconst 0, 1) := by decide +kernel
theorem dX5_readSum_1 : decode cX5_readSum 1 = .ok (.istore_n 2, 1) := by decide +kernel
theorem dX5_readSum_2 : decode cX5_readSum 2 = .ok (.iconst 0, 1) := by decide +kernel
theorem dX5_readSum_3 : decode cX5_readSum 3 = .ok (.istore_n 3, 1) := by decide +kernel
theorem dX5_readSum_4 : decode cX5_readSum 4 = .ok (.iconst 1, 1) := by decide +kernel
theorem dX5_readSum_5 : decode cX5_readSum 5 = .ok (.istore 4, 2) := by decide +kernel
theorem dX5_readSum_7 : decode cX5_readSum 7 = .ok (.iconst 0, 1) := by decide +kernel
theorem dX5_readSum_8 : decode cX5_readSum 8 = .ok (.istore 5, 2) := by decide +kernel
theorem dX5_readSum_10 : decode cX5_readSum 10 = .ok (.iload 5, 2) := by decide +kernel
theorem dX5_readSum_12 : decode cX5_readSum 12 = .ok (.sipush 3000, 3) := by decide +kernel
theorem dX5_readSum_15 : decode cX5_readSum 15 = .ok (.if_icmp .ge 94, 3) := by decide +kernel
theorem dX5_readSum_18 : decode cX5_readSum 18 = .ok (.iload 4, 2) := by decide +kernel
theorem dX5_readSum_20 : decode cX5_readSum 20 = .ok (.ifCond .eq 89, 3) := by decide +kernel
theorem dX5_readSum_23 : decode cX5_readSum 23 = .ok (.aload_n 0, 1) := by decide +kernel
theorem dX5_readSum_24 : decode cX5_readSum 24 = .ok (.iload_n 1, 1) := by decide +kernel
theorem dX5_readSum_25 : decode cX5_readSum 25 = .ok (.invokevirtual 251, 3) := by decide +kernel
theorem dX5_readSum_28 : decode cX5_readSum 28 = .ok (.ifCond .ne 5, 3) := by decide +kernel
theorem dX5_readSum_31 : decode cX5_readSum 31 = .ok (.iconst 0, 1) := by decide +kernel
theorem dX5_readSum_32 : decode cX5_readSum 32 = .ok (.ireturn, 1) := by decide +kernel
theorem dX5_readSum_33 : decode cX5_readSum 33 = .ok (.iload_n 3, 1) := by decide +kernel
theorem dX5_readSum_34 : decode cX5_readSum 34 = .ok (.ifCond .eq 12, 3) := by decide +kernel
theorem dX5_readSum_37 : decode cX5_readSum 37 = .ok (.aload_n 0, 1) := by decide +kernel
theorem dX5_readSum_38 : decode cX5_readSum 38 = .ok (.getfield 14, 3) := by decide +kernel
theorem dX5_readSum_41 : decode cX5_readSum 41 = .ok (.iload_n 3, 1) := by decide +kernel
theorem dX5_readSum_42 : decode cX5_readSum 42 = .ok (.iconst 0, 1) := by decide +kernel
theorem dX5_readSum_43 : decode cX5_readSum 43 = .ok (.invokevirtual 247, 3) := by decide +kernel
theorem dX5_readSum_46 : decode cX5_readSum 46 = .ok (.aload_n 0, 1) := by decide +kernel
theorem dX5_readSum_47 : decode cX5_readSum 47 = .ok (.getfield 52, 3) := by decide +kernel
theorem dX5_readSum_50 : decode cX5_readSum 50 = .ok (.invokestatic 254, 3) := by decide +kernel
theorem dX5_readSum_53 : decode cX5_readSum 53 = .ok (.istore_n 3, 1) := by decide +kernel
theorem dX5_readSum_54 : decode cX5_readSum 54 = .ok (.iload_n 3, 1) := by decide +kernel
theorem dX5_readSum_55 : decode cX5_readSum 55 = .ok (.ifCond .ne 24, 3) := by decide +kernel
theorem dX5_readSum_58 : decode cX5_readSum 58 = .ok (.iload_n 2, 1) := by decide +kernel
theorem dX5_readSum_59 : decode cX5_readSum 59 = .ok (.ifCond .eq 12, 3) := by decide +kernel
theorem dX5_readSum_62 : decode cX5_readSum 62 = .ok (.aload_n 0, 1) := by decide +kernel
theorem dX5_readSum_63 : decode cX5_readSum 63 = .ok (.getfield 14, 3) := by decide +kernel
theorem dX5_readSum_66 : decode cX5_readSum 66 = .ok (.iload_n 2, 1) := by decide +kernel
theorem dX5_readSum_67 : decode cX5_readSum 67 = .ok (.iconst 0, 1) := by decide +kernel
theorem dX5_readSum_68 : decode cX5_readSum 68 = .ok (.invokevirtual 247, 3) := by decide +kernel
theorem dX5_readSum_71 : decode cX5_readSum 71 = .ok (.aload_n 0, 1) := by decide +kernel
theorem dX5_readSum_72 : decode cX5_readSum 72 = .ok (.getfield 52, 3) := by decide +kernel
theorem dX5_readSum_75 : decode cX5_readSum 75 = .ok (.invokestatic 258, 3) := by decide +kernel
theorem dX5_readSum_78 : decode cX5_readSum 78 = .ok (.istore_n 2, 1) := by decide +kernel
theorem dX5_readSum_79 : decode cX5_readSum 79 = .ok (.iload_n 3, 1) := by decide +kernel
theorem dX5_readSum_80 : decode cX5_readSum 80 = .ok (.ifCond .ne 7, 3) := by decide +kernel
theorem dX5_readSum_83 : decode cX5_readSum 83 = .ok (.iload_n 2, 1) := by decide +kernel
theorem dX5_readSum_84 : decode cX5_readSum 84 = .ok (.ifCond .eq 16, 3) := by decide +kernel
theorem dX5_readSum_87 : decode cX5_readSum 87 = .ok (.aload_n 0, 1) := by decide +kernel
theorem dX5_readSum_88 : decode cX5_readSum 88 = .ok (.iconst 1, 1) := by decide +kernel
theorem dX5_readSum_89 : decode cX5_readSum 89 = .ok (.iconst 2, 1) := by decide +kernel
theorem dX5_readSum_90 : decode cX5_readSum 90 = .ok (.invokevirtual 48, 3) := by decide +kernel
theorem dX5_readSum_93 : decode cX5_readSum 93 = .ok (.ifCond .eq 7, 3) := by decide +kernel
theorem dX5_readSum_96 : decode cX5_readSum 96 = .ok (.iconst 1, 1) := by decide +kernel
theorem dX5_readSum_97 : decode cX5_readSum 97 = .ok (.goto 4, 3) := by decide +kernel
theorem dX5_readSum_100 : decode cX5_readSum 100 = .ok (.iconst 0, 1) := by decide +kernel
theorem dX5_readSum_101 : decode cX5_readSum 101 = .ok (.istore 4, 2) := by decide +kernel
theorem dX5_readSum_103 : decode cX5_readSum 103 = .ok (.iinc 5 1, 3) := by decide +kernel
theorem dX5_readSum_106 : decode cX5_readSum 106 = .ok (.goto (-96), 3) := by decide +kernel
theorem dX5_readSum_109 : decode cX5_readSum 109 = .ok (.iload_n 1, 1) := by decide +kernel
theorem dX5_readSum_110 : decode cX5_readSum 110 = .ok (.ifCond .ne 12, 3) := by decide +kernel
theorem dX5_readSum_113 : decode cX5_readSum 113 = .ok (.aload_n 0, 1) := by decide +kernel
theorem dX5_readSum_114 : decode cX5_readSum 114 = .ok (.getfield 14, 3) := by decide +kernel
theorem dX5_readSum_117 : decode cX5_readSum 117 = .ok (.iconst 0, 1) := by decide +kernel
theorem dX5_readSum_118 : decode cX5_readSum 118 = .ok (.iconst 0, 1) := by decide +kernel
theorem dX5_readSum_119 : decode cX5_readSum 119 = .ok (.invokevirtual 247, 3) := by decide +kernel
theorem dX5_readSum_122 : decode cX5_readSum 122 = .ok (.iconst 1, 1) := by decide +kernel
theorem dX5_readSum_123 : decode cX5_readSum 123 = .ok (.ireturn, 1) := by decide +kernel
theorem dX5_readFactor_0 : decode cX5_readFactor 0 = .ok (.iload_n 1, 1) := by decide +kernel
theorem dX5_readFactor_1 : decode cX5_readFactor 1 = .ok (.bipush 12, 2) := by decide +kernel
theorem dX5_readFactor_3 : decode cX5_readFactor 3 = .ok (.if_icmp .ge 7, 3) := by decide +kernel
theorem dX5_readFactor_6 : decode cX5_readFactor 6 = .ok (.iconst 1, 1) := by decide +kernel
theorem dX5_readFactor_7 : decode cX5_readFactor 7 = .ok (.goto 4, 3) := by decide +kernel
theorem dX5_readFactor_10 : decode cX5_readFactor 10 = .ok (.iconst 0, 1) := by decide +kernel
theorem dX5_readFactor_11 : decode cX5_readFactor 11 = .ok (.istore_n 2, 1) := by decide +kernel
theorem dX5_readFactor_12 : decode cX5_readFactor 12 = .ok (.aload_n 0, 1) := by decide +kernel
theorem dX5_readFactor_13 : decode cX5_readFactor 13 = .ok (.getfield 52, 3) := by decide +kernel
theorem dX5_readFactor_16 : decode cX5_readFactor 16 = .ok (.lookupswitch 282 #[(2, 76), (3, 196), (12, 140), (13, 112), (14, 96), (15, 168), (40, 202), (45, 249)], 76) := by decide +kernel
theorem dX5_readFactor_92 : decode cX5_readFactor 92 = .ok (.aload_n 0, 1) := by decide +kernel
theorem dX5_readFactor_93 : decode cX5_readFactor 93 = .ok (.getfield 14, 3) := by decide +kernel
theorem dX5_readFactor_96 : decode cX5_readFactor 96 = .ok (.iconst 1, 1) := by decide +kernel
theorem dX5_readFactor_97 : decode cX5_readFactor 97 = .ok (.aload_n 0, 1) := by decide +kernel
theorem dX5_readFactor_98 : decode cX5_readFactor 98 = .ok (.getfield 86, 3) := by decide +kernel
theorem dX5_readFactor_101 : decode cX5_readFactor 101 = .ok (.l2i, 1) := by decide +kernel
theorem dX5_readFactor_102 : decode cX5_readFactor 102 = .ok (.invokevirtual 247, 3) := by decide +kernel
theorem dX5_readFactor_105 : decode cX5_readFactor 105 = .ok (.aload_n 0, 1) := by decide +kernel
theorem dX5_readFactor_106 : decode cX5_readFactor 106 = .ok (.iconst 1, 1) := by decide +kernel
theorem dX5_readFactor_107 : decode cX5_readFactor 107 = .ok (.iconst 2, 1) := by decide +kernel
theorem dX5_readFactor_108 : decode cX5_readFactor 108 = .ok (.invokevirtual 48, 3) := by decide +kernel
theorem dX5_readFactor_111 : decode cX5_readFactor 111 = .ok (.ireturn, 1) := by decide +kernel
theorem dX5_readFactor_112 : decode cX5_readFactor 112 = .ok (.aload_n 0, 1) := by decide +kernel
theorem dX5_readFactor_113 : decode cX5_readFactor 113 = .ok (.getfield 14, 3) := by decide +kernel
theorem dX5_readFactor_116 : decode cX5_readFactor 116 = .ok (.iconst 5, 1) := by decide +kernel
theorem dX5_readFactor_117 : decode cX5_readFactor 117 = .ok (.iconst 0, 1) := by decide +kernel
theorem dX5_readFactor_118 : decode cX5_readFactor 118 = .ok (.invokevirtual 247, 3) := by decide +kernel
theorem dX5_readFactor_121 : decode cX5_readFactor 121 = .ok (.aload_n 0, 1) := by decide +kernel
theorem dX5_readFactor_122 : decode cX5_readFactor 122 = .ok (.iconst 1, 1) := by decide +kernel
theorem dX5_readFactor_123 : decode cX5_readFactor 123 = .ok (.iconst 2, 1) := by decide +kernel
theorem dX5_readFactor_124 : decode cX5_readFactor 124 = .ok (.invokevirtual 48, 3) := by decide +kernel
theorem dX5_readFactor_127 : decode cX5_readFactor 127 = .ok (.ireturn, 1) := by decide +kernel
theorem dX5_readFactor_128 : decode cX5_readFactor 128 = .ok (.aload_n 0, 1) := by decide +kernel
theorem dX5_readFactor_129 : decode cX5_readFactor 129 = .ok (.getfield 14, 3) := by decide +kernel
theorem dX5_readFactor_132 : decode cX5_readFactor 132 = .ok (.iconst 2, 1) := by decide +kernel
theorem dX5_readFactor_133 : decode cX5_readFactor 133 = .ok (.iconst 0, 1) := by decide +kernel
theorem dX5_readFactor_134 : decode cX5_readFactor 134 = .ok (.invokevirtual 247, 3) := by decide +kernel
theorem dX5_readFactor_137 : decode cX5_readFactor 137 = .ok (.aload_n 0, 1) := by decide +kernel
theorem dX5_readFactor_138 : decode cX5_readFactor 138 = .ok (.aload_n 0, 1) := by decide +kernel
theorem dX5_readFactor_139 : decode cX5_readFactor 139 = .ok (.getfield 141, 3) := by decide +kernel
theorem dX5_readFactor_142 : decode cX5_readFactor 142 = .ok (.iconst 1, 1) := by decide +kernel
theorem dX5_readFactor_143 : decode cX5_readFactor 143 = .ok (.if_icmp .lt 7, 3) := by decide +kernel
theorem dX5_readFactor_146 : decode cX5_readFactor 146 = .ok (.iconst 1, 1) := by decide +kernel
theorem dX5_readFactor_147 : decode cX5_readFactor 147 = .ok (.goto 4, 3) := by decide +kernel
theorem dX5_readFactor_150 : decode cX5_readFactor 150 = .ok (.iconst 0, 1) := by decide +kernel
theorem dX5_readFactor_151 : decode cX5_readFactor 151 = .ok (.iconst 2, 1) := by decide +kernel
theorem dX5_readFactor_152 : decode cX5_readFactor 152 = .ok (.invokevirtual 48, 3) := by decide +kernel
theorem dX5_readFactor_155 : decode cX5_readFactor 155 = .ok (.ireturn, 1) := by decide +kernel
theorem dX5_readFactor_156 : decode cX5_readFactor 156 = .ok (.aload_n 0, 1) := by decide +kernel
theorem dX5_readFactor_157 : decode cX5_readFactor 157 = .ok (.getfield 14, 3) := by decide +kernel
theorem dX5_readFactor_160 : decode cX5_readFactor 160 = .ok (.iconst 3, 1) := by decide +kernel
theorem dX5_readFactor_161 : decode cX5_readFactor 161 = .ok (.iconst 0, 1) := by decide +kernel
theorem dX5_readFactor_162 : decode cX5_readFactor 162 = .ok (.invokevirtual 247, 3) := by decide +kernel
theorem dX5_readFactor_165 : decode cX5_readFactor 165 = .ok (.aload_n 0, 1) := by decide +kernel
theorem dX5_readFactor_166 : decode cX5_readFactor 166 = .ok (.aload_n 0, 1) := by decide +kernel
theorem dX5_readFactor_167 : decode cX5_readFactor 167 = .ok (.getfield 141, 3) := by decide +kernel
theorem dX5_readFactor_170 : decode cX5_readFactor 170 = .ok (.iconst 2, 1) := by decide +kernel
theorem dX5_readFactor_171 : decode cX5_readFactor 171 = .ok (.if_icmp .lt 7, 3) := by decide +kernel
theorem dX5_readFactor_174 : decode cX5_readFactor 174 = .ok (.iconst 1, 1) := by decide +kernel
theorem dX5_readFactor_175 : decode cX5_readFactor 175 = .ok (.goto 4, 3) := by decide +kernel
theorem dX5_readFactor_178 : decode cX5_readFactor 178 = .ok (.iconst 0, 1) := by decide +kernel
theorem dX5_readFactor_179 : decode cX5_readFactor 179 = .ok (.iconst 2, 1) := by decide +kernel
theorem dX5_readFactor_180 : decode cX5_readFactor 180 = .ok (.invokevirtual 48, 3) := by decide +kernel
theorem dX5_readFactor_183 : decode cX5_readFactor 183 = .ok (.ireturn, 1) := by decide +kernel
theorem dX5_readFactor_184 : decode cX5_readFactor 184 = .ok (.aload_n 0, 1) := by decide +kernel
theorem dX5_readFactor_185 : decode cX5_readFactor 185 = .ok (.getfield 14, 3) := by decide +kernel
theorem dX5_readFactor_188 : decode cX5_readFactor 188 = .ok (.iconst 4, 1) := by decide +kernel
theorem dX5_readFactor_189 : decode cX5_readFactor 189 = .ok (.iconst 0, 1) := by decide +kernel
theorem dX5_readFactor_190 : decode cX5_readFactor 190 = .ok (.invokevirtual 247, 3) := by decide +kernel
theorem dX5_readFactor_193 : decode cX5_readFactor 193 = .ok (.aload_n 0, 1) := by decide +kernel
theorem dX5_readFactor_194 : decode cX5_readFactor 194 = .ok (.aload_n 0, 1) := by decide +kernel
theorem dX5_readFactor_195 : decode cX5_readFactor 195 = .ok (.getfield 141, 3) := by decide +kernel
theorem dX5_readFactor_198 : decode cX5_readFactor 198 = .ok (.iconst 3, 1) := by decide +kernel
theorem dX5_readFactor_199 : decode cX5_readFactor 199 = .ok (.if_icmp .lt 7, 3) := by decide +kernel
theorem dX5_readFactor_202 : decode cX5_readFactor 202 = .ok (.iconst 1, 1) := by decide +kernel
theorem dX5_readFactor_203 : decode cX5_readFactor 203 = .ok (.goto 4, 3) := by decide +kernel
theorem dX5_readFactor_206 : decode cX5_readFactor 206 = .ok (.iconst 0, 1) := by decide +kernel
theorem dX5_readFactor_207 : decode cX5_readFactor 207 = .ok (.iconst 2, 1) := by decide +kernel
theorem dX5_readFactor_208 : decode cX5_readFactor 208 = .ok (.invokevirtual 48, 3) := by decide +kernel
theorem dX5_readFactor_211 : decode cX5_readFactor 211 = .ok (.ireturn, 1) := by decide +kernel
theorem dX5_readFactor_212 : decode cX5_readFactor 212 = .ok (.aload_n 0, 1) := by decide +kernel
theorem dX5_readFactor_213 : decode cX5_readFactor 213 = .ok (.iload_n 1, 1) := by decide +kernel
theorem dX5_readFactor_214 : decode cX5_readFactor 214 = .ok (.invokevirtual 261, 3) := by decide +kernel
theorem dX5_readFactor_217 : decode cX5_readFactor 217 = .ok (.ireturn, 1) := by decide +kernel
theorem dX5_readFactor_218 : decode cX5_readFactor 218 = .ok (.aload_n 0, 1) := by decide +kernel
theorem dX5_readFactor_219 : decode cX5_readFactor 219 = .ok (.iload_n 2, 1) := by decide +kernel
theorem dX5_readFactor_220 : decode cX5_readFactor 220 = .ok (.iconst 5, 1) := by decide +kernel
theorem dX5_readFactor_221 : decode cX5_readFactor 221 = .ok (.invokevirtual 48, 3) := by decide +kernel
theorem dX5_readFactor_224 : decode cX5_readFactor 224 = .ok (.ifCond .eq 39, 3) := by decide +kernel
theorem dX5_readFactor_227 : decode cX5_readFactor 227 = .ok (.aload_n 0, 1) := by decide +kernel
theorem dX5_readFactor_228 : decode cX5_readFactor 228 = .ok (.iload_n 1, 1) := by decide +kernel
theorem dX5_readFactor_229 : decode cX5_readFactor 229 = .ok (.iconst 1, 1) := by decide +kernel
theorem dX5_readFactor_230 : decode cX5_readFactor 230 = .ok (.iadd, 1) := by decide +kernel
theorem dX5_readFactor_231 : decode cX5_readFactor 231 = .ok (.invokevirtual 144, 3) := by decide +kernel
theorem dX5_readFactor_234 : decode cX5_readFactor 234 = .ok (.ifCond .eq 29, 3) := by decide +kernel
theorem dX5_readFactor_237 : decode cX5_readFactor 237 = .ok (.aload_n 0, 1) := by decide +kernel
theorem dX5_readFactor_238 : decode cX5_readFactor 238 = .ok (.aload_n 0, 1) := by decide +kernel
theorem dX5_readFactor_239 : decode cX5_readFactor 239 = .ok (.getfield 52, 3) := by decide +kernel
theorem dX5_readFactor_242 : decode cX5_readFactor 242 = .ok (.bipush 41, 2) := by decide +kernel
theorem dX5_readFactor_244 : decode cX5_readFactor 244 = .ok (.if_icmp .ne 7, 3) := by decide +kernel
theorem dX5_readFactor_247 : decode cX5_readFactor 247 = .ok (.iconst 1, 1) := by decide +kernel
theorem dX5_readFactor_248 : decode cX5_readFactor 248 = .ok (.goto 4, 3) := by decide +kernel
theorem dX5_readFactor_251 : decode cX5_readFactor 251 = .ok (.iconst 0, 1) := by decide +kernel
theorem dX5_readFactor_252 : decode cX5_readFactor 252 = .ok (.iconst 2, 1) := by decide +kernel
theorem dX5_readFactor_253 : decode cX5_readFactor 253 = .ok (.invokevirtual 48, 3) := by decide +kernel
theorem dX5_readFactor_256 : decode cX5_readFactor 256 = .ok (.ifCond .eq 7, 3) := by decide +kernel
theorem dX5_readFactor_259 : decode cX5_readFactor 259 = .ok (.iconst 1, 1) := by decide +kernel
theorem dX5_readFactor_260 : decode cX5_readFactor 260 = .ok (.goto 4, 3) := by decide +kernel
theorem dX5_readFactor_263 : decode cX5_readFactor 263 = .ok (.iconst 0, 1) := by decide +kernel
theorem dX5_readFactor_264 : decode cX5_readFactor 264 = .ok (.ireturn, 1) := by decide +kernel
theorem dX5_readFactor_265 : decode cX5_readFactor 265 = .ok (.aload_n 0, 1) := by decide +kernel
theorem dX5_readFactor_266 : decode cX5_readFactor 266 = .ok (.iload_n 2, 1) := by decide +kernel
theorem dX5_readFactor_267 : decode cX5_readFactor 267 = .ok (.iconst 5, 1) := by decide +kernel
theorem dX5_readFactor_268 : decode cX5_readFactor 268 = .ok (.invokevirtual 48, 3) := by decide +kernel
theorem dX5_readFactor_271 : decode cX5_readFactor 271 = .ok (.ifCond .eq 13, 3) := by decide +kernel
theorem dX5_readFactor_274 : decode cX5_readFactor 274 = .ok (.aload_n 0, 1) := by decide +kernel
theorem dX5_readFactor_275 : decode cX5_readFactor 275 = .ok (.iload_n 1, 1) := by decide +kernel
theorem dX5_readFactor_276 : decode cX5_readFactor 276 = .ok (.iconst 1, 1) := by decide +kernel
theorem dX5_readFactor_277 : decode cX5_readFactor 277 = .ok (.iadd, 1) := by decide +kernel
theorem dX5_readFactor_278 : decode cX5_readFactor 278 = .ok (.invokevirtual 251, 3) := by decide +kernel
theorem dX5_readFactor_281 : decode cX5_readFactor 281 = .ok (.ifCond .ne 5, 3) := by decide +kernel
theorem dX5_readFactor_284 : decode cX5_readFactor 284 = .ok (.iconst 0, 1) := by decide +kernel
theorem dX5_readFactor_285 : decode cX5_readFactor 285 = .ok (.ireturn, 1) := by decide +kernel
theorem dX5_readFactor_286 : decode cX5_readFactor 286 = .ok (.aload_n 0, 1) := by decide +kernel
theorem dX5_readFactor_287 : decode cX5_readFactor 287 = .ok (.getfield 14, 3) := by decide +kernel
theorem dX5_readFactor_290 : decode cX5_readFactor 290 = .ok (.bipush 6, 2) := by decide +kernel
theorem dX5_readFactor_292 : decode cX5_readFactor 292 = .ok (.iconst 0, 1) := by decide +kernel
theorem dX5_readFactor_293 : decode cX5_readFactor 293 = .ok (.invokevirtual 247, 3) := by decide +kernel
theorem dX5_readFactor_296 : decode cX5_readFactor 296 = .ok (.iconst 1, 1) := by decide +kernel
theorem dX5_readFactor_297 : decode cX5_readFactor 297 = .ok (.ireturn, 1) := by decide +kernel
theorem dX5_readFactor_298 : decode cX5_readFactor 298 = .ok (.aload_n 0, 1) := by decide +kernel
theorem dX5_readFactor_299 : decode cX5_readFactor 299 = .ok (.iconst 0, 1) := by decide +kernel
theorem dX5_readFactor_300 : decode cX5_readFactor 300 = .ok (.iconst 2, 1) := by decide +kernel
theorem dX5_readFactor_301 : decode cX5_readFactor 301 = .ok (.invokevirtual 48, 3) := by decide +kernel
theorem dX5_readFactor_304 : decode cX5_readFactor 304 = .ok (.ireturn, 1) := by decide +kernel
theorem dX5_readReference_0 : decode cX5_readReference 0 = .ok (.aload_n 0, 1) := by decide +kernel
theorem dX5_readReference_1 : decode cX5_readReference 1 = .ok (.getfield 45, 3) := by decide +kernel
theorem dX5_readReference_4 : decode cX5_readReference 4 = .ok (.istore_n 2, 1) := by decide +kernel
theorem dX5_readReference_5 : decode cX5_readReference 5 = .ok (.aload_n 0, 1) := by decide +kernel
theorem dX5_readReference_6 : decode cX5_readReference 6 = .ok (.iconst 1, 1) := by decide +kernel
theorem dX5_readReference_7 : decode cX5_readReference 7 = .ok (.iconst 2, 1) := by decide +kernel
theorem dX5_readReference_8 : decode cX5_readReference 8 = .ok (.invokevirtual 48, 3) := by decide +kernel
theorem dX5_readReference_11 : decode cX5_readReference 11 = .ok (.pop, 1) := by decide +kernel
theorem dX5_readReference_12 : decode cX5_readReference 12 = .ok (.aload_n 0, 1) := by decide +kernel
theorem dX5_readReference_13 : decode cX5_readReference 13 = .ok (.getfield 52, 3) := by decide +kernel
theorem dX5_readReference_16 : decode cX5_readReference 16 = .ok (.bipush 46, 2) := by decide +kernel
theorem dX5_readReference_18 : decode cX5_readReference 18 = .ok (.if_icmp .ne 33, 3) := by decide +kernel
theorem dX5_readReference_21 : decode cX5_readReference 21 = .ok (.aload_n 0, 1) := by decide +kernel
theorem dX5_readReference_22 : decode cX5_readReference 22 = .ok (.iconst 1, 1) := by decide +kernel
theorem dX5_readReference_23 : decode cX5_readReference 23 = .ok (.iconst 2, 1) := by decide +kernel
theorem dX5_readReference_24 : decode cX5_readReference 24 = .ok (.invokevirtual 48, 3) := by decide +kernel
theorem dX5_readReference_27 : decode cX5_readReference 27 = .ok (.pop, 1) := by decide +kernel
theorem dX5_readReference_28 : decode cX5_readReference 28 = .ok (.aload_n 0, 1) := by decide +kernel
theorem dX5_readReference_29 : decode cX5_readReference 29 = .ok (.aload_n 0, 1) := by decide +kernel
theorem dX5_readReference_30 : decode cX5_readReference 30 = .ok (.getfield 52, 3) := by decide +kernel
theorem dX5_readReference_33 : decode cX5_readReference 33 = .ok (.iconst 3, 1) := by decide +kernel
theorem dX5_readReference_34 : decode cX5_readReference 34 = .ok (.if_icmp .ne 7, 3) := by decide +kernel
theorem dX5_readReference_37 : decode cX5_readReference 37 = .ok (.iconst 1, 1) := by decide +kernel
theorem dX5_readReference_38 : decode cX5_readReference 38 = .ok (.goto 4, 3) := by decide +kernel
theorem dX5_readReference_41 : decode cX5_readReference 41 = .ok (.iconst 0, 1) := by decide +kernel
theorem dX5_readReference_42 : decode cX5_readReference 42 = .ok (.iconst 2, 1) := by decide +kernel
theorem dX5_readReference_43 : decode cX5_readReference 43 = .ok (.invokevirtual 48, 3) := by decide +kernel
theorem dX5_readReference_46 : decode cX5_readReference 46 = .ok (.ifCond .ne 5, 3) := by decide +kernel
theorem dX5_readReference_49 : decode cX5_readReference 49 = .ok (.iconst 0, 1) := by decide +kernel
theorem dX5_readReference_50 : decode cX5_readReference 50 = .ok (.ireturn, 1) := by decide +kernel
theorem dX5_readReference_51 : decode cX5_readReference 51 = .ok (.aload_n 0, 1) := by decide +kernel
theorem dX5_readReference_52 : decode cX5_readReference 52 = .ok (.getfield 52, 3) := by decide +kernel
theorem dX5_readReference_55 : decode cX5_readReference 55 = .ok (.bipush 91, 2) := by decide +kernel
theorem dX5_readReference_57 : decode cX5_readReference 57 = .ok (.if_icmp .eq 15, 3) := by decide +kernel
theorem dX5_readReference_60 : decode cX5_readReference 60 = .ok (.aload_n 0, 1) := by decide +kernel
theorem dX5_readReference_61 : decode cX5_readReference 61 = .ok (.getfield 14, 3) := by decide +kernel
theorem dX5_readReference_64 : decode cX5_readReference 64 = .ok (.bipush 11, 2) := by decide +kernel
theorem dX5_readReference_66 : decode cX5_readReference 66 = .ok (.iload_n 2, 1) := by decide +kernel
theorem dX5_readReference_67 : decode cX5_readReference 67 = .ok (.invokevirtual 247, 3) := by decide +kernel
theorem dX5_readReference_70 : decode cX5_readReference 70 = .ok (.iconst 1, 1) := by decide +kernel
theorem dX5_readReference_71 : decode cX5_readReference 71 = .ok (.ireturn, 1) := by decide +kernel
theorem dX5_readReference_72 : decode cX5_readReference 72 = .ok (.aload_n 0, 1) := by decide +kernel
theorem dX5_readReference_73 : decode cX5_readReference 73 = .ok (.getfield 14, 3) := by decide +kernel
theorem dX5_readReference_76 : decode cX5_readReference 76 = .ok (.bipush 12, 2) := by decide +kernel
theorem dX5_readReference_78 : decode cX5_readReference 78 = .ok (.iload_n 2, 1) := by decide +kernel
theorem dX5_readReference_79 : decode cX5_readReference 79 = .ok (.invokevirtual 247, 3) := by decide +kernel
theorem dX5_readReference_82 : decode cX5_readReference 82 = .ok (.aload_n 0, 1) := by decide +kernel
theorem dX5_readReference_83 : decode cX5_readReference 83 = .ok (.iload_n 1, 1) := by decide +kernel
theorem dX5_readReference_84 : decode cX5_readReference 84 = .ok (.bipush 12, 2) := by decide +kernel
theorem dX5_readReference_86 : decode cX5_readReference 86 = .ok (.if_icmp .ge 7, 3) := by decide +kernel
theorem dX5_readReference_89 : decode cX5_readReference 89 = .ok (.iconst 1, 1) := by decide +kernel
theorem dX5_readReference_90 : decode cX5_readReference 90 = .ok (.goto 4, 3) := by decide +kernel
theorem dX5_readReference_93 : decode cX5_readReference 93 = .ok (.iconst 0, 1) := by decide +kernel
theorem dX5_readReference_94 : decode cX5_readReference 94 = .ok (.iconst 5, 1) := by decide +kernel
theorem dX5_readReference_95 : decode cX5_readReference 95 = .ok (.invokevirtual 48, 3) := by decide +kernel
theorem dX5_readReference_98 : decode cX5_readReference 98 = .ok (.ifCond .eq 35, 3) := by decide +kernel
theorem dX5_readReference_101 : decode cX5_readReference 101 = .ok (.aload_n 0, 1) := by decide +kernel
theorem dX5_readReference_102 : decode cX5_readReference 102 = .ok (.iload_n 1, 1) := by decide +kernel
theorem dX5_readReference_103 : decode cX5_readReference 103 = .ok (.iconst 1, 1) := by decide +kernel
theorem dX5_readReference_104 : decode cX5_readReference 104 = .ok (.iadd, 1) := by decide +kernel
theorem dX5_readReference_105 : decode cX5_readReference 105 = .ok (.invokevirtual 144, 3) := by decide +kernel
theorem dX5_readReference_108 : decode cX5_readReference 108 = .ok (.ifCond .eq 25, 3) := by decide +kernel
theorem dX5_readReference_111 : decode cX5_readReference 111 = .ok (.aload_n 0, 1) := by decide +kernel
theorem dX5_readReference_112 : decode cX5_readReference 112 = .ok (.aload_n 0, 1) := by decide +kernel
theorem dX5_readReference_113 : decode cX5_readReference 113 = .ok (.getfield 52, 3) := by decide +kernel
theorem dX5_readReference_116 : decode cX5_readReference 116 = .ok (.bipush 93, 2) := by decide +kernel
theorem dX5_readReference_118 : decode cX5_readReference 118 = .ok (.if_icmp .ne 7, 3) := by decide +kernel
theorem dX5_readReference_121 : decode cX5_readReference 121 = .ok (.iconst 1, 1) := by decide +kernel
theorem dX5_readReference_122 : decode cX5_readReference 122 = .ok (.goto 4, 3) := by decide +kernel
theorem dX5_readReference_125 : decode cX5_readReference 125 = .ok (.iconst 0, 1) := by decide +kernel
theorem dX5_readReference_126 : decode cX5_readReference 126 = .ok (.iconst 2, 1) := by decide +kernel
theorem dX5_readReference_127 : decode cX5_readReference 127 = .ok (.invokevirtual 48, 3) := by decide +kernel
theorem dX5_readReference_130 : decode cX5_readReference 130 = .ok (.ifCond .ne 5, 3) := by decide +kernel
theorem dX5_readReference_133 : decode cX5_readReference 133 = .ok (.iconst 0, 1) := by decide +kernel
theorem dX5_readReference_134 : decode cX5_readReference 134 = .ok (.ireturn, 1) := by decide +kernel
theorem dX5_readReference_135 : decode cX5_readReference 135 = .ok (.aload_n 0, 1) := by decide +kernel
theorem dX5_readReference_136 : decode cX5_readReference 136 = .ok (.getfield 14, 3) := by decide +kernel
theorem dX5_readReference_139 : decode cX5_readReference 139 = .ok (.bipush 13, 2) := by decide +kernel
theorem dX5_readReference_141 : decode cX5_readReference 141 = .ok (.iload_n 2, 1) := by decide +kernel
theorem dX5_readReference_142 : decode cX5_readReference 142 = .ok (.invokevirtual 247, 3) := by decide +kernel
theorem dX5_readReference_145 : decode cX5_readReference 145 = .ok (.iconst 1, 1) := by decide +kernel
theorem dX5_readReference_146 : decode cX5_readReference 146 = .ok (.ireturn, 1) := by decide +kernel
theorem dX5_accept_0 : decode cX5_accept 0 = .ok (.aload_n 0, 1) := by decide +kernel
theorem dX5_accept_1 : decode cX5_accept 1 = .ok (.aload_n 0, 1) := by decide +kernel
theorem dX5_accept_2 : decode cX5_accept 2 = .ok (.getfield 52, 3) := by decide +kernel
theorem dX5_accept_5 : decode cX5_accept 5 = .ok (.iload_n 1, 1) := by decide +kernel
theorem dX5_accept_6 : decode cX5_accept 6 = .ok (.if_icmp .ne 7, 3) := by decide +kernel
theorem dX5_accept_9 : decode cX5_accept 9 = .ok (.iconst 1, 1) := by decide +kernel
theorem dX5_accept_10 : decode cX5_accept 10 = .ok (.goto 4, 3) := by decide +kernel
theorem dX5_accept_13 : decode cX5_accept 13 = .ok (.iconst 0, 1) := by decide +kernel
theorem dX5_accept_14 : decode cX5_accept 14 = .ok (.iconst 2, 1) := by decide +kernel
theorem dX5_accept_15 : decode cX5_accept 15 = .ok (.invokevirtual 48, 3) := by decide +kernel
theorem dX5_accept_18 : decode cX5_accept 18 = .ok (.ireturn, 1) := by decide +kernel
theorem dX5_acceptNew_0 : decode cX5_acceptNew 0 = .ok (.aload_n 0, 1) := by decide +kernel
theorem dX5_acceptNew_1 : decode cX5_acceptNew 1 = .ok (.getfield 52, 3) := by decide +kernel
theorem dX5_acceptNew_4 : decode cX5_acceptNew 4 = .ok (.iconst 3, 1) := by decide +kernel
theorem dX5_acceptNew_5 : decode cX5_acceptNew 5 = .ok (.if_icmp .eq 10, 3) := by decide +kernel
theorem dX5_acceptNew_8 : decode cX5_acceptNew 8 = .ok (.aload_n 0, 1) := by decide +kernel
theorem dX5_acceptNew_9 : decode cX5_acceptNew 9 = .ok (.iconst 0, 1) := by decide +kernel
theorem dX5_acceptNew_10 : decode cX5_acceptNew 10 = .ok (.iconst 2, 1) := by decide +kernel
theorem dX5_acceptNew_11 : decode cX5_acceptNew 11 = .ok (.invokevirtual 48, 3) := by decide +kernel
theorem dX5_acceptNew_14 : decode cX5_acceptNew 14 = .ok (.ireturn, 1) := by decide +kernel
theorem dX5_acceptNew_15 : decode cX5_acceptNew 15 = .ok (.aload_n 0, 1) := by decide +kernel
theorem dX5_acceptNew_16 : decode cX5_acceptNew 16 = .ok (.aload_n 0, 1) := by decide +kernel
theorem dX5_acceptNew_17 : decode cX5_acceptNew 17 = .ok (.getfield 86, 3) := by decide +kernel
theorem dX5_acceptNew_20 : decode cX5_acceptNew 20 = .ok (.putfield 100, 3) := by decide +kernel
theorem dX5_acceptNew_23 : decode cX5_acceptNew 23 = .ok (.aload_n 0, 1) := by decide +kernel
theorem dX5_acceptNew_24 : decode cX5_acceptNew 24 = .ok (.iload_n 1, 1) := by decide +kernel
theorem dX5_acceptNew_25 : decode cX5_acceptNew 25 = .ok (.ifCond .ne 11, 3) := by decide +kernel
theorem dX5_acceptNew_28 : decode cX5_acceptNew 28 = .ok (.iload_n 2, 1) := by decide +kernel
theorem dX5_acceptNew_29 : decode cX5_acceptNew 29 = .ok (.ifCond .eq 7, 3) := by decide +kernel
theorem dX5_acceptNew_32 : decode cX5_acceptNew 32 = .ok (.iconst 1, 1) := by decide +kernel
theorem dX5_acceptNew_33 : decode cX5_acceptNew 33 = .ok (.goto 4, 3) := by decide +kernel
theorem dX5_acceptNew_36 : decode cX5_acceptNew 36 = .ok (.iconst 0, 1) := by decide +kernel
theorem dX5_acceptNew_37 : decode cX5_acceptNew 37 = .ok (.iload_n 1, 1) := by decide +kernel
theorem dX5_acceptNew_38 : decode cX5_acceptNew 38 = .ok (.ifCond .eq 7, 3) := by decide +kernel
theorem dX5_acceptNew_41 : decode cX5_acceptNew 41 = .ok (.iconst 3, 1) := by decide +kernel
theorem dX5_acceptNew_42 : decode cX5_acceptNew 42 = .ok (.goto 4, 3) := by decide +kernel
theorem dX5_acceptNew_45 : decode cX5_acceptNew 45 = .ok (.iconst 5, 1) := by decide +kernel
theorem dX5_acceptNew_46 : decode cX5_acceptNew 46 = .ok (.invokevirtual 48, 3) := by decide +kernel
theorem dX5_acceptNew_49 : decode cX5_acceptNew 49 = .ok (.ireturn, 1) := by decide +kernel
theorem dX5_acceptMember_0 : decode cX5_acceptMember 0 = .ok (.aload_n 0, 1) := by decide +kernel
theorem dX5_acceptMember_1 : decode cX5_acceptMember 1 = .ok (.iload_n 1, 1) := by decide +kernel
theorem dX5_acceptMember_2 : decode cX5_acceptMember 2 = .ok (.iconst 5, 1) := by decide +kernel
theorem dX5_acceptMember_3 : decode cX5_acceptMember 3 = .ok (.invokevirtual 48, 3) := by decide +kernel
theorem dX5_acceptMember_6 : decode cX5_acceptMember 6 = .ok (.ifCond .eq 26, 3) := by decide +kernel
theorem dX5_acceptMember_9 : decode cX5_acceptMember 9 = .ok (.aload_n 0, 1) := by decide +kernel
theorem dX5_acceptMember_10 : decode cX5_acceptMember 10 = .ok (.aload_n 0, 1) := by decide +kernel
theorem dX5_acceptMember_11 : decode cX5_acceptMember 11 = .ok (.getfield 106, 3) := by decide +kernel
theorem dX5_acceptMember_14 : decode cX5_acceptMember 14 = .ok (.aload_n 0, 1) := by decide +kernel
theorem dX5_acceptMember_15 : decode cX5_acceptMember 15 = .ok (.getfield 86, 3) := by decide +kernel
theorem dX5_acceptMember_18 : decode cX5_acceptMember 18 = .ok (.invokevirtual 124, 3) := by decide +kernel
theorem dX5_acceptMember_21 : decode cX5_acceptMember 21 = .ok (.iconst 1, 1) := by decide +kernel
theorem dX5_acceptMember_22 : decode cX5_acceptMember 22 = .ok (.invokevirtual 94, 3) := by decide +kernel
theorem dX5_acceptMember_25 : decode cX5_acceptMember 25 = .ok (.ifCond .eq 7, 3) := by decide +kernel
theorem dX5_acceptMember_28 : decode cX5_acceptMember 28 = .ok (.iconst 1, 1) := by decide +kernel
theorem dX5_acceptMember_29 : decode cX5_acceptMember 29 = .ok (.goto 4, 3) := by decide +kernel
theorem dX5_acceptMember_32 : decode cX5_acceptMember 32 = .ok (.iconst 0, 1) := by decide +kernel
theorem dX5_acceptMember_33 : decode cX5_acceptMember 33 = .ok (.ireturn, 1) := by decide +kernel
theorem dX5_pass_0 : decode cX5_pass 0 = .ok (.iload_n 1, 1) := by decide +kernel
theorem dX5_pass_1 : decode cX5_pass 1 = .ok (.ifCond .ne 37, 3) := by decide +kernel
theorem dX5_pass_4 : decode cX5_pass 4 = .ok (.aload_n 0, 1) := by decide +kernel
theorem dX5_pass_5 : decode cX5_pass 5 = .ok (.aload_n 0, 1) := by decide +kernel
theorem dX5_pass_6 : decode cX5_pass 6 = .ok (.getfield 52, 3) := by decide +kernel
theorem dX5_pass_9 : decode cX5_pass 9 = .ok (.ifCond .ne 7, 3) := by decide +kernel
theorem dX5_pass_12 : decode cX5_pass 12 = .ok (.iconst 1, 1) := by decide +kernel
theorem dX5_pass_13 : decode cX5_pass 13 = .ok (.goto 4, 3) := by decide +kernel
theorem dX5_pass_16 : decode cX5_pass 16 = .ok (.iload_n 2, 1) := by decide +kernel
theorem dX5_pass_17 : decode cX5_pass 17 = .ok (.putfield 28, 3) := by decide +kernel
theorem dX5_pass_20 : decode cX5_pass 20 = .ok (.aload_n 0, 1) := by decide +kernel
theorem dX5_pass_21 : decode cX5_pass 21 = .ok (.aload_n 0, 1) := by decide +kernel
theorem dX5_pass_22 : decode cX5_pass 22 = .ok (.getfield 24, 3) := by decide +kernel
theorem dX5_pass_25 : decode cX5_pass 25 = .ok (.getfield 79, 3) := by decide +kernel
theorem dX5_pass_28 : decode cX5_pass 28 = .ok (.aload_n 0, 1) := by decide +kernel
theorem dX5_pass_29 : decode cX5_pass 29 = .ok (.getfield 45, 3) := by decide +kernel
theorem dX5_pass_32 : decode cX5_pass 32 = .ok (.iaload, 1) := by decide +kernel
theorem dX5_pass_33 : decode cX5_pass 33 = .ok (.putfield 32, 3) := by decide +kernel
theorem dX5_pass_36 : decode cX5_pass 36 = .ok (.iconst 0, 1) := by decide +kernel
theorem dX5_pass_37 : decode cX5_pass 37 = .ok (.ireturn, 1) := by decide +kernel
theorem dX5_pass_38 : decode cX5_pass 38 = .ok (.aload_n 0, 1) := by decide +kernel
theorem dX5_pass_39 : decode cX5_pass 39 = .ok (.aload_n 0, 1) := by decide +kernel
theorem dX5_pass_40 : decode cX5_pass 40 = .ok (.getfield 45, 3) := by decide +kernel
theorem dX5_pass_43 : decode cX5_pass 43 = .ok (.iconst 1, 1) := by decide +kernel
theorem dX5_pass_44 : decode cX5_pass 44 = .ok (.iadd, 1) := by decide +kernel
theorem dX5_pass_45 : decode cX5_pass 45 = .ok (.aload_n 0, 1) := by decide +kernel
theorem dX5_pass_46 : decode cX5_pass 46 = .ok (.getfield 24, 3) := by decide +kernel
theorem dX5_pass_49 : decode cX5_pass 49 = .ok (.getfield 264, 3) := by decide +kernel
theorem dX5_pass_52 : decode cX5_pass 52 = .ok (.iconst 1, 1) := by decide +kernel
theorem dX5_pass_53 : decode cX5_pass 53 = .ok (.isub, 1) := by decide +kernel
theorem dX5_pass_54 : decode cX5_pass 54 = .ok (.invokestatic 267, 3) := by decide +kernel
theorem dX5_pass_57 : decode cX5_pass 57 = .ok (.putfield 45, 3) := by decide +kernel
theorem dX5_pass_60 : decode cX5_pass 60 = .ok (.aload_n 0, 1) := by decide +kernel
theorem dX5_pass_61 : decode cX5_pass 61 = .ok (.aload_n 0, 1) := by decide +kernel
theorem dX5_pass_62 : decode cX5_pass 62 = .ok (.getfield 24, 3) := by decide +kernel
theorem dX5_pass_65 : decode cX5_pass 65 = .ok (.getfield 273, 3) := by decide +kernel
theorem dX5_pass_68 : decode cX5_pass 68 = .ok (.aload_n 0, 1) := by decide +kernel
theorem dX5_pass_69 : decode cX5_pass 69 = .ok (.getfield 45, 3) := by decide +kernel
theorem dX5_pass_72 : decode cX5_pass 72 = .ok (.iaload, 1) := by decide +kernel
theorem dX5_pass_73 : decode cX5_pass 73 = .ok (.putfield 52, 3) := by decide +kernel
theorem dX5_pass_76 : decode cX5_pass 76 = .ok (.aload_n 0, 1) := by decide +kernel
theorem dX5_pass_77 : decode cX5_pass 77 = .ok (.aload_n 0, 1) := by decide +kernel
theorem dX5_pass_78 : decode cX5_pass 78 = .ok (.getfield 24, 3) := by decide +kernel
theorem dX5_pass_81 : decode cX5_pass 81 = .ok (.getfield 276, 3) := by decide +kernel
theorem dX5_pass_84 : decode cX5_pass 84 = .ok (.aload_n 0, 1) := by decide +kernel
theorem dX5_pass_85 : decode cX5_pass 85 = .ok (.getfield 45, 3) := by decide +kernel
theorem dX5_pass_88 : decode cX5_pass 88 = .ok (.laload, 1) := by decide +kernel
theorem dX5_pass_89 : decode cX5_pass 89 = .ok (.putfield 86, 3) := by decide +kernel
theorem dX5_pass_92 : decode cX5_pass 92 = .ok (.iconst 1, 1) := by decide +kernel
theorem dX5_pass_93 : decode cX5_pass 93 = .ok (.ireturn, 1) := by decide +kernel
theorem dX6_init_0 : decode cX6_init 0 = .ok (.aload_n 0, 1) := by decide +kernel
theorem dX6_init_1 : decode cX6_init 1 = .ok (.invokespecial 3, 3) := by decide +kernel
theorem dX6_init_4 : decode cX6_init 4 = .ok (.aload_n 0, 1) := by decide +kernel
theorem dX6_init_5 : decode cX6_init 5 = .ok (.iconst 0, 1) := by decide +kernel
theorem dX6_init_6 : decode cX6_init 6 = .ok (.newarray .int, 2) := by decide +kernel
theorem dX6_init_8 : decode cX6_init 8 = .ok (.putfield 9, 3) := by decide +kernel
theorem dX6_init_11 : decode cX6_init 11 = .ok (.aload_n 0, 1) := by decide +kernel
theorem dX6_init_12 : decode cX6_init 12 = .ok (.iload_n 1, 1) := by decide +kernel
theorem dX6_init_13 : decode cX6_init 13 = .ok (.putfield 15, 3) := by decide +kernel
theorem dX6_init_16 : decode cX6_init 16 = .ok (.aload_n 0, 1) := by decide +kernel
theorem dX6_init_17 : decode cX6_init 17 = .ok (.iload_n 2, 1) := by decide +kernel
theorem dX6_init_18 : decode cX6_init 18 = .ok (.putfield 19, 3) := by decide +kernel
theorem dX6_init_21 : decode cX6_init 21 = .ok (.aload_n 0, 1) := by decide +kernel
theorem dX6_init_22 : decode cX6_init 22 = .ok (.iload_n 3, 1) := by decide +kernel
theorem dX6_init_23 : decode cX6_init 23 = .ok (.putfield 22, 3) := by decide +kernel
theorem dX6_init_26 : decode cX6_init 26 = .ok (.return_, 1) := by decide +kernel
theorem dX6_contains_0 : decode cX6_contains 0 = .ok (.aload_n 0, 1) := by decide +kernel
theorem dX6_contains_1 : decode cX6_contains 1 = .ok (.getfield 22, 3) := by decide +kernel
theorem dX6_contains_4 : decode cX6_contains 4 = .ok (.iload_n 1, 1) := by decide +kernel
theorem dX6_contains_5 : decode cX6_contains 5 = .ok (.iushr, 1) := by decide +kernel
theorem dX6_contains_6 : decode cX6_contains 6 = .ok (.iconst 1, 1) := by decide +kernel
theorem dX6_contains_7 : decode cX6_contains 7 = .ok (.iand, 1) := by decide +kernel
theorem dX6_contains_8 : decode cX6_contains 8 = .ok (.ifCond .eq 7, 3) := by decide +kernel
theorem dX6_contains_11 : decode cX6_contains 11 = .ok (.iconst 1, 1) := by decide +kernel
theorem dX6_contains_12 : decode cX6_contains 12 = .ok (.goto 4, 3) := by decide +kernel
theorem dX6_contains_15 : decode cX6_contains 15 = .ok (.iconst 0, 1) := by decide +kernel
theorem dX6_contains_16 : decode cX6_contains 16 = .ok (.ireturn, 1) := by decide +kernel
theorem dX6_include_0 : decode cX6_include 0 = .ok (.aload_n 0, 1) := by decide +kernel
theorem dX6_include_1 : decode cX6_include 1 = .ok (.iload_n 1, 1) := by decide +kernel
theorem dX6_include_2 : decode cX6_include 2 = .ok (.invokevirtual 25, 3) := by decide +kernel
theorem dX6_include_5 : decode cX6_include 5 = .ok (.ifCond .ne 7, 3) := by decide +kernel
theorem dX6_include_8 : decode cX6_include 8 = .ok (.iconst 1, 1) := by decide +kernel
theorem dX6_include_9 : decode cX6_include 9 = .ok (.goto 4, 3) := by decide +kernel
theorem dX6_include_12 : decode cX6_include 12 = .ok (.iconst 0, 1) := by decide +kernel
theorem dX6_include_13 : decode cX6_include 13 = .ok (.istore_n 2, 1) := by decide +kernel
theorem dX6_include_14 : decode cX6_include 14 = .ok (.aload_n 0, 1) := by decide +kernel
theorem dX6_include_15 : decode cX6_include 15 = .ok (.dup, 1) := by decide +kernel
theorem dX6_include_16 : decode cX6_include 16 = .ok (.getfield 22, 3) := by decide +kernel
theorem dX6_include_19 : decode cX6_include 19 = .ok (.iconst 1, 1) := by decide +kernel
theorem dX6_include_20 : decode cX6_include 20 = .ok (.iload_n 1, 1) := by decide +kernel
theorem dX6_include_21 : decode cX6_include 21 = .ok (.ishl, 1) := by decide +kernel
theorem dX6_include_22 : decode cX6_include 22 = .ok (.ior, 1) := by decide +kernel
theorem dX6_include_23 : decode cX6_include 23 = .ok (.putfield 22, 3) := by decide +kernel
theorem dX6_include_26 : decode cX6_include 26 = .ok (.iload_n 2, 1) := by decide +kernel
theorem dX6_include_27 : decode cX6_include 27 = .ok (.ireturn, 1) := by decide +kernel
theorem dX6_exclude_0 : decode cX6_exclude 0 = .ok (.aload_n 0, 1) := by decide +kernel
theorem dX6_exclude_1 : decode cX6_exclude 1 = .ok (.iload_n 1, 1) := by decide +kernel
theorem dX6_exclude_2 : decode cX6_exclude 2 = .ok (.invokevirtual 25, 3) := by decide +kernel
theorem dX6_exclude_5 : decode cX6_exclude 5 = .ok (.istore_n 2, 1) := by decide +kernel
theorem dX6_exclude_6 : decode cX6_exclude 6 = .ok (.aload_n 0, 1) := by decide +kernel
theorem dX6_exclude_7 : decode cX6_exclude 7 = .ok (.dup, 1) := by decide +kernel
theorem dX6_exclude_8 : decode cX6_exclude 8 = .ok (.getfield 22, 3) := by decide +kernel
theorem dX6_exclude_11 : decode cX6_exclude 11 = .ok (.iconst 1, 1) := by decide +kernel
theorem dX6_exclude_12 : decode cX6_exclude 12 = .ok (.iload_n 1, 1) := by decide +kernel
theorem dX6_exclude_13 : decode cX6_exclude 13 = .ok (.ishl, 1) := by decide +kernel
theorem dX6_exclude_14 : decode cX6_exclude 14 = .ok (.iconst (-1), 1) := by decide +kernel
theorem dX6_exclude_15 : decode cX6_exclude 15 = .ok (.ixor, 1) := by decide +kernel
theorem dX6_exclude_16 : decode cX6_exclude 16 = .ok (.iand, 1) := by decide +kernel
theorem dX6_exclude_17 : decode cX6_exclude 17 = .ok (.putfield 22, 3) := by decide +kernel
theorem dX6_exclude_20 : decode cX6_exclude 20 = .ok (.iload_n 2, 1) := by decide +kernel
theorem dX6_exclude_21 : decode cX6_exclude 21 = .ok (.ireturn, 1) := by decide +kernel
theorem dX6_ordinalAt_0 : decode cX6_ordinalAt 0 = .ok (.iload_n 1, 1) := by decide +kernel
theorem dX6_ordinalAt_1 : decode cX6_ordinalAt 1 = .ok (.istore_n 2, 1) := by decide +kernel
theorem dX6_ordinalAt_2 : decode cX6_ordinalAt 2 = .ok (.iconst 0, 1) := by decide +kernel
theorem dX6_ordinalAt_3 : decode cX6_ordinalAt 3 = .ok (.istore_n 3, 1) := by decide +kernel
theorem dX6_ordinalAt_4 : decode cX6_ordinalAt 4 = .ok (.iload_n 3, 1) := by decide +kernel
theorem dX6_ordinalAt_5 : decode cX6_ordinalAt 5 = .ok (.bipush 24, 2) := by decide +kernel
theorem dX6_ordinalAt_7 : decode cX6_ordinalAt 7 = .ok (.if_icmp .ge 26, 3) := by decide +kernel
theorem dX6_ordinalAt_10 : decode cX6_ordinalAt 10 = .ok (.aload_n 0, 1) := by decide +kernel
theorem dX6_ordinalAt_11 : decode cX6_ordinalAt 11 = .ok (.iload_n 3, 1) := by decide +kernel
theorem dX6_ordinalAt_12 : decode cX6_ordinalAt 12 = .ok (.invokevirtual 25, 3) := by decide +kernel
theorem dX6_ordinalAt_15 : decode cX6_ordinalAt 15 = .ok (.ifCond .eq 12, 3) := by decide +kernel
theorem dX6_ordinalAt_18 : decode cX6_ordinalAt 18 = .ok (.iload_n 2, 1) := by decide +kernel
theorem dX6_ordinalAt_19 : decode cX6_ordinalAt 19 = .ok (.ifCond .ne 5, 3) := by decide +kernel
theorem dX6_ordinalAt_22 : decode cX6_ordinalAt 22 = .ok (.iload_n 3, 1) := by decide +kernel
theorem dX6_ordinalAt_23 : decode cX6_ordinalAt 23 = .ok (.ireturn, 1) := by decide +kernel
theorem dX6_ordinalAt_24 : decode cX6_ordinalAt 24 = .ok (.iinc 2 (-1), 3) := by decide +kernel
theorem dX6_ordinalAt_27 : decode cX6_ordinalAt 27 = .ok (.iinc 3 1, 3) := by decide +kernel
theorem dX6_ordinalAt_30 : decode cX6_ordinalAt 30 = .ok (.goto (-26), 3) := by decide +kernel
theorem dX6_ordinalAt_33 : decode cX6_ordinalAt 33 = .ok (.iconst (-1), 1) := by decide +kernel
theorem dX6_ordinalAt_34 : decode cX6_ordinalAt 34 = .ok (.ireturn, 1) := by decide +kernel
theorem dX7_init_0 : decode cX7_init 0 = .ok (.aload_n 0, 1) := by decide +kernel
theorem dX7_init_1 : decode cX7_init 1 = .ok (.invokespecial 3, 3) := by decide +kernel
theorem dX7_init_4 : decode cX7_init 4 = .ok (.aload_n 0, 1) := by decide +kernel
theorem dX7_init_5 : decode cX7_init 5 = .ok (.bipush 12, 2) := by decide +kernel
theorem dX7_init_7 : decode cX7_init 7 = .ok (.newarray .long, 2) := by decide +kernel
theorem dX7_init_9 : decode cX7_init 9 = .ok (.putfield 9, 3) := by decide +kernel
theorem dX7_init_12 : decode cX7_init 12 = .ok (.aload_n 0, 1) := by decide +kernel
theorem dX7_init_13 : decode cX7_init 13 = .ok (.bipush 12, 2) := by decide +kernel
theorem dX7_init_15 : decode cX7_init 15 = .ok (.newarray .int, 2) := by decide +kernel
theorem dX7_init_17 : decode cX7_init 17 = .ok (.putfield 15, 3) := by decide +kernel
theorem dX7_init_20 : decode cX7_init 20 = .ok (.aload_n 0, 1) := by decide +kernel
theorem dX7_init_21 : decode cX7_init 21 = .ok (.lload_n 1, 1) := by decide +kernel
theorem dX7_init_22 : decode cX7_init 22 = .ok (.putfield 19, 3) := by decide +kernel
theorem dX7_init_25 : decode cX7_init 25 = .ok (.return_, 1) := by decide +kernel
theorem dX7_hasCase_0 : decode cX7_hasCase 0 = .ok (.iconst 0, 1) := by decide +kernel
theorem dX7_hasCase_1 : decode cX7_hasCase 1 = .ok (.istore_n 3, 1) := by decide +kernel
theorem dX7_hasCase_2 : decode cX7_hasCase 2 = .ok (.iload_n 3, 1) := by decide +kernel
theorem dX7_hasCase_3 : decode cX7_hasCase 3 = .ok (.aload_n 0, 1) := by decide +kernel
theorem dX7_hasCase_4 : decode cX7_hasCase 4 = .ok (.getfield 23, 3) := by decide +kernel
theorem dX7_hasCase_7 : decode cX7_hasCase 7 = .ok (.if_icmp .ge 22, 3) := by decide +kernel
theorem dX7_hasCase_10 : decode cX7_hasCase 10 = .ok (.aload_n 0, 1) := by decide +kernel
theorem dX7_hasCase_11 : decode cX7_hasCase 11 = .ok (.getfield 9, 3) := by decide +kernel
theorem dX7_hasCase_14 : decode cX7_hasCase 14 = .ok (.iload_n 3, 1) := by decide +kernel
theorem dX7_hasCase_15 : decode cX7_hasCase 15 = .ok (.laload, 1) := by decide +kernel
theorem dX7_hasCase_16 : decode cX7_hasCase 16 = .ok (.lload_n 1, 1) := by decide +kernel
theorem dX7_hasCase_17 : decode cX7_hasCase 17 = .ok (.lcmp, 1) := by decide +kernel
theorem dX7_hasCase_18 : decode cX7_hasCase 18 = .ok (.ifCond .ne 5, 3) := by decide +kernel
theorem dX7_hasCase_21 : decode cX7_hasCase 21 = .ok (.iconst 1, 1) := by decide +kernel
theorem dX7_hasCase_22 : decode cX7_hasCase 22 = .ok (.ireturn, 1) := by decide +kernel
theorem dX7_hasCase_23 : decode cX7_hasCase 23 = .ok (.iinc 3 1, 3) := by decide +kernel
theorem dX7_hasCase_26 : decode cX7_hasCase 26 = .ok (.goto (-24), 3) := by decide +kernel
theorem dX7_hasCase_29 : decode cX7_hasCase 29 = .ok (.iconst 0, 1) := by decide +kernel
theorem dX7_hasCase_30 : decode cX7_hasCase 30 = .ok (.ireturn, 1) := by decide +kernel
theorem dX8_init_0 : decode cX8_init 0 = .ok (.aload_n 0, 1) := by decide +kernel
theorem dX8_init_1 : decode cX8_init 1 = .ok (.invokespecial 3, 3) := by decide +kernel
theorem dX8_init_4 : decode cX8_init 4 = .ok (.aload_n 0, 1) := by decide +kernel
theorem dX8_init_5 : decode cX8_init 5 = .ok (.bipush 12, 2) := by decide +kernel
theorem dX8_init_7 : decode cX8_init 7 = .ok (.newarray .int, 2) := by decide +kernel
theorem dX8_init_9 : decode cX8_init 9 = .ok (.putfield 9, 3) := by decide +kernel
theorem dX8_init_12 : decode cX8_init 12 = .ok (.aload_n 0, 1) := by decide +kernel
theorem dX8_init_13 : decode cX8_init 13 = .ok (.bipush 12, 2) := by decide +kernel
theorem dX8_init_15 : decode cX8_init 15 = .ok (.newarray .int, 2) := by decide +kernel
theorem dX8_init_17 : decode cX8_init 17 = .ok (.putfield 15, 3) := by decide +kernel
theorem dX8_init_20 : decode cX8_init 20 = .ok (.aload_n 0, 1) := by decide +kernel
theorem dX8_init_21 : decode cX8_init 21 = .ok (.lload_n 1, 1) := by decide +kernel
theorem dX8_init_22 : decode cX8_init 22 = .ok (.putfield 18, 3) := by decide +kernel
theorem dX8_init_25 : decode cX8_init 25 = .ok (.return_, 1) := by decide +kernel
theorem dX9_init_0 : decode cX9_init 0 = .ok (.aload_n 0, 1) := by decide +kernel
theorem dX9_init_1 : decode cX9_init 1 = .ok (.invokespecial 3, 3) := by decide +kernel
theorem dX9_init_4 : decode cX9_init 4 = .ok (.aload_n 0, 1) := by decide +kernel
theorem dX9_init_5 : decode cX9_init 5 = .ok (.sipush 3001, 3) := by decide +kernel
theorem dX9_init_8 : decode cX9_init 8 = .ok (.newarray .int, 2) := by decide +kernel
theorem dX9_init_10 : decode cX9_init 10 = .ok (.putfield 9, 3) := by decide +kernel
theorem dX9_init_13 : decode cX9_init 13 = .ok (.aload_n 0, 1) := by decide +kernel
theorem dX9_init_14 : decode cX9_init 14 = .ok (.sipush 3001, 3) := by decide +kernel
theorem dX9_init_17 : decode cX9_init 17 = .ok (.newarray .int, 2) := by decide +kernel
theorem dX9_init_19 : decode cX9_init 19 = .ok (.putfield 15, 3) := by decide +kernel
theorem dX9_init_22 : decode cX9_init 22 = .ok (.aload_n 0, 1) := by decide +kernel
theorem dX9_init_23 : decode cX9_init 23 = .ok (.sipush 3001, 3) := by decide +kernel
theorem dX9_init_26 : decode cX9_init 26 = .ok (.newarray .long, 2) := by decide +kernel
theorem dX9_init_28 : decode cX9_init 28 = .ok (.putfield 18, 3) := by decide +kernel
theorem dX9_init_31 : decode cX9_init 31 = .ok (.aload_n 0, 1) := by decide +kernel
theorem dX9_init_32 : decode cX9_init 32 = .ok (.iconst 1, 1) := by decide +kernel
theorem dX9_init_33 : decode cX9_init 33 = .ok (.putfield 22, 3) := by decide +kernel
theorem dX9_init_36 : decode cX9_init 36 = .ok (.aload_n 0, 1) := by decide +kernel
theorem dX9_init_37 : decode cX9_init 37 = .ok (.bipush 12, 2) := by decide +kernel
theorem dX9_init_39 : decode cX9_init 39 = .ok (.newarray .long, 2) := by decide +kernel
theorem dX9_init_41 : decode cX9_init 41 = .ok (.putfield 26, 3) := by decide +kernel
theorem dX9_init_44 : decode cX9_init 44 = .ok (.lconst 0, 1) := by decide +kernel
theorem dX9_init_45 : decode cX9_init 45 = .ok (.lstore_n 1, 1) := by decide +kernel
theorem dX9_init_46 : decode cX9_init 46 = .ok (.iconst 0, 1) := by decide +kernel
theorem dX9_init_47 : decode cX9_init 47 = .ok (.istore_n 3, 1) := by decide +kernel
theorem dX9_init_48 : decode cX9_init 48 = .ok (.iconst 0, 1) := by decide +kernel
theorem dX9_init_49 : decode cX9_init 49 = .ok (.istore 4, 2) := by decide +kernel
theorem dX9_init_51 : decode cX9_init 51 = .ok (.iload 4, 2) := by decide +kernel
theorem dX9_init_53 : decode cX9_init 53 = .ok (.ldc 29, 2) := by decide +kernel
theorem dX9_init_55 : decode cX9_init 55 = .ok (.invokevirtual 31, 3) := by decide +kernel
theorem dX9_init_58 : decode cX9_init 58 = .ok (.if_icmp .ge 57, 3) := by decide +kernel
theorem dX9_init_61 : decode cX9_init 61 = .ok (.ldc 29, 2) := by decide +kernel
theorem dX9_init_63 : decode cX9_init 63 = .ok (.iload 4, 2) := by decide +kernel
theorem dX9_init_65 : decode cX9_init 65 = .ok (.invokevirtual 37, 3) := by decide +kernel
theorem dX9_init_68 : decode cX9_init 68 = .ok (.invokestatic 41, 3) := by decide +kernel
theorem dX9_init_71 : decode cX9_init 71 = .ok (.istore 5, 2) := by decide +kernel
theorem dX9_init_73 : decode cX9_init 73 = .ok (.iload 5, 2) := by decide +kernel
theorem dX9_init_75 : decode cX9_init 75 = .ok (.ifCond .le 16, 3) := by decide +kernel
theorem dX9_init_78 : decode cX9_init 78 = .ok (.lload_n 1, 1) := by decide +kernel
theorem dX9_init_79 : decode cX9_init 79 = .ok (.ldc2_w 45, 3) := by decide +kernel
theorem dX9_init_82 : decode cX9_init 82 = .ok (.lmul, 1) := by decide +kernel
theorem dX9_init_83 : decode cX9_init 83 = .ok (.iload 5, 2) := by decide +kernel
theorem dX9_init_85 : decode cX9_init 85 = .ok (.i2l, 1) := by decide +kernel
theorem dX9_init_86 : decode cX9_init 86 = .ok (.ladd, 1) := by decide +kernel
theorem dX9_init_87 : decode cX9_init 87 = .ok (.lstore_n 1, 1) := by decide +kernel
theorem dX9_init_88 : decode cX9_init 88 = .ok (.goto 21, 3) := by decide +kernel
theorem dX9_init_91 : decode cX9_init 91 = .ok (.iload_n 3, 1) := by decide +kernel
theorem dX9_init_92 : decode cX9_init 92 = .ok (.bipush 12, 2) := by decide +kernel
theorem dX9_init_94 : decode cX9_init 94 = .ok (.if_icmp .ge 15, 3) := by decide +kernel
theorem dX9_init_97 : decode cX9_init 97 = .ok (.aload_n 0, 1) := by decide +kernel
theorem dX9_init_98 : decode cX9_init 98 = .ok (.getfield 26, 3) := by decide +kernel
theorem dX9_init_101 : decode cX9_init 101 = .ok (.iload_n 3, 1) := by decide +kernel
theorem dX9_init_102 : decode cX9_init 102 = .ok (.lload_n 1, 1) := by decide +kernel
theorem dX9_init_103 : decode cX9_init 103 = .ok (.lastore, 1) := by decide +kernel
theorem dX9_init_104 : decode cX9_init 104 = .ok (.iinc 3 1, 3) := by decide +kernel
theorem dX9_init_107 : decode cX9_init 107 = .ok (.lconst 0, 1) := by decide +kernel
theorem dX9_init_108 : decode cX9_init 108 = .ok (.lstore_n 1, 1) := by decide +kernel
theorem dX9_init_109 : decode cX9_init 109 = .ok (.iinc 4 1, 3) := by decide +kernel
theorem dX9_init_112 : decode cX9_init 112 = .ok (.goto (-61), 3) := by decide +kernel
theorem dX9_init_115 : decode cX9_init 115 = .ok (.return_, 1) := by decide +kernel
theorem dX9_cutUp_0 : decode cX9_cutUp 0 = .ok (.aload_n 0, 1) := by decide +kernel
theorem dX9_cutUp_1 : decode cX9_cutUp 1 = .ok (.iconst 0, 1) := by decide +kernel
theorem dX9_cutUp_2 : decode cX9_cutUp 2 = .ok (.putfield 22, 3) := by decide +kernel
theorem dX9_cutUp_5 : decode cX9_cutUp 5 = .ok (.iconst 0, 1) := by decide +kernel
theorem dX9_cutUp_6 : decode cX9_cutUp 6 = .ok (.istore_n 3, 1) := by decide +kernel
theorem dX9_cutUp_7 : decode cX9_cutUp 7 = .ok (.iload_n 3, 1) := by decide +kernel
theorem dX9_cutUp_8 : decode cX9_cutUp 8 = .ok (.iload_n 2, 1) := by decide +kernel
theorem dX9_cutUp_9 : decode cX9_cutUp 9 = .ok (.if_icmp .ge 87, 3) := by decide +kernel
theorem dX9_cutUp_12 : decode cX9_cutUp 12 = .ok (.aload_n 1, 1) := by decide +kernel
theorem dX9_cutUp_13 : decode cX9_cutUp 13 = .ok (.iload_n 3, 1) := by decide +kernel
theorem dX9_cutUp_14 : decode cX9_cutUp 14 = .ok (.baload, 1) := by decide +kernel
theorem dX9_cutUp_15 : decode cX9_cutUp 15 = .ok (.sipush 255, 3) := by decide +kernel
theorem dX9_cutUp_18 : decode cX9_cutUp 18 = .ok (.iand, 1) := by decide +kernel
theorem dX9_cutUp_19 : decode cX9_cutUp 19 = .ok (.istore 4, 2) := by decide +kernel
theorem dX9_cutUp_21 : decode cX9_cutUp 21 = .ok (.iload 4, 2) := by decide +kernel
theorem dX9_cutUp_23 : decode cX9_cutUp 23 = .ok (.invokestatic 41, 3) := by decide +kernel
theorem dX9_cutUp_26 : decode cX9_cutUp 26 = .ok (.ifCond .le 27, 3) := by decide +kernel
theorem dX9_cutUp_29 : decode cX9_cutUp 29 = .ok (.aload_n 1, 1) := by decide +kernel
theorem dX9_cutUp_30 : decode cX9_cutUp 30 = .ok (.iload_n 3, 1) := by decide +kernel
theorem dX9_cutUp_31 : decode cX9_cutUp 31 = .ok (.iload_n 2, 1) := by decide +kernel
theorem dX9_cutUp_32 : decode cX9_cutUp 32 = .ok (.invokestatic 47, 3) := by decide +kernel
theorem dX9_cutUp_35 : decode cX9_cutUp 35 = .ok (.istore 5, 2) := by decide +kernel
theorem dX9_cutUp_37 : decode cX9_cutUp 37 = .ok (.aload_n 0, 1) := by decide +kernel
theorem dX9_cutUp_38 : decode cX9_cutUp 38 = .ok (.aload_n 1, 1) := by decide +kernel
theorem dX9_cutUp_39 : decode cX9_cutUp 39 = .ok (.iload_n 3, 1) := by decide +kernel
theorem dX9_cutUp_40 : decode cX9_cutUp 40 = .ok (.iload 5, 2) := by decide +kernel
theorem dX9_cutUp_42 : decode cX9_cutUp 42 = .ok (.invokevirtual 51, 3) := by decide +kernel
theorem dX9_cutUp_45 : decode cX9_cutUp 45 = .ok (.iload 5, 2) := by decide +kernel
theorem dX9_cutUp_47 : decode cX9_cutUp 47 = .ok (.iconst 1, 1) := by decide +kernel
theorem dX9_cutUp_48 : decode cX9_cutUp 48 = .ok (.isub, 1) := by decide +kernel
theorem dX9_cutUp_49 : decode cX9_cutUp 49 = .ok (.istore_n 3, 1) := by decide +kernel
theorem dX9_cutUp_50 : decode cX9_cutUp 50 = .ok (.goto 40, 3) := by decide +kernel
theorem dX9_cutUp_53 : decode cX9_cutUp 53 = .ok (.iload 4, 2) := by decide +kernel
theorem dX9_cutUp_55 : decode cX9_cutUp 55 = .ok (.bipush 32, 2) := by decide +kernel
theorem dX9_cutUp_57 : decode cX9_cutUp 57 = .ok (.if_icmp .eq 33, 3) := by decide +kernel
theorem dX9_cutUp_60 : decode cX9_cutUp 60 = .ok (.iload 4, 2) := by decide +kernel
theorem dX9_cutUp_62 : decode cX9_cutUp 62 = .ok (.bipush 10, 2) := by decide +kernel
theorem dX9_cutUp_64 : decode cX9_cutUp 64 = .ok (.if_icmp .eq 26, 3) := by decide +kernel
theorem dX9_cutUp_67 : decode cX9_cutUp 67 = .ok (.aload_n 0, 1) := by decide +kernel
theorem dX9_cutUp_68 : decode cX9_cutUp 68 = .ok (.ldc 55, 2) := by decide +kernel
theorem dX9_cutUp_70 : decode cX9_cutUp 70 = .ok (.iload 4, 2) := by decide +kernel
theorem dX9_cutUp_72 : decode cX9_cutUp 72 = .ok (.i2c, 1) := by decide +kernel
theorem dX9_cutUp_73 : decode cX9_cutUp 73 = .ok (.invokevirtual 57, 3) := by decide +kernel
theorem dX9_cutUp_76 : decode cX9_cutUp 76 = .ok (.ifCond .lt 8, 3) := by decide +kernel
theorem dX9_cutUp_79 : decode cX9_cutUp 79 = .ok (.iload 4, 2) := by decide +kernel
theorem dX9_cutUp_81 : decode cX9_cutUp 81 = .ok (.goto 4, 3) := by decide +kernel
theorem dX9_cutUp_84 : decode cX9_cutUp 84 = .ok (.iconst 0, 1) := by decide +kernel
theorem dX9_cutUp_85 : decode cX9_cutUp 85 = .ok (.iload_n 3, 1) := by decide +kernel
theorem dX9_cutUp_86 : decode cX9_cutUp 86 = .ok (.lconst 0, 1) := by decide +kernel
theorem dX9_cutUp_87 : decode cX9_cutUp 87 = .ok (.invokevirtual 60, 3) := by decide +kernel
theorem dX9_cutUp_90 : decode cX9_cutUp 90 = .ok (.iinc 3 1, 3) := by decide +kernel
theorem dX9_cutUp_93 : decode cX9_cutUp 93 = .ok (.goto (-86), 3) := by decide +kernel
theorem dX9_cutUp_96 : decode cX9_cutUp 96 = .ok (.aload_n 0, 1) := by decide +kernel
theorem dX9_cutUp_97 : decode cX9_cutUp 97 = .ok (.iconst 1, 1) := by decide +kernel
theorem dX9_cutUp_98 : decode cX9_cutUp 98 = .ok (.iload_n 2, 1) := by decide +kernel
theorem dX9_cutUp_99 : decode cX9_cutUp 99 = .ok (.lconst 0, 1) := by decide +kernel
theorem dX9_cutUp_100 : decode cX9_cutUp 100 = .ok (.invokevirtual 60, 3) := by decide +kernel
theorem dX9_cutUp_103 : decode cX9_cutUp 103 = .ok (.return_, 1) := by decide +kernel
theorem dX9_lengthOfName_0 : decode cX9_lengthOfName 0 = .ok (.iconst 0, 1) := by decide +kernel
theorem dX9_lengthOfName_1 : decode cX9_lengthOfName 1 = .ok (.istore_n 2, 1) := by decide +kernel
theorem dX9_lengthOfName_2 : decode cX9_lengthOfName 2 = .ok (.lload_n 0, 1) := by decide +kernel
theorem dX9_lengthOfName_3 : decode cX9_lengthOfName 3 = .ok (.lstore_n 3, 1) := by decide +kernel
theorem dX9_lengthOfName_4 : decode cX9_lengthOfName 4 = .ok (.lload_n 3, 1) := by decide +kernel
theorem dX9_lengthOfName_5 : decode cX9_lengthOfName 5 = .ok (.lconst 0, 1) := by decide +kernel
theorem dX9_lengthOfName_6 : decode cX9_lengthOfName 6 = .ok (.lcmp, 1) := by decide +kernel
theorem dX9_lengthOfName_7 : decode cX9_lengthOfName 7 = .ok (.ifCond .le 14, 3) := by decide +kernel
theorem dX9_lengthOfName_10 : decode cX9_lengthOfName 10 = .ok (.iinc 2 1, 3) := by decide +kernel
theorem dX9_lengthOfName_13 : decode cX9_lengthOfName 13 = .ok (.lload_n 3, 1) := by decide +kernel
theorem dX9_lengthOfName_14 : decode cX9_lengthOfName 14 = .ok (.bipush 6, 2) := by decide +kernel
theorem dX9_lengthOfName_16 : decode cX9_lengthOfName 16 = .ok (.lushr, 1) := by decide +kernel
theorem dX9_lengthOfName_17 : decode cX9_lengthOfName 17 = .ok (.lstore_n 3, 1) := by decide +kernel
theorem dX9_lengthOfName_18 : decode cX9_lengthOfName 18 = .ok (.goto (-14), 3) := by decide +kernel
theorem dX9_lengthOfName_21 : decode cX9_lengthOfName 21 = .ok (.iload_n 2, 1) := by decide +kernel
theorem dX9_lengthOfName_22 : decode cX9_lengthOfName 22 = .ok (.ireturn, 1) := by decide +kernel
theorem dX9_signOfName_0 : decode cX9_signOfName 0 = .ok (.lload_n 0, 1) := by decide +kernel
theorem dX9_signOfName_1 : decode cX9_signOfName 1 = .ok (.bipush 6, 2) := by decide +kernel
theorem dX9_signOfName_3 : decode cX9_signOfName 3 = .ok (.lload_n 0, 1) := by decide +kernel
theorem dX9_signOfName_4 : decode cX9_signOfName 4 = .ok (.invokestatic 64, 3) := by decide +kernel
theorem dX9_signOfName_7 : decode cX9_signOfName 7 = .ok (.iconst 1, 1) := by decide +kernel
theorem dX9_signOfName_8 : decode cX9_signOfName 8 = .ok (.isub, 1) := by decide +kernel
theorem dX9_signOfName_9 : decode cX9_signOfName 9 = .ok (.iload_n 2, 1) := by decide +kernel
theorem dX9_signOfName_10 : decode cX9_signOfName 10 = .ok (.isub, 1) := by decide +kernel
theorem dX9_signOfName_11 : decode cX9_signOfName 11 = .ok (.imul, 1) := by decide +kernel
theorem dX9_signOfName_12 : decode cX9_signOfName 12 = .ok (.lushr, 1) := by decide +kernel
theorem dX9_signOfName_13 : decode cX9_signOfName 13 = .ok (.l2i, 1) := by decide +kernel
theorem dX9_signOfName_14 : decode cX9_signOfName 14 = .ok (.bipush 63, 2) := by decide +kernel
theorem dX9_signOfName_16 : decode cX9_signOfName 16 = .ok (.iand, 1) := by decide +kernel
theorem dX9_signOfName_17 : decode cX9_signOfName 17 = .ok (.istore_n 3, 1) := by decide +kernel
theorem dX9_signOfName_18 : decode cX9_signOfName 18 = .ok (.iload_n 3, 1) := by decide +kernel
theorem dX9_signOfName_19 : decode cX9_signOfName 19 = .ok (.iconst 1, 1) := by decide +kernel
theorem dX9_signOfName_20 : decode cX9_signOfName 20 = .ok (.if_icmp .lt 12, 3) := by decide +kernel
theorem dX9_signOfName_23 : decode cX9_signOfName 23 = .ok (.iload_n 3, 1) := by decide +kernel
theorem dX9_signOfName_24 : decode cX9_signOfName 24 = .ok (.ldc 68, 2) := by decide +kernel
theorem dX9_signOfName_26 : decode cX9_signOfName 26 = .ok (.invokevirtual 31, 3) := by decide +kernel
theorem dX9_signOfName_29 : decode cX9_signOfName 29 = .ok (.if_icmp .le 7, 3) := by decide +kernel
theorem dX9_signOfName_32 : decode cX9_signOfName 32 = .ok (.iconst 0, 1) := by decide +kernel
theorem dX9_signOfName_33 : decode cX9_signOfName 33 = .ok (.goto 11, 3) := by decide +kernel
theorem dX9_signOfName_36 : decode cX9_signOfName 36 = .ok (.ldc 68, 2) := by decide +kernel
theorem dX9_signOfName_38 : decode cX9_signOfName 38 = .ok (.iload_n 3, 1) := by decide +kernel
theorem dX9_signOfName_39 : decode cX9_signOfName 39 = .ok (.iconst 1, 1) := by decide +kernel
theorem dX9_signOfName_40 : decode cX9_signOfName 40 = .ok (.isub, 1) := by decide +kernel
theorem dX9_signOfName_41 : decode cX9_signOfName 41 = .ok (.invokevirtual 37, 3) := by decide +kernel
theorem dX9_signOfName_44 : decode cX9_signOfName 44 = .ok (.ireturn, 1) := by decide +kernel
theorem dX9_rankOf_0 : decode cX9_rankOf 0 = .ok (.iload_n 0, 1) := by decide +kernel
theorem dX9_rankOf_1 : decode cX9_rankOf 1 = .ok (.bipush 97, 2) := by decide +kernel
theorem dX9_rankOf_3 : decode cX9_rankOf 3 = .ok (.if_icmp .lt 16, 3) := by decide +kernel
theorem dX9_rankOf_6 : decode cX9_rankOf 6 = .ok (.iload_n 0, 1) := by decide +kernel
theorem dX9_rankOf_7 : decode cX9_rankOf 7 = .ok (.bipush 122, 2) := by decide +kernel
theorem dX9_rankOf_9 : decode cX9_rankOf 9 = .ok (.if_icmp .gt 10, 3) := by decide +kernel
theorem dX9_rankOf_12 : decode cX9_rankOf 12 = .ok (.iload_n 0, 1) := by decide +kernel
theorem dX9_rankOf_13 : decode cX9_rankOf 13 = .ok (.bipush 97, 2) := by decide +kernel
theorem dX9_rankOf_15 : decode cX9_rankOf 15 = .ok (.isub, 1) := by decide +kernel
theorem dX9_rankOf_16 : decode cX9_rankOf 16 = .ok (.iconst 1, 1) := by decide +kernel
theorem dX9_rankOf_17 : decode cX9_rankOf 17 = .ok (.iadd, 1) := by decide +kernel
theorem dX9_rankOf_18 : decode cX9_rankOf 18 = .ok (.ireturn, 1) := by decide +kernel
theorem dX9_rankOf_19 : decode cX9_rankOf 19 = .ok (.iload_n 0, 1) := by decide +kernel
theorem dX9_rankOf_20 : decode cX9_rankOf 20 = .ok (.bipush 65, 2) := by decide +kernel
theorem dX9_rankOf_22 : decode cX9_rankOf 22 = .ok (.if_icmp .lt 17, 3) := by decide +kernel
theorem dX9_rankOf_25 : decode cX9_rankOf 25 = .ok (.iload_n 0, 1) := by decide +kernel
theorem dX9_rankOf_26 : decode cX9_rankOf 26 = .ok (.bipush 90, 2) := by decide +kernel
theorem dX9_rankOf_28 : decode cX9_rankOf 28 = .ok (.if_icmp .gt 11, 3) := by decide +kernel
theorem dX9_rankOf_31 : decode cX9_rankOf 31 = .ok (.iload_n 0, 1) := by decide +kernel
theorem dX9_rankOf_32 : decode cX9_rankOf 32 = .ok (.bipush 65, 2) := by decide +kernel
theorem dX9_rankOf_34 : decode cX9_rankOf 34 = .ok (.isub, 1) := by decide +kernel
theorem dX9_rankOf_35 : decode cX9_rankOf 35 = .ok (.bipush 27, 2) := by decide +kernel
theorem dX9_rankOf_37 : decode cX9_rankOf 37 = .ok (.iadd, 1) := by decide +kernel
theorem dX9_rankOf_38 : decode cX9_rankOf 38 = .ok (.ireturn, 1) := by decide +kernel
theorem dX9_rankOf_39 : decode cX9_rankOf 39 = .ok (.iload_n 0, 1) := by decide +kernel
theorem dX9_rankOf_40 : decode cX9_rankOf 40 = .ok (.invokestatic 70, 3) := by decide +kernel
theorem dX9_rankOf_43 : decode cX9_rankOf 43 = .ok (.ifCond .eq 13, 3) := by decide +kernel
theorem dX9_rankOf_46 : decode cX9_rankOf 46 = .ok (.iload_n 0, 1) := by decide +kernel
theorem dX9_rankOf_47 : decode cX9_rankOf 47 = .ok (.bipush 48, 2) := by decide +kernel
theorem dX9_rankOf_49 : decode cX9_rankOf 49 = .ok (.isub, 1) := by decide +kernel
theorem dX9_rankOf_50 : decode cX9_rankOf 50 = .ok (.bipush 53, 2) := by decide +kernel
theorem dX9_rankOf_52 : decode cX9_rankOf 52 = .ok (.iadd, 1) := by decide +kernel
theorem dX9_rankOf_53 : decode cX9_rankOf 53 = .ok (.goto 4, 3) := by decide +kernel
theorem dX9_rankOf_56 : decode cX9_rankOf 56 = .ok (.iconst 0, 1) := by decide +kernel
theorem dX9_rankOf_57 : decode cX9_rankOf 57 = .ok (.ireturn, 1) := by decide +kernel
theorem dX9_isDigit_0 : decode cX9_isDigit 0 = .ok (.iload_n 0, 1) := by decide +kernel
theorem dX9_isDigit_1 : decode cX9_isDigit 1 = .ok (.bipush 48, 2) := by decide +kernel
theorem dX9_isDigit_3 : decode cX9_isDigit 3 = .ok (.if_icmp .lt 13, 3) := by decide +kernel
theorem dX9_isDigit_6 : decode cX9_isDigit 6 = .ok (.iload_n 0, 1) := by decide +kernel
theorem dX9_isDigit_7 : decode cX9_isDigit 7 = .ok (.bipush 57, 2) := by decide +kernel
theorem dX9_isDigit_9 : decode cX9_isDigit 9 = .ok (.if_icmp .gt 7, 3) := by decide +kernel
theorem dX9_isDigit_12 : decode cX9_isDigit 12 = .ok (.iconst 1, 1) := by decide +kernel
theorem dX9_isDigit_13 : decode cX9_isDigit 13 = .ok (.goto 4, 3) := by decide +kernel
theorem dX9_isDigit_16 : decode cX9_isDigit 16 = .ok (.iconst 0, 1) := by decide +kernel
theorem dX9_isDigit_17 : decode cX9_isDigit 17 = .ok (.ireturn, 1) := by decide +kernel
theorem dX9_rowEnd_0 : decode cX9_rowEnd 0 = .ok (.iload_n 1, 1) := by decide +kernel
theorem dX9_rowEnd_1 : decode cX9_rowEnd 1 = .ok (.istore_n 3, 1) := by decide +kernel
theorem dX9_rowEnd_2 : decode cX9_rowEnd 2 = .ok (.iload_n 3, 1) := by decide +kernel
theorem dX9_rowEnd_3 : decode cX9_rowEnd 3 = .ok (.iload_n 2, 1) := by decide +kernel
theorem dX9_rowEnd_4 : decode cX9_rowEnd 4 = .ok (.if_icmp .ge 18, 3) := by decide +kernel
theorem dX9_rowEnd_7 : decode cX9_rowEnd 7 = .ok (.aload_n 0, 1) := by decide +kernel
theorem dX9_rowEnd_8 : decode cX9_rowEnd 8 = .ok (.iload_n 3, 1) := by decide +kernel
theorem dX9_rowEnd_9 : decode cX9_rowEnd 9 = .ok (.baload, 1) := by decide +kernel
theorem dX9_rowEnd_10 : decode cX9_rowEnd 10 = .ok (.invokestatic 41, 3) := by decide +kernel
theorem dX9_rowEnd_13 : decode cX9_rowEnd 13 = .ok (.ifCond .le 9, 3) := by decide +kernel
theorem dX9_rowEnd_16 : decode cX9_rowEnd 16 = .ok (.iinc 3 1, 3) := by decide +kernel
theorem dX9_rowEnd_19 : decode cX9_rowEnd 19 = .ok (.goto (-17), 3) := by decide +kernel
theorem dX9_rowEnd_22 : decode cX9_rowEnd 22 = .ok (.iload_n 3, 1) := by decide +kernel
theorem dX9_rowEnd_23 : decode cX9_rowEnd 23 = .ok (.ireturn, 1) := by decide +kernel
theorem dX9_keepRow_0 : decode cX9_keepRow 0 = .ok (.aload_n 1, 1) := by decide +kernel
theorem dX9_keepRow_1 : decode cX9_keepRow 1 = .ok (.iload_n 2, 1) := by decide +kernel
theorem dX9_keepRow_2 : decode cX9_keepRow 2 = .ok (.baload, 1) := by decide +kernel
theorem dX9_keepRow_3 : decode cX9_keepRow 3 = .ok (.invokestatic 70, 3) := by decide +kernel
theorem dX9_keepRow_6 : decode cX9_keepRow 6 = .ok (.ifCond .eq 13, 3) := by decide +kernel
theorem dX9_keepRow_9 : decode cX9_keepRow 9 = .ok (.aload_n 0, 1) := by decide +kernel
theorem dX9_keepRow_10 : decode cX9_keepRow 10 = .ok (.aload_n 1, 1) := by decide +kernel
theorem dX9_keepRow_11 : decode cX9_keepRow 11 = .ok (.iload_n 2, 1) := by decide +kernel
theorem dX9_keepRow_12 : decode cX9_keepRow 12 = .ok (.iload_n 3, 1) := by decide +kernel
theorem dX9_keepRow_13 : decode cX9_keepRow 13 = .ok (.invokevirtual 74, 3) := by decide +kernel
theorem dX9_keepRow_16 : decode cX9_keepRow 16 = .ok (.goto 10, 3) := by decide +kernel
theorem dX9_keepRow_19 : decode cX9_keepRow 19 = .ok (.aload_n 0, 1) := by decide +kernel
theorem dX9_keepRow_20 : decode cX9_keepRow 20 = .ok (.aload_n 1, 1) := by decide +kernel
theorem dX9_keepRow_21 : decode cX9_keepRow 21 = .ok (.iload_n 2, 1) := by decide +kernel
theorem dX9_keepRow_22 : decode cX9_keepRow 22 = .ok (.iload_n 3, 1) := by decide +kernel
theorem dX9_keepRow_23 : decode cX9_keepRow 23 = .ok (.invokevirtual 77, 3) := by decide +kernel
theorem dX9_keepRow_26 : decode cX9_keepRow 26 = .ok (.return_, 1) := by decide +kernel
theorem dX9_keepNumber_0 : decode cX9_keepNumber 0 = .ok (.iload_n 3, 1) := by decide +kernel
theorem dX9_keepNumber_1 : decode cX9_keepNumber 1 = .ok (.iload_n 2, 1) := by decide +kernel
theorem dX9_keepNumber_2 : decode cX9_keepNumber 2 = .ok (.isub, 1) := by decide +kernel
theorem dX9_keepNumber_3 : decode cX9_keepNumber 3 = .ok (.bipush 9, 2) := by decide +kernel
theorem dX9_keepNumber_5 : decode cX9_keepNumber 5 = .ok (.if_icmp .gt 7, 3) := by decide +kernel
theorem dX9_keepNumber_8 : decode cX9_keepNumber 8 = .ok (.iconst 1, 1) := by decide +kernel
theorem dX9_keepNumber_9 : decode cX9_keepNumber 9 = .ok (.goto 4, 3) := by decide +kernel
theorem dX9_keepNumber_12 : decode cX9_keepNumber 12 = .ok (.iconst 0, 1) := by decide +kernel
theorem dX9_keepNumber_13 : decode cX9_keepNumber 13 = .ok (.istore 4, 2) := by decide +kernel
theorem dX9_keepNumber_15 : decode cX9_keepNumber 15 = .ok (.lconst 0, 1) := by decide +kernel
theorem dX9_keepNumber_16 : decode cX9_keepNumber 16 = .ok (.lstore 5, 2) := by decide +kernel
theorem dX9_keepNumber_18 : decode cX9_keepNumber 18 = .ok (.iload_n 2, 1) := by decide +kernel
theorem dX9_keepNumber_19 : decode cX9_keepNumber 19 = .ok (.istore 7, 2) := by decide +kernel
theorem dX9_keepNumber_21 : decode cX9_keepNumber 21 = .ok (.iload 7, 2) := by decide +kernel
theorem dX9_keepNumber_23 : decode cX9_keepNumber 23 = .ok (.iload_n 3, 1) := by decide +kernel
theorem dX9_keepNumber_24 : decode cX9_keepNumber 24 = .ok (.if_icmp .ge 40, 3) := by decide +kernel
theorem dX9_keepNumber_27 : decode cX9_keepNumber 27 = .ok (.iload 4, 2) := by decide +kernel
theorem dX9_keepNumber_29 : decode cX9_keepNumber 29 = .ok (.ifCond .eq 35, 3) := by decide +kernel
theorem dX9_keepNumber_32 : decode cX9_keepNumber 32 = .ok (.aload_n 1, 1) := by decide +kernel
theorem dX9_keepNumber_33 : decode cX9_keepNumber 33 = .ok (.iload 7, 2) := by decide +kernel
theorem dX9_keepNumber_35 : decode cX9_keepNumber 35 = .ok (.baload, 1) := by decide +kernel
theorem dX9_keepNumber_36 : decode cX9_keepNumber 36 = .ok (.invokestatic 70, 3) := by decide +kernel
theorem dX9_keepNumber_39 : decode cX9_keepNumber 39 = .ok (.istore 4, 2) := by decide +kernel
theorem dX9_keepNumber_41 : decode cX9_keepNumber 41 = .ok (.lload 5, 2) := by decide +kernel
theorem dX9_keepNumber_43 : decode cX9_keepNumber 43 = .ok (.ldc2_w 80, 3) := by decide +kernel
theorem dX9_keepNumber_46 : decode cX9_keepNumber 46 = .ok (.lmul, 1) := by decide +kernel
theorem dX9_keepNumber_47 : decode cX9_keepNumber 47 = .ok (.aload_n 1, 1) := by decide +kernel
theorem dX9_keepNumber_48 : decode cX9_keepNumber 48 = .ok (.iload 7, 2) := by decide +kernel
theorem dX9_keepNumber_50 : decode cX9_keepNumber 50 = .ok (.baload, 1) := by decide +kernel
theorem dX9_keepNumber_51 : decode cX9_keepNumber 51 = .ok (.bipush 48, 2) := by decide +kernel
theorem dX9_keepNumber_53 : decode cX9_keepNumber 53 = .ok (.isub, 1) := by decide +kernel
theorem dX9_keepNumber_54 : decode cX9_keepNumber 54 = .ok (.i2l, 1) := by decide +kernel
theorem dX9_keepNumber_55 : decode cX9_keepNumber 55 = .ok (.ladd, 1) := by decide +kernel
theorem dX9_keepNumber_56 : decode cX9_keepNumber 56 = .ok (.lstore 5, 2) := by decide +kernel
theorem dX9_keepNumber_58 : decode cX9_keepNumber 58 = .ok (.iinc 7 1, 3) := by decide +kernel
theorem dX9_keepNumber_61 : decode cX9_keepNumber 61 = .ok (.goto (-40), 3) := by decide +kernel
theorem dX9_keepNumber_64 : decode cX9_keepNumber 64 = .ok (.aload_n 0, 1) := by decide +kernel
theorem dX9_keepNumber_65 : decode cX9_keepNumber 65 = .ok (.iload 4, 2) := by decide +kernel
theorem dX9_keepNumber_67 : decode cX9_keepNumber 67 = .ok (.ifCond .eq 7, 3) := by decide +kernel
theorem dX9_keepNumber_70 : decode cX9_keepNumber 70 = .ok (.iconst 2, 1) := by decide +kernel
theorem dX9_keepNumber_71 : decode cX9_keepNumber 71 = .ok (.goto 4, 3) := by decide +kernel
theorem dX9_keepNumber_74 : decode cX9_keepNumber 74 = .ok (.iconst 0, 1) := by decide +kernel
theorem dX9_keepNumber_75 : decode cX9_keepNumber 75 = .ok (.iload_n 2, 1) := by decide +kernel
theorem dX9_keepNumber_76 : decode cX9_keepNumber 76 = .ok (.lload 5, 2) := by decide +kernel
theorem dX9_keepNumber_78 : decode cX9_keepNumber 78 = .ok (.invokevirtual 60, 3) := by decide +kernel
theorem dX9_keepNumber_81 : decode cX9_keepNumber 81 = .ok (.return_, 1) := by decide +kernel
theorem dX9_keepWord_0 : decode cX9_keepWord 0 = .ok (.iload_n 3, 1) := by decide +kernel
theorem dX9_keepWord_1 : decode cX9_keepWord 1 = .ok (.iload_n 2, 1) := by decide +kernel
theorem dX9_keepWord_2 : decode cX9_keepWord 2 = .ok (.isub, 1) := by decide +kernel
theorem dX9_keepWord_3 : decode cX9_keepWord 3 = .ok (.bipush 10, 2) := by decide +kernel
theorem dX9_keepWord_5 : decode cX9_keepWord 5 = .ok (.if_icmp .le 11, 3) := by decide +kernel
theorem dX9_keepWord_8 : decode cX9_keepWord 8 = .ok (.aload_n 0, 1) := by decide +kernel
theorem dX9_keepWord_9 : decode cX9_keepWord 9 = .ok (.iconst 0, 1) := by decide +kernel
theorem dX9_keepWord_10 : decode cX9_keepWord 10 = .ok (.iload_n 2, 1) := by decide +kernel
theorem dX9_keepWord_11 : decode cX9_keepWord 11 = .ok (.lconst 0, 1) := by decide +kernel
theorem dX9_keepWord_12 : decode cX9_keepWord 12 = .ok (.invokevirtual 60, 3) := by decide +kernel
theorem dX9_keepWord_15 : decode cX9_keepWord 15 = .ok (.return_, 1) := by decide +kernel
theorem dX9_keepWord_16 : decode cX9_keepWord 16 = .ok (.lconst 0, 1) := by decide +kernel
theorem dX9_keepWord_17 : decode cX9_keepWord 17 = .ok (.lstore 4, 2) := by decide +kernel
theorem dX9_keepWord_19 : decode cX9_keepWord 19 = .ok (.iload_n 2, 1) := by decide +kernel
theorem dX9_keepWord_20 : decode cX9_keepWord 20 = .ok (.istore 6, 2) := by decide +kernel
theorem dX9_keepWord_22 : decode cX9_keepWord 22 = .ok (.iload 6, 2) := by decide +kernel
theorem dX9_keepWord_24 : decode cX9_keepWord 24 = .ok (.iload_n 3, 1) := by decide +kernel
theorem dX9_keepWord_25 : decode cX9_keepWord 25 = .ok (.if_icmp .ge 26, 3) := by decide +kernel
theorem dX9_keepWord_28 : decode cX9_keepWord 28 = .ok (.lload 4, 2) := by decide +kernel
theorem dX9_keepWord_30 : decode cX9_keepWord 30 = .ok (.ldc2_w 45, 3) := by decide +kernel
theorem dX9_keepWord_33 : decode cX9_keepWord 33 = .ok (.lmul, 1) := by decide +kernel
theorem dX9_keepWord_34 : decode cX9_keepWord 34 = .ok (.aload_n 1, 1) := by decide +kernel
theorem dX9_keepWord_35 : decode cX9_keepWord 35 = .ok (.iload 6, 2) := by decide +kernel
theorem dX9_keepWord_37 : decode cX9_keepWord 37 = .ok (.baload, 1) := by decide +kernel
theorem dX9_keepWord_38 : decode cX9_keepWord 38 = .ok (.invokestatic 41, 3) := by decide +kernel
theorem dX9_keepWord_41 : decode cX9_keepWord 41 = .ok (.i2l, 1) := by decide +kernel
theorem dX9_keepWord_42 : decode cX9_keepWord 42 = .ok (.ladd, 1) := by decide +kernel
theorem dX9_keepWord_43 : decode cX9_keepWord 43 = .ok (.lstore 4, 2) := by decide +kernel
theorem dX9_keepWord_45 : decode cX9_keepWord 45 = .ok (.iinc 6 1, 3) := by decide +kernel
theorem dX9_keepWord_48 : decode cX9_keepWord 48 = .ok (.goto (-26), 3) := by decide +kernel
theorem dX9_keepWord_51 : decode cX9_keepWord 51 = .ok (.aload_n 0, 1) := by decide +kernel
theorem dX9_keepWord_52 : decode cX9_keepWord 52 = .ok (.aload_n 0, 1) := by decide +kernel
theorem dX9_keepWord_53 : decode cX9_keepWord 53 = .ok (.lload 4, 2) := by decide +kernel
theorem dX9_keepWord_55 : decode cX9_keepWord 55 = .ok (.invokevirtual 82, 3) := by decide +kernel
theorem dX9_keepWord_58 : decode cX9_keepWord 58 = .ok (.iload_n 2, 1) := by decide +kernel
theorem dX9_keepWord_59 : decode cX9_keepWord 59 = .ok (.lload 4, 2) := by decide +kernel
theorem dX9_keepWord_61 : decode cX9_keepWord 61 = .ok (.invokevirtual 60, 3) := by decide +kernel
theorem dX9_keepWord_64 : decode cX9_keepWord 64 = .ok (.return_, 1) := by decide +kernel
theorem dX9_kindOfWord_0 : decode cX9_kindOfWord 0 = .ok (.iconst 0, 1) := by decide +kernel
theorem dX9_kindOfWord_1 : decode cX9_kindOfWord 1 = .ok (.istore_n 3, 1) := by decide +kernel
theorem dX9_kindOfWord_2 : decode cX9_kindOfWord 2 = .ok (.iload_n 3, 1) := by decide +kernel
theorem dX9_kindOfWord_3 : decode cX9_kindOfWord 3 = .ok (.bipush 12, 2) := by decide +kernel
theorem dX9_kindOfWord_5 : decode cX9_kindOfWord 5 = .ok (.if_icmp .ge 24, 3) := by decide +kernel
theorem dX9_kindOfWord_8 : decode cX9_kindOfWord 8 = .ok (.aload_n 0, 1) := by decide +kernel
theorem dX9_kindOfWord_9 : decode cX9_kindOfWord 9 = .ok (.getfield 26, 3) := by decide +kernel
theorem dX9_kindOfWord_12 : decode cX9_kindOfWord 12 = .ok (.iload_n 3, 1) := by decide +kernel
theorem dX9_kindOfWord_13 : decode cX9_kindOfWord 13 = .ok (.laload, 1) := by decide +kernel
theorem dX9_kindOfWord_14 : decode cX9_kindOfWord 14 = .ok (.lload_n 1, 1) := by decide +kernel
theorem dX9_kindOfWord_15 : decode cX9_kindOfWord 15 = .ok (.lcmp, 1) := by decide +kernel
theorem dX9_kindOfWord_16 : decode cX9_kindOfWord 16 = .ok (.ifCond .ne 7, 3) := by decide +kernel
theorem dX9_kindOfWord_19 : decode cX9_kindOfWord 19 = .ok (.iconst 4, 1) := by decide +kernel
theorem dX9_kindOfWord_20 : decode cX9_kindOfWord 20 = .ok (.iload_n 3, 1) := by decide +kernel
theorem dX9_kindOfWord_21 : decode cX9_kindOfWord 21 = .ok (.iadd, 1) := by decide +kernel
theorem dX9_kindOfWord_22 : decode cX9_kindOfWord 22 = .ok (.ireturn, 1) := by decide +kernel
theorem dX9_kindOfWord_23 : decode cX9_kindOfWord 23 = .ok (.iinc 3 1, 3) := by decide +kernel
theorem dX9_kindOfWord_26 : decode cX9_kindOfWord 26 = .ok (.goto (-24), 3) := by decide +kernel
theorem dX9_kindOfWord_29 : decode cX9_kindOfWord 29 = .ok (.iconst 3, 1) := by decide +kernel
theorem dX9_kindOfWord_30 : decode cX9_kindOfWord 30 = .ok (.ireturn, 1) := by decide +kernel
theorem dX9_keep_0 : decode cX9_keep 0 = .ok (.aload_n 0, 1) := by decide +kernel
theorem dX9_keep_1 : decode cX9_keep 1 = .ok (.getfield 22, 3) := by decide +kernel
theorem dX9_keep_4 : decode cX9_keep 4 = .ok (.aload_n 0, 1) := by decide +kernel
theorem dX9_keep_5 : decode cX9_keep 5 = .ok (.getfield 9, 3) := by decide +kernel
theorem dX9_keep_8 : decode cX9_keep 8 = .ok (.arraylength, 1) := by decide +kernel
theorem dX9_keep_9 : decode cX9_keep 9 = .ok (.if_icmp .ge 43, 3) := by decide +kernel
theorem dX9_keep_12 : decode cX9_keep 12 = .ok (.aload_n 0, 1) := by decide +kernel
theorem dX9_keep_13 : decode cX9_keep 13 = .ok (.getfield 9, 3) := by decide +kernel
theorem dX9_keep_16 : decode cX9_keep 16 = .ok (.aload_n 0, 1) := by decide +kernel
theorem dX9_keep_17 : decode cX9_keep 17 = .ok (.getfield 22, 3) := by decide +kernel
theorem dX9_keep_20 : decode cX9_keep 20 = .ok (.iload_n 1, 1) := by decide +kernel
theorem dX9_keep_21 : decode cX9_keep 21 = .ok (.iastore, 1) := by decide +kernel
theorem dX9_keep_22 : decode cX9_keep 22 = .ok (.aload_n 0, 1) := by decide +kernel
theorem dX9_keep_23 : decode cX9_keep 23 = .ok (.getfield 15, 3) := by decide +kernel
theorem dX9_keep_26 : decode cX9_keep 26 = .ok (.aload_n 0, 1) := by decide +kernel
theorem dX9_keep_27 : decode cX9_keep 27 = .ok (.getfield 22, 3) := by decide +kernel
theorem dX9_keep_30 : decode cX9_keep 30 = .ok (.iload_n 2, 1) := by decide +kernel
theorem dX9_keep_31 : decode cX9_keep 31 = .ok (.iastore, 1) := by decide +kernel
theorem dX9_keep_32 : decode cX9_keep 32 = .ok (.aload_n 0, 1) := by decide +kernel
theorem dX9_keep_33 : decode cX9_keep 33 = .ok (.getfield 18, 3) := by decide +kernel
theorem dX9_keep_36 : decode cX9_keep 36 = .ok (.aload_n 0, 1) := by decide +kernel
theorem dX9_keep_37 : decode cX9_keep 37 = .ok (.getfield 22, 3) := by decide +kernel
theorem dX9_keep_40 : decode cX9_keep 40 = .ok (.lload_n 3, 1) := by decide +kernel
theorem dX9_keep_41 : decode cX9_keep 41 = .ok (.lastore, 1) := by decide +kernel
theorem dX9_keep_42 : decode cX9_keep 42 = .ok (.aload_n 0, 1) := by decide +kernel
theorem dX9_keep_43 : decode cX9_keep 43 = .ok (.dup, 1) := by decide +kernel
theorem dX9_keep_44 : decode cX9_keep 44 = .ok (.getfield 22, 3) := by decide +kernel
theorem dX9_keep_47 : decode cX9_keep 47 = .ok (.iconst 1, 1) := by decide +kernel
theorem dX9_keep_48 : decode cX9_keep 48 = .ok (.iadd, 1) := by decide +kernel
theorem dX9_keep_49 : decode cX9_keep 49 = .ok (.putfield 22, 3) := by decide +kernel
theorem dX9_keep_52 : decode cX9_keep 52 = .ok (.return_, 1) := by decide +kernel
theorem dX10_init_0 : decode cX10_init 0 = .ok (.aload_n 0, 1) := by decide +kernel
theorem dX10_init_1 : decode cX10_init 1 = .ok (.invokespecial 3, 3) := by decide +kernel
theorem dX10_init_4 : decode cX10_init 4 = .ok (.aload_n 0, 1) := by decide +kernel
theorem dX10_init_5 : decode cX10_init 5 = .ok (.sipush 1000, 3) := by decide +kernel
theorem dX10_init_8 : decode cX10_init 8 = .ok (.newarray .int, 2) := by decide +kernel
theorem dX10_init_10 : decode cX10_init 10 = .ok (.putfield 11, 3) := by decide +kernel
theorem dX10_init_13 : decode cX10_init 13 = .ok (.aload_n 0, 1) := by decide +kernel
theorem dX10_init_14 : decode cX10_init 14 = .ok (.bipush 12, 2) := by decide +kernel
theorem dX10_init_16 : decode cX10_init 16 = .ok (.newarray .int, 2) := by decide +kernel
theorem dX10_init_18 : decode cX10_init 18 = .ok (.putfield 15, 3) := by decide +kernel
theorem dX10_init_21 : decode cX10_init 21 = .ok (.aload_n 0, 1) := by decide +kernel
theorem dX10_init_22 : decode cX10_init 22 = .ok (.bipush 13, 2) := by decide +kernel
theorem dX10_init_24 : decode cX10_init 24 = .ok (.newarray .int, 2) := by decide +kernel
theorem dX10_init_26 : decode cX10_init 26 = .ok (.putfield 18, 3) := by decide +kernel
theorem dX10_init_29 : decode cX10_init 29 = .ok (.aload_n 0, 1) := by decide +kernel
theorem dX10_init_30 : decode cX10_init 30 = .ok (.bipush 13, 2) := by decide +kernel
theorem dX10_init_32 : decode cX10_init 32 = .ok (.newarray .int, 2) := by decide +kernel
theorem dX10_init_34 : decode cX10_init 34 = .ok (.putfield 21, 3) := by decide +kernel
theorem dX10_init_37 : decode cX10_init 37 = .ok (.return_, 1) := by decide +kernel
theorem dX10_beginWith_0 : decode cX10_beginWith 0 = .ok (.aload_n 0, 1) := by decide +kernel
theorem dX10_beginWith_1 : decode cX10_beginWith 1 = .ok (.aload_n 1, 1) := by decide +kernel
theorem dX10_beginWith_2 : decode cX10_beginWith 2 = .ok (.putfield 24, 3) := by decide +kernel
theorem dX10_beginWith_5 : decode cX10_beginWith 5 = .ok (.aload_n 0, 1) := by decide +kernel
theorem dX10_beginWith_6 : decode cX10_beginWith 6 = .ok (.iconst 0, 1) := by decide +kernel
theorem dX10_beginWith_7 : decode cX10_beginWith 7 = .ok (.putfield 28, 3) := by decide +kernel
theorem dX10_beginWith_10 : decode cX10_beginWith 10 = .ok (.aload_n 0, 1) := by decide +kernel
theorem dX10_beginWith_11 : decode cX10_beginWith 11 = .ok (.iconst 0, 1) := by decide +kernel
theorem dX10_beginWith_12 : decode cX10_beginWith 12 = .ok (.putfield 32, 3) := by decide +kernel
theorem dX10_beginWith_15 : decode cX10_beginWith 15 = .ok (.aload_n 0, 1) := by decide +kernel
theorem dX10_beginWith_16 : decode cX10_beginWith 16 = .ok (.iconst 0, 1) := by decide +kernel
theorem dX10_beginWith_17 : decode cX10_beginWith 17 = .ok (.putfield 36, 3) := by decide +kernel
theorem dX10_beginWith_20 : decode cX10_beginWith 20 = .ok (.aload_n 0, 1) := by decide +kernel
theorem dX10_beginWith_21 : decode cX10_beginWith 21 = .ok (.iload_n 2, 1) := by decide +kernel
theorem dX10_beginWith_22 : decode cX10_beginWith 22 = .ok (.invokevirtual 39, 3) := by decide +kernel
theorem dX10_beginWith_25 : decode cX10_beginWith 25 = .ok (.aload_n 0, 1) := by decide +kernel
theorem dX10_beginWith_26 : decode cX10_beginWith 26 = .ok (.getfield 28, 3) := by decide +kernel
theorem dX10_beginWith_29 : decode cX10_beginWith 29 = .ok (.ifCond .ne 7, 3) := by decide +kernel
theorem dX10_beginWith_32 : decode cX10_beginWith 32 = .ok (.iconst 1, 1) := by decide +kernel
theorem dX10_beginWith_33 : decode cX10_beginWith 33 = .ok (.goto 4, 3) := by decide +kernel
theorem dX10_beginWith_36 : decode cX10_beginWith 36 = .ok (.iconst 0, 1) := by decide +kernel
theorem dX10_beginWith_37 : decode cX10_beginWith 37 = .ok (.ireturn, 1) := by decide +kernel
theorem dX10_causeKind_0 : decode cX10_causeKind 0 = .ok (.iload_n 1, 1) := by decide +kernel
theorem dX10_causeKind_1 : decode cX10_causeKind 1 = .ok (.ifCond .lt 11, 3) := by decide +kernel
theorem dX10_causeKind_4 : decode cX10_causeKind 4 = .ok (.iload_n 1, 1) := by decide +kernel
theorem dX10_causeKind_5 : decode cX10_causeKind 5 = .ok (.aload_n 0, 1) := by decide +kernel
theorem dX10_causeKind_6 : decode cX10_causeKind 6 = .ok (.getfield 43, 3) := by decide +kernel
theorem dX10_causeKind_9 : decode cX10_causeKind 9 = .ok (.if_icmp .lt 7, 3) := by decide +kernel
theorem dX10_causeKind_12 : decode cX10_causeKind 12 = .ok (.iconst (-1), 1) := by decide +kernel
theorem dX10_causeKind_13 : decode cX10_causeKind 13 = .ok (.goto 16, 3) := by decide +kernel
theorem dX10_causeKind_16 : decode cX10_causeKind 16 = .ok (.aload_n 0, 1) := by decide +kernel
theorem dX10_causeKind_17 : decode cX10_causeKind 17 = .ok (.getfield 18, 3) := by decide +kernel
theorem dX10_causeKind_20 : decode cX10_causeKind 20 = .ok (.aload_n 0, 1) := by decide +kernel
theorem dX10_causeKind_21 : decode cX10_causeKind 21 = .ok (.getfield 43, 3) := by decide +kernel
theorem dX10_causeKind_24 : decode cX10_causeKind 24 = .ok (.iconst 1, 1) := by decide +kernel
theorem dX10_causeKind_25 : decode cX10_causeKind 25 = .ok (.isub, 1) := by decide +kernel
theorem dX10_causeKind_26 : decode cX10_causeKind 26 = .ok (.iload_n 1, 1) := by decide +kernel
theorem dX10_causeKind_27 : decode cX10_causeKind 27 = .ok (.isub, 1) := by decide +kernel
theorem dX10_causeKind_28 : decode cX10_causeKind 28 = .ok (.iaload, 1) := by decide +kernel
theorem dX10_causeKind_29 : decode cX10_causeKind 29 = .ok (.ireturn, 1) := by decide +kernel
theorem dX10_causeItem_0 : decode cX10_causeItem 0 = .ok (.iload_n 1, 1) := by decide +kernel
theorem dX10_causeItem_1 : decode cX10_causeItem 1 = .ok (.ifCond .lt 11, 3) := by decide +kernel
theorem dX10_causeItem_4 : decode cX10_causeItem 4 = .ok (.iload_n 1, 1) := by decide +kernel
theorem dX10_causeItem_5 : decode cX10_causeItem 5 = .ok (.aload_n 0, 1) := by decide +kernel
theorem dX10_causeItem_6 : decode cX10_causeItem 6 = .ok (.getfield 43, 3) := by decide +kernel
theorem dX10_causeItem_9 : decode cX10_causeItem 9 = .ok (.if_icmp .lt 7, 3) := by decide +kernel
theorem dX10_causeItem_12 : decode cX10_causeItem 12 = .ok (.iconst (-1), 1) := by decide +kernel
theorem dX10_causeItem_13 : decode cX10_causeItem 13 = .ok (.goto 16, 3) := by decide +kernel
theorem dX10_causeItem_16 : decode cX10_causeItem 16 = .ok (.aload_n 0, 1) := by decide +kernel
theorem dX10_causeItem_17 : decode cX10_causeItem 17 = .ok (.getfield 21, 3) := by decide +kernel
theorem dX10_causeItem_20 : decode cX10_causeItem 20 = .ok (.aload_n 0, 1) := by decide +kernel
theorem dX10_causeItem_21 : decode cX10_causeItem 21 = .ok (.getfield 43, 3) := by decide +kernel
theorem dX10_causeItem_24 : decode cX10_causeItem 24 = .ok (.iconst 1, 1) := by decide +kernel
theorem dX10_causeItem_25 : decode cX10_causeItem 25 = .ok (.isub, 1) := by decide +kernel
theorem dX10_causeItem_26 : decode cX10_causeItem 26 = .ok (.iload_n 1, 1) := by decide +kernel
theorem dX10_causeItem_27 : decode cX10_causeItem 27 = .ok (.isub, 1) := by decide +kernel
theorem dX10_causeItem_28 : decode cX10_causeItem 28 = .ok (.iaload, 1) := by decide +kernel
theorem dX10_causeItem_29 : decode cX10_causeItem 29 = .ok (.ireturn, 1) := by decide +kernel
theorem dX10_useItem_0 : decode cX10_useItem 0 = .ok (.aload_n 0, 1) := by decide +kernel
theorem dX10_useItem_1 : decode cX10_useItem 1 = .ok (.getfield 24, 3) := by decide +kernel
theorem dX10_useItem_4 : decode cX10_useItem 4 = .ok (.iload_n 1, 1) := by decide +kernel
theorem dX10_useItem_5 : decode cX10_useItem 5 = .ok (.invokevirtual 46, 3) := by decide +kernel
theorem dX10_useItem_8 : decode cX10_useItem 8 = .ok (.istore_n 2, 1) := by decide +kernel
theorem dX10_useItem_9 : decode cX10_useItem 9 = .ok (.iload_n 2, 1) := by decide +kernel
theorem dX10_useItem_10 : decode cX10_useItem 10 = .ok (.iconst 2, 1) := by decide +kernel
theorem dX10_useItem_11 : decode cX10_useItem 11 = .ok (.if_icmp .ne 12, 3) := by decide +kernel
theorem dX10_useItem_14 : decode cX10_useItem 14 = .ok (.aload_n 0, 1) := by decide +kernel
theorem dX10_useItem_15 : decode cX10_useItem 15 = .ok (.iconst 2, 1) := by decide +kernel
theorem dX10_useItem_16 : decode cX10_useItem 16 = .ok (.iload_n 1, 1) := by decide +kernel
theorem dX10_useItem_17 : decode cX10_useItem 17 = .ok (.invokevirtual 52, 3) := by decide +kernel
theorem dX10_useItem_20 : decode cX10_useItem 20 = .ok (.goto 12, 3) := by decide +kernel
theorem dX10_useItem_23 : decode cX10_useItem 23 = .ok (.iload_n 2, 1) := by decide +kernel
theorem dX10_useItem_24 : decode cX10_useItem 24 = .ok (.ifCond .ne 8, 3) := by decide +kernel
theorem dX10_useItem_27 : decode cX10_useItem 27 = .ok (.aload_n 0, 1) := by decide +kernel
theorem dX10_useItem_28 : decode cX10_useItem 28 = .ok (.iload_n 1, 1) := by decide +kernel
theorem dX10_useItem_29 : decode cX10_useItem 29 = .ok (.invokevirtual 56, 3) := by decide +kernel
theorem dX10_useItem_32 : decode cX10_useItem 32 = .ok (.return_, 1) := by decide +kernel
theorem dX10_perform_0 : decode cX10_perform 0 = .ok (.aload_n 0, 1) := by decide +kernel
theorem dX10_perform_1 : decode cX10_perform 1 = .ok (.iconst 0, 1) := by decide +kernel
theorem dX10_perform_2 : decode cX10_perform 2 = .ok (.putfield 59, 3) := by decide +kernel
theorem dX10_perform_5 : decode cX10_perform 5 = .ok (.aload_n 1, 1) := by decide +kernel
theorem dX10_perform_6 : decode cX10_perform 6 = .ok (.iload_n 2, 1) := by decide +kernel
theorem dX10_perform_7 : decode cX10_perform 7 = .ok (.invokevirtual 62, 3) := by decide +kernel
theorem dX10_perform_10 : decode cX10_perform 10 = .ok (.astore 4, 2) := by decide +kernel
theorem dX10_perform_12 : decode cX10_perform 12 = .ok (.aload 4, 2) := by decide +kernel
theorem dX10_perform_14 : decode cX10_perform 14 = .ok (.ifnull 14, 3) := by decide +kernel
theorem dX10_perform_17 : decode cX10_perform 17 = .ok (.aload 4, 2) := by decide +kernel
theorem dX10_perform_19 : decode cX10_perform 19 = .ok (.getfield 68, 3) := by decide +kernel
theorem dX10_perform_22 : decode cX10_perform 22 = .ok (.iload_n 3, 1) := by decide +kernel
theorem dX10_perform_23 : decode cX10_perform 23 = .ok (.iaload, 1) := by decide +kernel
